section
def XI (G : Gx) (μ : Mem) (x ea nt tl : Nat) (en la rt ou : Nat → Nat) (lk wt : Nat → Nat → Nat) (j : Nat) : Prop := μ.kd x = KS 0 ∧ μ.kd ea = KS 1 ∧ μ.kd nt = KS 2 ∧ μ.kd tl = KS 3 ∧ μ.fr 256 x = some ea ∧ μ.fr 257 x = some nt ∧ μ.fr 258 x = some tl ∧ μ.fi 259 x = 0 ∧ μ.fi 260 x = 0 ∧ μ.fi 261 x = 0 ∧ μ.ln ea = 3 ∧ μ.ln tl = 11 ∧ (∀ i, μ.ei tl i = 0) ∧ ListAt G μ nt [] ∧ ∀ e, e < j → μ.er ea e = some (en e) ∧ EI G μ (en e) (la e) (rt e) (ou e) e (lk e) (wt e) 3
def XW (k : Nat) : Prop := ∃ j, j < 34 ∧ k = KS j
theorem EW_no {e j : Nat} (h1 : j ≠ 4 + e) (h2 : j ≠ 7 + e) (h3 : j ≠ 10 + e) (h4 : j ≠ 13 + e) (h5 : j < 16 + 3 * e ∨ (19 + 3 * e ≤ j ∧ j < 25 + 3 * e) ∨ 28 + 3 * e ≤ j) : ¬ EW e (KS j) := by
  rintro (h | h | h | h | ⟨b, hb, h | h⟩)
  · exact h1 (KS_inj h)
  · exact h2 (KS_inj h)
  · exact h3 (KS_inj h)
  · exact h4 (KS_inj h)
  · have := KS_inj h; omega
  · have := KS_inj h; omega
theorem EW_LM {e ρ : Nat} (he : e < 3) : ¬ EW e (LM ρ) := by
  rintro (h | h | h | h | ⟨b, hb, h | h⟩)
  · exact KS_LM (by omega) h
  · exact KS_LM (by omega) h
  · exact KS_LM (by omega) h
  · exact KS_LM (by omega) h
  · exact KS_LM (by omega) h
  · exact KS_LM (by omega) h
theorem EW_XW {e k : Nat} (he : e < 3) (h : EW e k) : XW k := by
  rcases h with h | h | h | h | ⟨b, hb, h | h⟩
  · exact ⟨_, by omega, h⟩
  · exact ⟨_, by omega, h⟩
  · exact ⟨_, by omega, h⟩
  · exact ⟨_, by omega, h⟩
  · exact ⟨_, by omega, h⟩
  · exact ⟨_, by omega, h⟩
/-- another end's work -/
theorem EI.apart {G : Gx} {μ μ' : Mem} {q la rt ou e e' : Nat} {lk wt : Nat → Nat} (h : EI G μ q la rt ou e lk wt 3) (hf : FrK (EW e') μ μ') (hne : e ≠ e') (he : e < 3) (he' : e' < 3) : EI G μ' q la rt ou e lk wt 3 :=
  h.kept hf (EW_no (by omega) (by omega) (by omega) (by omega) (by omega)) (EW_no (by omega) (by omega) (by omega) (by omega) (by omega)) (EW_no (by omega) (by omega) (by omega) (by omega) (by omega)) (EW_no (by omega) (by omega) (by omega) (by omega) (by omega)) (fun ρ => EW_LM he') (fun b hb => ⟨EW_no (by omega) (by omega) (by omega) (by omega) (by omega), EW_no (by omega) (by omega) (by omega) (by omega) (by omega)⟩)
def S0 : Sx := (fun _ => 0, fun f e => if f = 0 then nI (10 + 10 * e) else 0, fun f _ b => if f = 0 then nI (10 + 10 * b) else if f = 3 then -1 else 0, fun _ => 0, fun _ _ => none, fun _ _ _ => none, fun _ _ => [], fun _ => [], [], [])
def PL (x ea nt tl : Nat) (en la rt ou : Nat → Nat) (lk wt : Nat → Nat → Nat) : Nat → Nat := fun j => if j = 0 then x else if j = 1 then ea else if j = 2 then nt else if j = 3 then tl else if j < 7 then en (j - 4) else if j < 10 then la (j - 7) else if j < 13 then rt (j - 10) else if j < 16 then ou (j - 13) else if j < 25 then lk ((j - 16) / 3) ((j - 16) % 3) else wt ((j - 25) / 3) ((j - 25) % 3)
section
variable {x ea nt tl : Nat} {en la rt ou : Nat → Nat} {lk wt : Nat → Nat → Nat}
theorem PL_E {e : Nat} (h : e < 3) : PL x ea nt tl en la rt ou lk wt (4 + e) = en e := by unfold PL; rw [if_neg (by omega), if_neg (by omega), if_neg (by omega), if_neg (by omega), if_pos (by omega)]; congr 1; omega
theorem PL_LA {e : Nat} (h : e < 3) : PL x ea nt tl en la rt ou lk wt (7 + e) = la e := by unfold PL; rw [if_neg (by omega), if_neg (by omega), if_neg (by omega), if_neg (by omega), if_neg (by omega), if_pos (by omega)]; congr 1; omega
theorem PL_RT {e : Nat} (h : e < 3) : PL x ea nt tl en la rt ou lk wt (10 + e) = rt e := by unfold PL; rw [if_neg (by omega), if_neg (by omega), if_neg (by omega), if_neg (by omega), if_neg (by omega), if_neg (by omega), if_pos (by omega)]; congr 1; omega
theorem PL_OU {e : Nat} (h : e < 3) : PL x ea nt tl en la rt ou lk wt (13 + e) = ou e := by unfold PL; rw [if_neg (by omega), if_neg (by omega), if_neg (by omega), if_neg (by omega), if_neg (by omega), if_neg (by omega), if_neg (by omega), if_pos (by omega)]; congr 1; omega
theorem PL_LK {a b : Nat} (ha : a < 3) (hb : b < 3) : PL x ea nt tl en la rt ou lk wt (16 + 3 * a + b) = lk a b := by
  unfold PL
  rw [if_neg (by omega), if_neg (by omega), if_neg (by omega), if_neg (by omega), if_neg (by omega), if_neg (by omega), if_neg (by omega), if_neg (by omega), if_pos (by omega), show (16 + 3 * a + b - 16) / 3 = a by omega, show (16 + 3 * a + b - 16) % 3 = b by omega]
theorem PL_WT {a b : Nat} (ha : a < 3) (hb : b < 3) : PL x ea nt tl en la rt ou lk wt (25 + 3 * a + b) = wt a b := by
  unfold PL
  rw [if_neg (by omega), if_neg (by omega), if_neg (by omega), if_neg (by omega), if_neg (by omega), if_neg (by omega), if_neg (by omega), if_neg (by omega), if_neg (by omega), show (25 + 3 * a + b - 25) / 3 = a by omega, show (25 + 3 * a + b - 25) % 3 = b by omega]
theorem LR0 {R : Nat → Row → Prop} : LR R [] [] := ⟨rfl, fun i p r h => by cases h⟩
theorem XI.rep {G : Gx} {μ : Mem} (h : XI G μ x ea nt tl en la rt ou lk wt 3) : CRep G (PL x ea nt tl en la rt ou lk wt) S0 μ := by
  obtain ⟨k0, k1, k2, k3, a1, a2, a3, a4, a5, a6, a7, a8, a9, a10, a11⟩ := h
  refine ⟨fun j hj => ?_, ⟨a1, a2, a3⟩, ⟨a4, a5, a6⟩, ⟨a7, a8, fun e he => ?_⟩, fun i _ => a9 i, fun e he => ?_, fun e he => ?_, fun a b ha hb => ?_, fun a b ha hb => ?_, fun a b ha hb => ?_, fun a b ha hb => ?_, fun a b ha hb => ?_, fun e he => ?_, fun e he => ?_, ⟨[], a10, List.nodup_nil, LR0⟩⟩
  · have hj9 : j = 0 ∨ j = 1 ∨ j = 2 ∨ j = 3 ∨ (∃ e, e < 3 ∧ j = 4 + e) ∨ (∃ e, e < 3 ∧ j = 7 + e) ∨ (∃ e, e < 3 ∧ j = 10 + e) ∨ (∃ e, e < 3 ∧ j = 13 + e) ∨ (∃ a b, a < 3 ∧ b < 3 ∧ j = 16 + 3 * a + b) ∨ (∃ a b, a < 3 ∧ b < 3 ∧ j = 25 + 3 * a + b) := by
      by_cases c1 : j < 4
      · omega
      by_cases c2 : j < 7
      · exact Or.inr (Or.inr (Or.inr (Or.inr (Or.inl ⟨j - 4, by omega, by omega⟩))))
      by_cases c3 : j < 10
      · exact Or.inr (Or.inr (Or.inr (Or.inr (Or.inr (Or.inl ⟨j - 7, by omega, by omega⟩)))))
      by_cases c4 : j < 13
      · exact Or.inr (Or.inr (Or.inr (Or.inr (Or.inr (Or.inr (Or.inl ⟨j - 10, by omega, by omega⟩))))))
      by_cases c5 : j < 16
      · exact Or.inr (Or.inr (Or.inr (Or.inr (Or.inr (Or.inr (Or.inr (Or.inl ⟨j - 13, by omega, by omega⟩)))))))
      by_cases c6 : j < 25
      · exact Or.inr (Or.inr (Or.inr (Or.inr (Or.inr (Or.inr (Or.inr (Or.inr (Or.inl ⟨(j - 16) / 3, (j - 16) % 3, by omega, by omega, by omega⟩))))))))
      · exact Or.inr (Or.inr (Or.inr (Or.inr (Or.inr (Or.inr (Or.inr (Or.inr (Or.inr ⟨(j - 25) / 3, (j - 25) % 3, by omega, by omega, by omega⟩))))))))
    rcases hj9 with rfl | rfl | rfl | rfl | ⟨e, he, rfl⟩ | ⟨e, he, rfl⟩ | ⟨e, he, rfl⟩ | ⟨e, he, rfl⟩ | ⟨a, b, ha, hb, rfl⟩ | ⟨a, b, ha, hb, rfl⟩
    · exact k0
    · exact k1
    · exact k2
    · exact k3
    · rw [PL_E he]; exact (a11 e he).2.1
    · rw [PL_LA he]; exact (a11 e he).2.2.1
    · rw [PL_RT he]; exact (a11 e he).2.2.2.1
    · rw [PL_OU he]; exact (a11 e he).2.2.2.2.1
    · rw [PL_LK ha hb]; exact ((a11 a ha).2.2.2.2.2.2.2.2.2.2.2.2.2.2.2 b hb).2.1
    · rw [PL_WT ha hb]; exact ((a11 a ha).2.2.2.2.2.2.2.2.2.2.2.2.2.2.2 b hb).2.2.1
  · obtain ⟨b1, c1, c2, c3, c4, c5, c6, c7, c8, c9, c10, c11, c12, c13, c14, c15⟩ := a11 e he
    rw [PL_E he, PL_LA he]
    exact ⟨b1, c12, fun b hb => by rw [PL_LK he hb]; exact (c15 b hb).1⟩
  · obtain ⟨b1, c1, c2, c3, c4, c5, c6, c7, c8, c9, c10, c11, c12, c13, c14, c15⟩ := a11 e he
    rw [PL_E he, PL_LA he, PL_RT he, PL_OU he]
    exact ⟨c5, c6, c7, c8, c9⟩
  · obtain ⟨b1, c1, c2, c3, c4, c5, c6, c7, c8, c9, c10, c11, c12, c13, c14, c15⟩ := a11 e he
    rw [PL_E he]
    exact ⟨c10, c11⟩
  · obtain ⟨b1, c1, c2, c3, c4, c5, c6, c7, c8, c9, c10, c11, c12, c13, c14, c15⟩ := a11 a ha
    obtain ⟨-, d1, d2, d3, d4, d5, d6, -⟩ := (c15 b hb)
    rw [PL_LK ha hb, PL_WT ha hb]
    exact ⟨d3, d4, d5, d6⟩
  · obtain ⟨b1, c1, c2, c3, c4, c5, c6, c7, c8, c9, c10, c11, c12, c13, c14, c15⟩ := a11 a ha
    obtain ⟨-, d1, d2, d3, d4, d5, d6, d7, d8, d9, d10, d11, -⟩ := (c15 b hb)
    rw [PL_LK ha hb]
    exact ⟨d7, d8, d9, d10, d11⟩
  · obtain ⟨b1, c1, c2, c3, c4, c5, c6, c7, c8, c9, c10, c11, c12, c13, c14, c15⟩ := a11 a ha
    obtain ⟨-, d1, d2, d3, d4, d5, d6, d7, d8, d9, d10, d11, d12, d13, d14, -⟩ := (c15 b hb)
    rw [PL_LK ha hb]
    exact ⟨Or.inl ⟨d12, rfl⟩, Or.inl ⟨d13, rfl⟩, Or.inl ⟨d14, rfl⟩⟩
  · obtain ⟨b1, c1, c2, c3, c4, c5, c6, c7, c8, c9, c10, c11, c12, c13, c14, c15⟩ := a11 a ha
    obtain ⟨-, d1, d2, d3, d4, d5, d6, d7, d8, d9, d10, d11, d12, d13, d14, d15, -⟩ := (c15 b hb)
    rw [PL_LK ha hb]
    exact Or.inl ⟨d15, rfl⟩
  · obtain ⟨b1, c1, c2, c3, c4, c5, c6, c7, c8, c9, c10, c11, c12, c13, c14, c15⟩ := a11 a ha
    obtain ⟨-, d1, d2, d3, d4, d5, d6, d7, d8, d9, d10, d11, d12, d13, d14, d15, d16⟩ := (c15 b hb)
    rw [PL_WT ha hb]
    exact ⟨[], d16, LR0⟩
  · obtain ⟨b1, c1, c2, c3, c4, c5, c6, c7, c8, c9, c10, c11, c12, c13, c14, c15⟩ := a11 e he
    rw [PL_RT he]
    exact ⟨[], c13, List.nodup_nil, LR0⟩
  · obtain ⟨b1, c1, c2, c3, c4, c5, c6, c7, c8, c9, c10, c11, c12, c13, c14, c15⟩ := a11 e he
    rw [PL_OU he]
    exact ⟨[], c14, LR0⟩
end

set_option maxRecDepth 100000 in
set_option maxHeartbeats 1000000 in
theorem lp_X8_init {Z : Zx} {Post : Option Value → Mem → Prop} {PostX : String → Mem → Prop} {rc rs mc ms : Nat} {μ : Mem} {x : Nat} (C : Cx Z RX8 cX8_init 6 rc rs 116) (E : Rt Z mc ms none Post PostX) (h1 : rc = mc) (h2 : rs = ms) (hP : ∀ μ', (pV fun μ' => ∃ ea nt tl en la rt ou lk wt, XI Z.G μ' x ea nt tl en la rt ou lk wt 3 ∧ FrK XW μ μ') none μ' → Post none μ') :
    ∀ (m j k n : Nat) (μ1 : Mem) (ea nt tl : Nat) (en la rt ou : Nat → Nat) (lk wt : Nat → Nat → Nat), XI Z.G μ1 x ea nt tl en la rt ou lk wt j → FrK XW μ μ1 → j + m = 3 → k + 25 * m ≤ mc → n + 107 * m ≤ ms → HW Z k n 48 [some (.ref x), some (.int (nI j))] [] μ1 := by
  intro m
  induction m with
  | zero =>
    intro j k n μ1 ea nt tl en la rt ou lk wt hI hF hj hk hn
    have hI9 := hI
    obtain ⟨k0, k1, k2, k3, a1, a2, a3, a4, a5, a6, a7, a8, a9, a10, a11⟩ := hI9
    refine h_iload_g C dX8_init_48 rfl rfl ?_
    refine h_al_g C dX8_init_49 rfl rfl rfv_r ?_
    refine gs_X8_11 C dX8_init_50 (by rw [k0]; decide) a1 ?_
    refine h_alen C dX8_init_53 ⟨by rw [k1]; decide, by rw [k1]; decide⟩ a7 ?_
    refine h_icmp_ge (tgt := 77) C dX8_init_54 (by decide) (fun c1 => ?_) (fun c1 => absurd ((by rw [show j = 3 by omega]; decide)) c1)
    refine h_ret C E dX8_init_77 (by omega) (by omega) ?_
    exact hP _ ⟨rfl, ea, nt, tl, en, la, rt, ou, lk, wt, by rw [show j = 3 by omega] at hI; exact hI, hF⟩
  | succ m ih9 =>
    intro j k n μ1 ea nt tl en la rt ou lk wt hI hF hj hk hn
    have ih := fun (j k n : Nat) (μ1 : Mem) (en la rt ou : Nat → Nat) (lk wt : Nat → Nat → Nat) (h1 : XI Z.G μ1 x ea nt tl en la rt ou lk wt j) (h2 : FrK XW μ μ1) (h3 : j + m = 3) (h4 : k + 25 * m ≤ mc) (h5 : n + 107 * m ≤ ms) => ih9 j k n μ1 ea nt tl en la rt ou lk wt h1 h2 h3 h4 h5
    obtain ⟨k0, k1, k2, k3, a1, a2, a3, a4, a5, a6, a7, a8, a9, a10, a11⟩ := hI
    refine h_iload_g C dX8_init_48 rfl rfl ?_
    refine h_al_g C dX8_init_49 rfl rfl rfv_r ?_
    refine gs_X8_11 C dX8_init_50 (by rw [k0]; decide) a1 ?_
    refine h_alen C dX8_init_53 ⟨by rw [k1]; decide, by rw [k1]; decide⟩ a7 ?_
    refine h_icmp_ge (tgt := 77) C dX8_init_54 (by decide) (fun c1 => absurd c1 ((by exact nI_ge (a := j) (b := 3) (by omega) (by decide)))) (fun c1 => ?_)
    refine h_al_g C dX8_init_57 rfl rfl rfv_r ?_
    refine gs_X8_11 C dX8_init_58 (by rw [k0]; decide) a1 ?_
    refine h_iload_g C dX8_init_61 rfl rfl ?_
    refine nw_X8_9 (KS (4 + j)) C dX8_init_62 (KS_E (by omega)) (by omega) (by omega) (fun e9 he9 => ?_)
    refine h_dup C dX8_init_65 rfl ?_
    refine h_iload_g C dX8_init_66 rfl rfl ?_
    refine h_callI1 C (k_X0_init Z.l Z.G e9 j (nI j) _ kd_newO (by omega) rfl) cw_X8_36 im_X0_init rfl dX8_init_67 (by first | decide | exact Nat.le_of_ble_eq_true rfl) (by decide) (by decide) (by omega) (by omega) (kV fun μ2 hp1 => ?_) kN
    obtain ⟨la9, rt9, ou9, lk9, wt9, hE9, hF9⟩ := hp1
    have f12 : FrK (EW j) μ1 μ2 := (FrK.newO he9 (Or.inl rfl)).tr hF9
    have nX : ∀ i, i < 4 → ¬ EW j (KS i) := fun i hi => EW_no (by omega) (by omega) (by omega) (by omega) (by omega)
    obtain ⟨s1, s2, s3, -⟩ := f12.st k0 (KS_ne _) (nX 0 (by decide))
    obtain ⟨t1, -, -, -, t5, -, t7, -⟩ := f12.st k1 (KS_ne _) (nX 1 (by decide))
    have u9 := f12.ke (q := nt) (by rw [k2]; exact KS_ne _)
    obtain ⟨v1, -, -, -, v5, v6, -⟩ := f12.st k3 (KS_ne _) (nX 3 (by decide))
    have g10 := a10.kept f12 (by rw [k2]; exact nX 2 (by decide)) (EW_LM (by omega))
    refine h_aast C dX8_init_70 (by rw [t1, k1, hE9.1, KS_E (by omega)]; decide) (by exact vp_in_nI (by rw [t5, a7]; omega) (by rw [t5, a7]; decide)) ?_
    rw [nI_clamp (by omega)]
    have f3 : FrK (fun k => k = KS 1) μ2 (μ2.ser ea j (some e9)) := FrK.ser (t1.trans k1)
    have n1 : ∀ i, i ≠ 1 → ¬ KS i = KS 1 := fun i hi => KS_ap hi
    have kp : ∀ (e : Nat) (q la rt ou : Nat) (lk wt : Nat → Nat), EI Z.G μ2 q la rt ou e lk wt 3 → EI Z.G (μ2.ser ea j (some e9)) q la rt ou e lk wt 3 := fun e q la rt ou lk wt h => h.kept f3 (n1 _ (by omega)) (n1 _ (by omega)) (n1 _ (by omega)) (n1 _ (by omega)) (fun ρ => KS_LM (by omega)) (fun b hb => ⟨n1 _ (by omega), n1 _ (by omega)⟩)
    have hI3 : XI Z.G (μ2.ser ea j (some e9)) x ea nt tl (u1 en j e9) (u1 la j la9) (u1 rt j rt9) (u1 ou j ou9) (u1 lk j lk9) (u1 wt j wt9) (j + 1) := by
      refine ⟨s1.trans k0, t1.trans k1, u9.trans k2, v1.trans k3, (s3 _).trans a1, (s3 _).trans a2, (s3 _).trans a3, (s2 _).trans a4, (s2 _).trans a5, (s2 _).trans a6, t5.trans a7, v5.trans a8, fun i => by show μ2.ei tl i = 0; rw [v6]; exact a9 i, g10.kept f3 (by rw [u9, k2]; exact n1 _ (by decide)) (KS_LM (by omega)), fun e he => ?_⟩
      by_cases hej : e = j
      · subst hej
        refine ⟨by show u2 μ2.er ea e (some e9) ea e = _; rw [u2_eq]; unfold u1; rw [if_pos rfl], ?_⟩
        unfold u1
        rw [if_pos rfl, if_pos rfl, if_pos rfl, if_pos rfl, if_pos rfl, if_pos rfl]
        exact kp _ _ _ _ _ _ _ hE9
      · obtain ⟨d1, d2⟩ := a11 e (by omega)
        unfold u1
        rw [if_neg hej, if_neg hej, if_neg hej, if_neg hej, if_neg hej, if_neg hej]
        refine ⟨?_, kp _ _ _ _ _ _ _ (d2.apart f12 hej (by omega) (by omega))⟩
        show u2 μ2.er ea j (some e9) ea e = _
        unfold u2
        rw [if_pos rfl, if_neg hej, t7]
        exact d1
    have hF3 : FrK XW μ (μ2.ser ea j (some e9)) := hF.tr ((f12.mono (fun k h => EW_XW (by omega) h)).tr (FrK.ser ⟨1, by decide, t1.trans k1⟩))
    refine h_iinc_1 (q := 1) C dX8_init_71 (by decide) ct_r ?_
    rw [nI_1]
    refine h_goto (tgt := 48) C dX8_init_74 (by decide) ?_
    exact ih (j + 1) _ _ _ _ _ _ _ _ _ hI3 hF3 (by omega) (by omega) (by omega)

set_option maxRecDepth 100000 in
set_option maxHeartbeats 1000000 in
theorem k_X8_init (l : Launch) (G : Gx) (x : Nat) (μ : Mem) (hq : μ.kd x = KS 0) : Kon l yX8_init cX8_init 2 none 6 78 341 116 G [.ref x] μ (pV fun μ' => ∃ ea nt tl en la rt ou lk wt, XI G μ' x ea nt tl en la rt ou lk wt 3 ∧ FrK XW μ μ') noX := by
  refine Kon.ofG (by decide +kernel) (Nat.le_of_ble_eq_true rfl) (Nat.le_of_ble_eq_true rfl) (fun Z hZG C E NT MT => ?_)
  subst hZG
  have C : Cx Z RX8 cX8_init 6 78 341 116 := C
  show HW Z 0 0 0 [some (.ref x), none] [] μ
  have hk : μ.kd x % 32 = 9 := by rw [hq]; decide
  have F0 : FrK XW μ μ := FrK.rf
  refine h_al_g C dX8_init_0 rfl rfl rfv_r ?_
  refine h_objInit C ol_X8_1 im_obj cd_obj dX8_init_1 (by decide) (by decide) ?_
  refine h_al_g C dX8_init_4 rfl rfl rfv_r ?_
  refine h_iconst (v := 3) C dX8_init_5 (by decide) ?_
  refine h_anew (N := 3) (KS 1) C kl_X8_9 (by decide) ⟨Or.inr (Or.inl (by decide)), (by rfl)⟩ dX8_init_6 (by decide) (by decide) (by decide) (by first | decide | omega) (by first | decide | omega) (fun ea hea => ?_)
  refine h_widen (Nat.le_refl _) (n2 := 3) (by omega) ?_
  refine h_abs (fun m1 e1 => ?_)
  have hs1 : ∀ z, z ≠ ea → SameAt μ m1 z := fun z hz => by rw [e1]; exact same_newA hz
  have fk1 : FrK (fun k => k = KS 1) μ m1 := by rw [e1]; exact FrK.newA hea rfl
  have n1_x : x ≠ ea := ne_of_new hea (by rw [hq]; exact KS_ne _)
  have g1_x_kd : m1.kd x = KS 0 := (hs1 x n1_x).1.trans hq
  have g1_ea_kd : m1.kd ea = KS 1 := by rw [e1]; exact kd_newA
  have g1_ea_ln : m1.ln ea = 3 := by rw [e1]; exact ln_newA
  have F1 : FrK (XW) μ m1 := F0.tr (fk1.mono (fun k h9 => by rw [h9]; exact ⟨1, by decide, rfl⟩))
  refine pf_X8_11 (some _) C dX8_init_9 (by rw [g1_x_kd]; decide) MT rfl ?_
  refine h_abs (fun m2 e2 => ?_)
  have hs2 : ∀ z, z ≠ x → SameAt m1 m2 z := fun z hz => by rw [e2]; exact same_sfr hz
  have fk2 : FrK (fun k => k = KS 0) m1 m2 := fk_sfr FrK.rf e2 g1_x_kd
  have n2_ea : ea ≠ x := fun z => by
    have h9 := g1_ea_kd
    rw [z, g1_x_kd] at h9
    exact KS_ap (by omega) h9
  have g2_x_kd : m2.kd x = KS 0 := (kd_sfr' e2).trans g1_x_kd
  have g2_ea_kd : m2.kd ea = KS 1 := (hs2 ea n2_ea).1.trans g1_ea_kd
  have g2_ea_ln : m2.ln ea = 3 := (hs2 ea n2_ea).2.2.2.2.1.trans g1_ea_ln
  have g2_x_fr256 : m2.fr 256 x = some ea := fr_at e2
  have F2 : FrK (XW) μ m2 := F1.tr (fk2.mono (fun k h9 => by rw [h9]; exact ⟨0, by decide, rfl⟩))
  refine h_al_g C dX8_init_12 rfl rfl rfv_r ?_
  refine nw_X8_15 (KS 2) C dX8_init_13 (by decide) (by decide) (by decide) (fun nt hnt => ?_)
  refine h_dup C dX8_init_16 rfl ?_
  refine h_callI0 (a_ := .null) C (k_Jx4a65c_init_da8c8 Z.l Z.G nt _ (by rw [kd_newO]; decide)) cw_X8_17 im_Jx4a65c_init_da8c8 rfl dX8_init_17 (by first | decide | exact Nat.le_of_ble_eq_true rfl) (by decide) (by decide) (by decide) (by decide) (kV fun μ1 hp1 => ?_) kN
  obtain rfl := hp1
  refine h_abs (fun m3 e3 => ?_)
  obtain ⟨w3_k, w3_l, hs3⟩ := newL hnt (by decide) e3
  have fk3 : FrK (fun k => k = KS 2) m2 m3 := FrK.new hs3 hnt w3_k
  have n3_x : x ≠ nt := ne_of_new hnt (by rw [g2_x_kd]; exact KS_ne _)
  have n3_ea : ea ≠ nt := ne_of_new hnt (by rw [g2_ea_kd]; exact KS_ne _)
  have g3_x_kd : m3.kd x = KS 0 := (hs3 x n3_x).1.trans g2_x_kd
  have g3_ea_kd : m3.kd ea = KS 1 := (hs3 ea n3_ea).1.trans g2_ea_kd
  have g3_ea_ln : m3.ln ea = 3 := (hs3 ea n3_ea).2.2.2.2.1.trans g2_ea_ln
  have g3_x_fr256 : m3.fr 256 x = some ea := ((hs3 x n3_x).2.2.1 _).trans g2_x_fr256
  have F3 : FrK (XW) μ m3 := F2.tr (fk3.mono (fun k h9 => by rw [h9]; exact ⟨2, by decide, rfl⟩))
  refine pf_X8_18 (some _) C dX8_init_20 (by rw [g3_x_kd]; decide) MT rfl ?_
  refine h_abs (fun m4 e4 => ?_)
  have hs4 : ∀ z, z ≠ x → SameAt m3 m4 z := fun z hz => by rw [e4]; exact same_sfr hz
  have fk4 : FrK (fun k => k = KS 0) m3 m4 := fk_sfr FrK.rf e4 g3_x_kd
  have n4_ea : ea ≠ x := fun z => by
    have h9 := g3_ea_kd
    rw [z, g3_x_kd] at h9
    exact KS_ap (by omega) h9
  have n4_nt : nt ≠ x := fun z => by
    have h9 := w3_k
    rw [z, g3_x_kd] at h9
    exact KS_ap (by omega) h9
  have g4_x_kd : m4.kd x = KS 0 := (kd_sfr' e4).trans g3_x_kd
  have g4_ea_kd : m4.kd ea = KS 1 := (hs4 ea n4_ea).1.trans g3_ea_kd
  have g4_ea_ln : m4.ln ea = 3 := (hs4 ea n4_ea).2.2.2.2.1.trans g3_ea_ln
  have g4_x_fr256 : m4.fr 256 x = some ea := (fr_ap e4 (Or.inl (by decide))).trans g3_x_fr256
  have g4_nt_kd : m4.kd nt = KS 2 := (hs4 nt n4_nt).1.trans w3_k
  have g4_nt_L : ListAt Z.G m4 nt [] := w3_l.kept fk4 (by rw [w3_k]; exact KS_ap (by omega)) (KS_LM (by omega))
  have g4_x_fr257 : m4.fr 257 x = some nt := fr_at e4
  have F4 : FrK (XW) μ m4 := F3.tr (fk4.mono (fun k h9 => by rw [h9]; exact ⟨0, by decide, rfl⟩))
  refine h_al_g C dX8_init_23 rfl rfl rfv_r ?_
  refine h_bipush (v := 11) C dX8_init_24 (by decide) ?_
  refine h_newarr (atype := .int) (N := 11) (KS 3) C ac_11 (by rw [(show (KS 3) % 32 = 11 by first | decide | omega | (unfold FM; omega))]; rfl) (Or.inl (show (KS 3) % 32 = 11 by first | decide | omega | (unfold FM; omega))) dX8_init_26 (by decide) (by decide) (by decide) (by first | decide | omega) (by first | decide | omega) (fun tl htl => ?_)
  refine h_abs (fun m5 e5 => ?_)
  have hs5 : ∀ z, z ≠ tl → SameAt m4 m5 z := fun z hz => by rw [e5]; exact same_newA hz
  have fk5 : FrK (fun k => k = KS 3) m4 m5 := by rw [e5]; exact FrK.newA htl rfl
  have n5_x : x ≠ tl := ne_of_new htl (by rw [g4_x_kd]; exact KS_ne _)
  have n5_ea : ea ≠ tl := ne_of_new htl (by rw [g4_ea_kd]; exact KS_ne _)
  have n5_nt : nt ≠ tl := ne_of_new htl (by rw [g4_nt_kd]; exact KS_ne _)
  have g5_x_kd : m5.kd x = KS 0 := (hs5 x n5_x).1.trans g4_x_kd
  have g5_ea_kd : m5.kd ea = KS 1 := (hs5 ea n5_ea).1.trans g4_ea_kd
  have g5_ea_ln : m5.ln ea = 3 := (hs5 ea n5_ea).2.2.2.2.1.trans g4_ea_ln
  have g5_x_fr256 : m5.fr 256 x = some ea := ((hs5 x n5_x).2.2.1 _).trans g4_x_fr256
  have g5_nt_kd : m5.kd nt = KS 2 := (hs5 nt n5_nt).1.trans g4_nt_kd
  have g5_nt_L : ListAt Z.G m5 nt [] := g4_nt_L.kept fk5 (by rw [g4_nt_kd]; exact KS_ap (by omega)) (KS_LM (by omega))
  have g5_x_fr257 : m5.fr 257 x = some nt := ((hs5 x n5_x).2.2.1 _).trans g4_x_fr257
  have g5_tl_kd : m5.kd tl = KS 3 := by rw [e5]; exact kd_newA
  have g5_tl_ln : m5.ln tl = 11 := by rw [e5]; exact ln_newA
  have F5 : FrK (XW) μ m5 := F4.tr (fk5.mono (fun k h9 => by rw [h9]; exact ⟨3, by decide, rfl⟩))
  have z0 : ∀ i, m5.ei tl i = 0 := fun i => by rw [e5, z_ei_newA, if_pos rfl]
  refine pf_X8_22 (some _) C dX8_init_28 (by rw [g5_x_kd]; decide) MT rfl ?_
  refine h_abs (fun m6 e6 => ?_)
  have hs6 : ∀ z, z ≠ x → SameAt m5 m6 z := fun z hz => by rw [e6]; exact same_sfr hz
  have fk6 : FrK (fun k => k = KS 0) m5 m6 := fk_sfr FrK.rf e6 g5_x_kd
  have n6_ea : ea ≠ x := fun z => by
    have h9 := g5_ea_kd
    rw [z, g5_x_kd] at h9
    exact KS_ap (by omega) h9
  have n6_nt : nt ≠ x := fun z => by
    have h9 := g5_nt_kd
    rw [z, g5_x_kd] at h9
    exact KS_ap (by omega) h9
  have n6_tl : tl ≠ x := fun z => by
    have h9 := g5_tl_kd
    rw [z, g5_x_kd] at h9
    exact KS_ap (by omega) h9
  have g6_x_kd : m6.kd x = KS 0 := (kd_sfr' e6).trans g5_x_kd
  have g6_ea_kd : m6.kd ea = KS 1 := (hs6 ea n6_ea).1.trans g5_ea_kd
  have g6_ea_ln : m6.ln ea = 3 := (hs6 ea n6_ea).2.2.2.2.1.trans g5_ea_ln
  have g6_x_fr256 : m6.fr 256 x = some ea := (fr_ap e6 (Or.inl (by decide))).trans g5_x_fr256
  have g6_nt_kd : m6.kd nt = KS 2 := (hs6 nt n6_nt).1.trans g5_nt_kd
  have g6_nt_L : ListAt Z.G m6 nt [] := g5_nt_L.kept fk6 (by rw [g5_nt_kd]; exact KS_ap (by omega)) (KS_LM (by omega))
  have g6_x_fr257 : m6.fr 257 x = some nt := (fr_ap e6 (Or.inl (by decide))).trans g5_x_fr257
  have g6_tl_kd : m6.kd tl = KS 3 := (hs6 tl n6_tl).1.trans g5_tl_kd
  have g6_tl_ln : m6.ln tl = 11 := (hs6 tl n6_tl).2.2.2.2.1.trans g5_tl_ln
  have g6_tl_ez : ∀ i, m6.ei tl i = 0 := fun i => by rw [(hs6 tl n6_tl).2.2.2.2.2.1]; exact z0 i
  have g6_x_fr258 : m6.fr 258 x = some tl := fr_at e6
  have F6 : FrK (XW) μ m6 := F5.tr (fk6.mono (fun k h9 => by rw [h9]; exact ⟨0, by decide, rfl⟩))
  refine h_al_g C dX8_init_31 rfl rfl rfv_r ?_
  refine h_iconst (v := 0) C dX8_init_32 (by decide) ?_
  refine pf_X8_26 C dX8_init_33 (by rw [g6_x_kd]; decide) ?_
  refine h_abs (fun m7 e7 => ?_)
  have hs7 : ∀ z, z ≠ x → SameAt m6 m7 z := fun z hz => by rw [e7]; exact same_sfi hz
  have fk7 : FrK (fun k => k = KS 0) m6 m7 := fk_sfi FrK.rf e7 g6_x_kd
  have n7_ea : ea ≠ x := fun z => by
    have h9 := g6_ea_kd
    rw [z, g6_x_kd] at h9
    exact KS_ap (by omega) h9
  have n7_nt : nt ≠ x := fun z => by
    have h9 := g6_nt_kd
    rw [z, g6_x_kd] at h9
    exact KS_ap (by omega) h9
  have n7_tl : tl ≠ x := fun z => by
    have h9 := g6_tl_kd
    rw [z, g6_x_kd] at h9
    exact KS_ap (by omega) h9
  have g7_x_kd : m7.kd x = KS 0 := (kd_sfi' e7).trans g6_x_kd
  have g7_ea_kd : m7.kd ea = KS 1 := (hs7 ea n7_ea).1.trans g6_ea_kd
  have g7_ea_ln : m7.ln ea = 3 := (hs7 ea n7_ea).2.2.2.2.1.trans g6_ea_ln
  have g7_x_fr256 : m7.fr 256 x = some ea := (congrFun (congrFun (fr_i e7) _) _).trans g6_x_fr256
  have g7_nt_kd : m7.kd nt = KS 2 := (hs7 nt n7_nt).1.trans g6_nt_kd
  have g7_nt_L : ListAt Z.G m7 nt [] := g6_nt_L.kept fk7 (by rw [g6_nt_kd]; exact KS_ap (by omega)) (KS_LM (by omega))
  have g7_x_fr257 : m7.fr 257 x = some nt := (congrFun (congrFun (fr_i e7) _) _).trans g6_x_fr257
  have g7_tl_kd : m7.kd tl = KS 3 := (hs7 tl n7_tl).1.trans g6_tl_kd
  have g7_tl_ln : m7.ln tl = 11 := (hs7 tl n7_tl).2.2.2.2.1.trans g6_tl_ln
  have g7_tl_ez : ∀ i, m7.ei tl i = 0 := fun i => by rw [(hs7 tl n7_tl).2.2.2.2.2.1]; exact g6_tl_ez i
  have g7_x_fr258 : m7.fr 258 x = some tl := (congrFun (congrFun (fr_i e7) _) _).trans g6_x_fr258
  have g7_x_fi259 : m7.fi 259 x = 0 := fi_at e7
  have F7 : FrK (XW) μ m7 := F6.tr (fk7.mono (fun k h9 => by rw [h9]; exact ⟨0, by decide, rfl⟩))
  refine h_al_g C dX8_init_36 rfl rfl rfv_r ?_
  refine h_iconst (v := 0) C dX8_init_37 (by decide) ?_
  refine pf_X8_30 C dX8_init_38 (by rw [g7_x_kd]; decide) ?_
  refine h_abs (fun m8 e8 => ?_)
  have hs8 : ∀ z, z ≠ x → SameAt m7 m8 z := fun z hz => by rw [e8]; exact same_sfi hz
  have fk8 : FrK (fun k => k = KS 0) m7 m8 := fk_sfi FrK.rf e8 g7_x_kd
  have n8_ea : ea ≠ x := fun z => by
    have h9 := g7_ea_kd
    rw [z, g7_x_kd] at h9
    exact KS_ap (by omega) h9
  have n8_nt : nt ≠ x := fun z => by
    have h9 := g7_nt_kd
    rw [z, g7_x_kd] at h9
    exact KS_ap (by omega) h9
  have n8_tl : tl ≠ x := fun z => by
    have h9 := g7_tl_kd
    rw [z, g7_x_kd] at h9
    exact KS_ap (by omega) h9
  have g8_x_kd : m8.kd x = KS 0 := (kd_sfi' e8).trans g7_x_kd
  have g8_ea_kd : m8.kd ea = KS 1 := (hs8 ea n8_ea).1.trans g7_ea_kd
  have g8_ea_ln : m8.ln ea = 3 := (hs8 ea n8_ea).2.2.2.2.1.trans g7_ea_ln
  have g8_x_fr256 : m8.fr 256 x = some ea := (congrFun (congrFun (fr_i e8) _) _).trans g7_x_fr256
  have g8_nt_kd : m8.kd nt = KS 2 := (hs8 nt n8_nt).1.trans g7_nt_kd
  have g8_nt_L : ListAt Z.G m8 nt [] := g7_nt_L.kept fk8 (by rw [g7_nt_kd]; exact KS_ap (by omega)) (KS_LM (by omega))
  have g8_x_fr257 : m8.fr 257 x = some nt := (congrFun (congrFun (fr_i e8) _) _).trans g7_x_fr257
  have g8_tl_kd : m8.kd tl = KS 3 := (hs8 tl n8_tl).1.trans g7_tl_kd
  have g8_tl_ln : m8.ln tl = 11 := (hs8 tl n8_tl).2.2.2.2.1.trans g7_tl_ln
  have g8_tl_ez : ∀ i, m8.ei tl i = 0 := fun i => by rw [(hs8 tl n8_tl).2.2.2.2.2.1]; exact g7_tl_ez i
  have g8_x_fr258 : m8.fr 258 x = some tl := (congrFun (congrFun (fr_i e8) _) _).trans g7_x_fr258
  have g8_x_fi259 : m8.fi 259 x = 0 := (fi_ap e8 (Or.inl (by decide))).trans g7_x_fi259
  have g8_x_fi260 : m8.fi 260 x = 0 := fi_at e8
  have F8 : FrK (XW) μ m8 := F7.tr (fk8.mono (fun k h9 => by rw [h9]; exact ⟨0, by decide, rfl⟩))
  refine h_al_g C dX8_init_41 rfl rfl rfv_r ?_
  refine h_iconst (v := 0) C dX8_init_42 (by decide) ?_
  refine pf_X8_33 C dX8_init_43 (by rw [g8_x_kd]; decide) ?_
  refine h_abs (fun m9 e9 => ?_)
  have hs9 : ∀ z, z ≠ x → SameAt m8 m9 z := fun z hz => by rw [e9]; exact same_sfi hz
  have fk9 : FrK (fun k => k = KS 0) m8 m9 := fk_sfi FrK.rf e9 g8_x_kd
  have n9_ea : ea ≠ x := fun z => by
    have h9 := g8_ea_kd
    rw [z, g8_x_kd] at h9
    exact KS_ap (by omega) h9
  have n9_nt : nt ≠ x := fun z => by
    have h9 := g8_nt_kd
    rw [z, g8_x_kd] at h9
    exact KS_ap (by omega) h9
  have n9_tl : tl ≠ x := fun z => by
    have h9 := g8_tl_kd
    rw [z, g8_x_kd] at h9
    exact KS_ap (by omega) h9
  have g9_x_kd : m9.kd x = KS 0 := (kd_sfi' e9).trans g8_x_kd
  have g9_ea_kd : m9.kd ea = KS 1 := (hs9 ea n9_ea).1.trans g8_ea_kd
  have g9_ea_ln : m9.ln ea = 3 := (hs9 ea n9_ea).2.2.2.2.1.trans g8_ea_ln
  have g9_x_fr256 : m9.fr 256 x = some ea := (congrFun (congrFun (fr_i e9) _) _).trans g8_x_fr256
  have g9_nt_kd : m9.kd nt = KS 2 := (hs9 nt n9_nt).1.trans g8_nt_kd
  have g9_nt_L : ListAt Z.G m9 nt [] := g8_nt_L.kept fk9 (by rw [g8_nt_kd]; exact KS_ap (by omega)) (KS_LM (by omega))
  have g9_x_fr257 : m9.fr 257 x = some nt := (congrFun (congrFun (fr_i e9) _) _).trans g8_x_fr257
  have g9_tl_kd : m9.kd tl = KS 3 := (hs9 tl n9_tl).1.trans g8_tl_kd
  have g9_tl_ln : m9.ln tl = 11 := (hs9 tl n9_tl).2.2.2.2.1.trans g8_tl_ln
  have g9_tl_ez : ∀ i, m9.ei tl i = 0 := fun i => by rw [(hs9 tl n9_tl).2.2.2.2.2.1]; exact g8_tl_ez i
  have g9_x_fr258 : m9.fr 258 x = some tl := (congrFun (congrFun (fr_i e9) _) _).trans g8_x_fr258
  have g9_x_fi259 : m9.fi 259 x = 0 := (fi_ap e9 (Or.inl (by decide))).trans g8_x_fi259
  have g9_x_fi260 : m9.fi 260 x = 0 := (fi_ap e9 (Or.inl (by decide))).trans g8_x_fi260
  have g9_x_fi261 : m9.fi 261 x = 0 := fi_at e9
  have F9 : FrK (XW) μ m9 := F8.tr (fk9.mono (fun k h9 => by rw [h9]; exact ⟨0, by decide, rfl⟩))
  refine h_iconst (v := 0) C dX8_init_46 (by decide) ?_
  refine h_ist_1 C dX8_init_47 ct_r ?_
  exact lp_X8_init (Z := Z) (μ := μ) (x := x) C E rfl rfl (fun μ' h => h) 3 0 _ _ m9 ea nt tl (fun _ => 0) (fun _ => 0) (fun _ => 0) (fun _ => 0) (fun _ _ => 0) (fun _ _ => 0) ⟨g9_x_kd, g9_ea_kd, g9_nt_kd, g9_tl_kd, g9_x_fr256, g9_x_fr257, g9_x_fr258, g9_x_fi259, g9_x_fi260, g9_x_fi261, g9_ea_ln, g9_tl_ln, g9_tl_ez, g9_nt_L, fun b hb => absurd hb (Nat.not_lt_zero _)⟩ F9 rfl (by decide) (by decide)

end
