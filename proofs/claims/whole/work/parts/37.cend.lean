section
def EI (G : Gx) (μ : Mem) (q la rt ou e : Nat) (lk wt : Nat → Nat) (j : Nat) : Prop := μ.kd q = KS (4 + e) ∧ μ.kd la = KS (7 + e) ∧ μ.kd rt = KS (10 + e) ∧ μ.kd ou = KS (13 + e) ∧ μ.fi 32 q = nI e ∧ μ.fi 33 q = nI (211 + 307 * e) ∧ μ.fr 34 q = some la ∧ μ.fr 35 q = some rt ∧ μ.fr 36 q = some ou ∧ μ.fi 37 q = nI (10 + 10 * e) ∧ μ.fi 38 q = 0 ∧ μ.ln la = 3 ∧ ListAt G μ rt [] ∧ ListAt G μ ou [] ∧ ∀ b, b < j → μ.er la b = some (lk b) ∧ LinkAt G μ (lk b) (wt b) e b
theorem EI.kept {W : Nat → Prop} {G : Gx} {μ μ' : Mem} {q la rt ou e j : Nat} {lk wt : Nat → Nat} (h : EI G μ q la rt ou e lk wt j) (hf : FrK W μ μ') (h1 : ¬ W (KS (4 + e))) (h2 : ¬ W (KS (7 + e))) (h3 : ¬ W (KS (10 + e))) (h4 : ¬ W (KS (13 + e))) (h5 : ∀ ρ, ¬ W (LM ρ)) (h6 : ∀ b, b < j → ¬ W (KS (16 + 3 * e + b)) ∧ ¬ W (KS (25 + 3 * e + b))) : EI G μ' q la rt ou e lk wt j := by
  obtain ⟨k1, k2, k3, k4, a1, a2, a3, a4, a5, a6, a7, a8, a9, a10, a11⟩ := h
  obtain ⟨s1, s2, s3, -⟩ := hf.st k1 (KS_ne _) h1
  obtain ⟨t1, -, -, -, t5, -, t7, -⟩ := hf.st k2 (KS_ne _) h2
  refine ⟨by rw [s1]; exact k1, by rw [t1]; exact k2, by rw [hf.ke (by rw [k3]; exact KS_ne _)]; exact k3, by rw [hf.ke (by rw [k4]; exact KS_ne _)]; exact k4, by rw [s2]; exact a1, by rw [s2]; exact a2, by rw [s3]; exact a3, by rw [s3]; exact a4, by rw [s3]; exact a5, by rw [s2]; exact a6, by rw [s2]; exact a7, by rw [t5]; exact a8, a9.kept hf (by rw [k3]; exact h3) (h5 _), a10.kept hf (by rw [k4]; exact h4) (h5 _), fun b hb => ?_⟩
  obtain ⟨c1, c2⟩ := a11 b hb
  exact ⟨by rw [t7]; exact c1, c2.kept hf (h6 b hb).1 (h6 b hb).2 (h5 _)⟩
def EW (e : Nat) (k : Nat) : Prop := k = KS (4 + e) ∨ k = KS (7 + e) ∨ k = KS (10 + e) ∨ k = KS (13 + e) ∨ ∃ b, b < 3 ∧ (k = KS (16 + 3 * e + b) ∨ k = KS (25 + 3 * e + b))

set_option maxRecDepth 100000 in
set_option maxHeartbeats 1000000 in
theorem lp_X0_init {Z : Zx} {Post : Option Value → Mem → Prop} {PostX : String → Mem → Prop} {rc rs mc ms : Nat} {μ : Mem} {q e : Nat} {x : Int32} (he : e < 3) (C : Cx Z RX0 cX0_init 5 rc rs 94) (E : Rt Z mc ms none Post PostX) (h1 : rc = mc) (h2 : rs = ms) (hP : ∀ μ', (pV fun μ' => ∃ la rt ou lk wt, EI Z.G μ' q la rt ou e lk wt 3 ∧ FrK (EW e) μ μ') none μ' → Post none μ') :
    ∀ (m j k n : Nat) (μ1 : Mem) (la rt ou : Nat) (lk wt : Nat → Nat), EI Z.G μ1 q la rt ou e lk wt j → FrK (EW e) μ μ1 → j + m = 3 → k + 5 * m ≤ mc → n + 20 * m ≤ ms → HW Z k n 65 [some (.ref q), some (.int x), some (.int (nI j))] [] μ1 := by
  intro m
  induction m with
  | zero =>
    intro j k n μ1 la rt ou lk wt hI hF hj hk hn
    have hI9 := hI
    obtain ⟨k1, k2, k3, k4, a1, a2, a3, a4, a5, a6, a7, a8, a9, a10, a11⟩ := hI9
    refine h_iload_g C dX0_init_65 rfl rfl ?_
    refine h_al_g C dX0_init_66 rfl rfl rfv_r ?_
    refine gs_X0_11 C dX0_init_67 (by rw [k1]; exact KS_E he) a3 ?_
    refine h_alen C dX0_init_70 ⟨by rw [k2, KS_LA he]; decide, by rw [k2, KS_LA he]; decide⟩ a8 ?_
    refine h_icmp_ge (tgt := 98) C dX0_init_71 (by decide) (fun c1 => ?_) (fun c1 => absurd ((by rw [show j = 3 by omega]; decide)) c1)
    refine h_ret C E dX0_init_98 (by omega) (by omega) ?_
    exact hP _ ⟨rfl, la, rt, ou, lk, wt, by rw [show j = 3 by omega] at hI; exact hI, hF⟩
  | succ m ih9 =>
    intro j k n μ1 la rt ou lk wt hI hF hj hk hn
    have ih := fun (j k n : Nat) (μ1 : Mem) (lk wt : Nat → Nat) (h1 : EI Z.G μ1 q la rt ou e lk wt j) (h2 : FrK (EW e) μ μ1) (h3 : j + m = 3) (h4 : k + 5 * m ≤ mc) (h5 : n + 20 * m ≤ ms) => ih9 j k n μ1 la rt ou lk wt h1 h2 h3 h4 h5
    obtain ⟨k1, k2, k3, k4, a1, a2, a3, a4, a5, a6, a7, a8, a9, a10, a11⟩ := hI
    refine h_iload_g C dX0_init_65 rfl rfl ?_
    refine h_al_g C dX0_init_66 rfl rfl rfv_r ?_
    refine gs_X0_11 C dX0_init_67 (by rw [k1]; exact KS_E he) a3 ?_
    refine h_alen C dX0_init_70 ⟨by rw [k2, KS_LA he]; decide, by rw [k2, KS_LA he]; decide⟩ a8 ?_
    refine h_icmp_ge (tgt := 98) C dX0_init_71 (by decide) (fun c1 => absurd c1 ((by exact nI_ge (a := j) (b := 3) (by omega) (by decide)))) (fun c1 => ?_)
    refine h_al_g C dX0_init_74 rfl rfl rfv_r ?_
    refine gs_X0_11 C dX0_init_75 (by rw [k1]; exact KS_E he) a3 ?_
    refine h_iload_g C dX0_init_78 rfl rfl ?_
    refine nw_X0_9 (KS (16 + 3 * e + j)) C dX0_init_79 (by rw [show 16 + 3 * e + j = 16 + (3 * e + j) by omega]; exact KS_LK (by omega)) (by omega) (by omega) (fun l9 hl9 => ?_)
    have hql := ne_of_new hl9 (by rw [k1]; exact KS_ne _ : μ1.kd q ≠ 0)
    refine h_dup C dX0_init_82 rfl ?_
    refine h_iload_g C dX0_init_83 rfl rfl ?_
    refine h_al_g C dX0_init_84 rfl rfl rfv_r ?_
    refine gf_X0_41 C dX0_init_85 (by rw [(same_newO hql).1, k1]; exact KS_E he) (((same_newO hql).2.1 33).trans a2) ?_
    refine h_callI2 C (k_X3_init Z.l Z.G l9 e j (nI j) (nI (211 + 307 * e)) _ kd_newO he (by omega) rfl rfl) cw_X0_47 im_X3_init rfl dX0_init_88 (by first | decide | exact Nat.le_of_ble_eq_true rfl) (by decide) (by decide) (by omega) (by omega) (kV fun μ2 hp1 => ?_) kN
    obtain ⟨w9, hL9, hF9⟩ := hp1
    have f12 : FrK (KW (16 + 3 * e + j) (25 + 3 * e + j)) μ1 μ2 := (FrK.newO hl9 (Or.inl rfl)).tr hF9
    have hI2 : EI Z.G μ2 q la rt ou e lk wt j := EI.kept ⟨k1, k2, k3, k4, a1, a2, a3, a4, a5, a6, a7, a8, a9, a10, a11⟩ f12 (fun h => h.elim (KS_ap (by omega)) (KS_ap (by omega))) (fun h => h.elim (KS_ap (by omega)) (KS_ap (by omega))) (fun h => h.elim (KS_ap (by omega)) (KS_ap (by omega))) (fun h => h.elim (KS_ap (by omega)) (KS_ap (by omega))) (fun ρ h => h.elim (KS_LM (by omega)) (KS_LM (by omega))) (fun b hb => ⟨fun h => h.elim (KS_ap (by omega)) (KS_ap (by omega)), fun h => h.elim (KS_ap (by omega)) (KS_ap (by omega))⟩)
    obtain ⟨b1, b2, b3, b4, c1, c2, c3, c4, c5, c6, c7, c8, c9, c10, c11⟩ := hI2
    refine h_aast C dX0_init_91 (by rw [b2, KS_LA he, hL9.1, show 16 + 3 * e + j = 16 + (3 * e + j) by omega, KS_LK (by omega)]; decide) (by exact vp_in_nI (by rw [c8]; omega) (by rw [c8]; decide)) ?_
    rw [nI_clamp (by omega)]
    have f3 : FrK (fun k => k = KS (7 + e)) μ2 (μ2.ser la j (some l9)) := FrK.ser b2
    have hne : ∀ b, b < 3 → ¬ KS (16 + 3 * e + b) = KS (7 + e) ∧ ¬ KS (25 + 3 * e + b) = KS (7 + e) := fun b hb => ⟨KS_ap (by omega), KS_ap (by omega)⟩
    have hI3 : EI Z.G (μ2.ser la j (some l9)) q la rt ou e (u1 lk j l9) (u1 wt j w9) (j + 1) := by
      refine ⟨b1, b2, b3, b4, c1, c2, c3, c4, c5, c6, c7, c8, c9.kept f3 (by rw [b3]; exact KS_ap (by omega)) (KS_LM (by omega)), c10.kept f3 (by rw [b4]; exact KS_ap (by omega)) (KS_LM (by omega)), fun b hb => ?_⟩
      by_cases hbj : b = j
      · subst hbj
        exact ⟨by show u2 μ2.er la b (some l9) la b = _; rw [u2_eq, u1_eq], by rw [u1_eq, u1_eq]; exact hL9.kept f3 (hne b (by omega)).1 (hne b (by omega)).2 (KS_LM (by omega))⟩
      · obtain ⟨d1, d2⟩ := c11 b (by omega)
        refine ⟨?_, by rw [u1_ne hbj, u1_ne hbj]; exact d2.kept f3 (hne b (by omega)).1 (hne b (by omega)).2 (KS_LM (by omega))⟩
        rw [u1_ne hbj]
        show u2 μ2.er la j (some l9) la b = _
        unfold u2
        rw [if_pos rfl, if_neg hbj]
        exact d1
    have hF3 : FrK (EW e) μ (μ2.ser la j (some l9)) := hF.tr ((f12.mono (fun k h => Or.inr (Or.inr (Or.inr (Or.inr ⟨j, by omega, h⟩))))).tr (FrK.ser (Or.inr (Or.inl b2))))
    refine h_iinc_2 (q := 1) C dX0_init_92 (by decide) ct_i ?_
    rw [nI_1]
    refine h_goto (tgt := 65) C dX0_init_95 (by decide) ?_
    exact ih (j + 1) _ _ _ _ _ hI3 hF3 (by omega) (by omega) (by omega)

set_option maxRecDepth 100000 in
set_option maxHeartbeats 1000000 in
theorem k_X0_init (l : Launch) (G : Gx) (q e : Nat) (x : Int32) (μ : Mem) (hq : μ.kd q = KS (4 + e)) (he : e < 3) (hx : x = nI e) : Kon l yX0_init cX0_init 3 none 5 24 100 94 G [.ref q, .int x] μ (pV fun μ' => ∃ la rt ou lk wt, EI G μ' q la rt ou e lk wt 3 ∧ FrK (EW e) μ μ') noX := by
  refine Kon.ofG (by decide +kernel) (Nat.le_of_ble_eq_true rfl) (Nat.le_of_ble_eq_true rfl) (fun Z hZG C E NT MT => ?_)
  subst hZG
  have C : Cx Z RX0 cX0_init 5 24 100 94 := C
  show HW Z 0 0 0 [some (.ref q), some (.int x), none] [] μ
  subst hx
  have F0 : FrK (EW e) μ μ := FrK.rf
  have hk : μ.kd q % 32 = 2 := by rw [hq]; exact KS_E he
  refine h_al_g C dX0_init_0 rfl rfl rfv_r ?_
  refine h_objInit C ol_X0_3 im_obj cd_obj dX0_init_1 (by decide) (by decide) ?_
  refine h_al_g C dX0_init_4 rfl rfl rfv_r ?_
  refine h_iconst (v := 3) C dX0_init_5 (by decide) ?_
  refine h_anew (N := 3) (KS (7 + e)) C kl_X0_9 (by decide) ⟨Or.inr (Or.inr (KS_LA he)), (by rw [KS_LA he]; rfl)⟩ dX0_init_6 (by decide) (by decide) (by decide) (by first | decide | omega) (by first | decide | omega) (fun la hla => ?_)
  refine h_widen (Nat.le_refl _) (n2 := 3) (by omega) ?_
  refine h_abs (fun m1 e1 => ?_)
  have hs1 : ∀ z, z ≠ la → SameAt μ m1 z := fun z hz => by rw [e1]; exact same_newA hz
  have fk1 : FrK (fun k => k = KS (7 + e)) μ m1 := by rw [e1]; exact FrK.newA hla rfl
  have n1_q : q ≠ la := ne_of_new hla (by rw [hq]; exact KS_ne _)
  have g1_q_kd : m1.kd q = KS (4 + e) := (hs1 q n1_q).1.trans hq
  have g1_la_kd : m1.kd la = KS (7 + e) := by rw [e1]; exact kd_newA
  have g1_la_ln : m1.ln la = 3 := by rw [e1]; exact ln_newA
  have F1 : FrK (EW e) μ m1 := F0.tr (fk1.mono (fun k h9 => by rw [h9]; exact Or.inr (Or.inl rfl)))
  refine pf_X0_11 (some _) C dX0_init_9 (by rw [g1_q_kd]; exact KS_E he) MT rfl ?_
  refine h_abs (fun m2 e2 => ?_)
  have hs2 : ∀ z, z ≠ q → SameAt m1 m2 z := fun z hz => by rw [e2]; exact same_sfr hz
  have fk2 : FrK (fun k => k = KS (4 + e)) m1 m2 := fk_sfr FrK.rf e2 g1_q_kd
  have n2_la : la ≠ q := fun z => by
    have h9 := g1_la_kd
    rw [z, g1_q_kd] at h9
    exact KS_ap (by omega) h9
  have g2_q_kd : m2.kd q = KS (4 + e) := (kd_sfr' e2).trans g1_q_kd
  have g2_la_kd : m2.kd la = KS (7 + e) := (hs2 la n2_la).1.trans g1_la_kd
  have g2_la_ln : m2.ln la = 3 := (hs2 la n2_la).2.2.2.2.1.trans g1_la_ln
  have g2_q_fr34 : m2.fr 34 q = some la := fr_at e2
  have F2 : FrK (EW e) μ m2 := F1.tr (fk2.mono (fun k h9 => by rw [h9]; exact Or.inl rfl))
  refine h_al_g C dX0_init_12 rfl rfl rfv_r ?_
  refine nw_X0_17 (KS (10 + e)) C dX0_init_13 (KS_RO (by omega)) (by decide) (by decide) (fun rt hrt => ?_)
  refine h_dup C dX0_init_16 rfl ?_
  refine h_callI0 (a_ := .null) C (k_Jx4a65c_init_da8c8 Z.l Z.G rt _ (by rw [kd_newO]; exact KS_RO (by omega))) cw_X0_19 im_Jx4a65c_init_da8c8 rfl dX0_init_17 (by first | decide | exact Nat.le_of_ble_eq_true rfl) (by decide) (by decide) (by decide) (by decide) (kV fun μ1 hp1 => ?_) kN
  obtain rfl := hp1
  refine h_abs (fun m3 e3 => ?_)
  obtain ⟨w3_k, w3_l, hs3⟩ := newL hrt (KS_RO (by omega)) e3
  have fk3 : FrK (fun k => k = KS (10 + e)) m2 m3 := FrK.new hs3 hrt w3_k
  have n3_q : q ≠ rt := ne_of_new hrt (by rw [g2_q_kd]; exact KS_ne _)
  have n3_la : la ≠ rt := ne_of_new hrt (by rw [g2_la_kd]; exact KS_ne _)
  have g3_q_kd : m3.kd q = KS (4 + e) := (hs3 q n3_q).1.trans g2_q_kd
  have g3_la_kd : m3.kd la = KS (7 + e) := (hs3 la n3_la).1.trans g2_la_kd
  have g3_la_ln : m3.ln la = 3 := (hs3 la n3_la).2.2.2.2.1.trans g2_la_ln
  have g3_q_fr34 : m3.fr 34 q = some la := ((hs3 q n3_q).2.2.1 _).trans g2_q_fr34
  have F3 : FrK (EW e) μ m3 := F2.tr (fk3.mono (fun k h9 => by rw [h9]; exact Or.inr (Or.inr (Or.inl rfl))))
  refine pf_X0_20 (some _) C dX0_init_20 (by rw [g3_q_kd]; exact KS_E he) MT rfl ?_
  refine h_abs (fun m4 e4 => ?_)
  have hs4 : ∀ z, z ≠ q → SameAt m3 m4 z := fun z hz => by rw [e4]; exact same_sfr hz
  have fk4 : FrK (fun k => k = KS (4 + e)) m3 m4 := fk_sfr FrK.rf e4 g3_q_kd
  have n4_la : la ≠ q := fun z => by
    have h9 := g3_la_kd
    rw [z, g3_q_kd] at h9
    exact KS_ap (by omega) h9
  have n4_rt : rt ≠ q := fun z => by
    have h9 := w3_k
    rw [z, g3_q_kd] at h9
    exact KS_ap (by omega) h9
  have g4_q_kd : m4.kd q = KS (4 + e) := (kd_sfr' e4).trans g3_q_kd
  have g4_la_kd : m4.kd la = KS (7 + e) := (hs4 la n4_la).1.trans g3_la_kd
  have g4_la_ln : m4.ln la = 3 := (hs4 la n4_la).2.2.2.2.1.trans g3_la_ln
  have g4_q_fr34 : m4.fr 34 q = some la := (fr_ap e4 (Or.inl (by decide))).trans g3_q_fr34
  have g4_rt_kd : m4.kd rt = KS (10 + e) := (hs4 rt n4_rt).1.trans w3_k
  have g4_rt_L : ListAt Z.G m4 rt [] := w3_l.kept fk4 (by rw [w3_k]; exact KS_ap (by omega)) (KS_LM (by omega))
  have g4_q_fr35 : m4.fr 35 q = some rt := fr_at e4
  have F4 : FrK (EW e) μ m4 := F3.tr (fk4.mono (fun k h9 => by rw [h9]; exact Or.inl rfl))
  refine h_al_g C dX0_init_23 rfl rfl rfv_r ?_
  refine nw_X0_17 (KS (13 + e)) C dX0_init_24 (by rw [show 13 + e = 10 + (3 + e) by omega]; exact KS_RO (by omega)) (by decide) (by decide) (fun ou hou => ?_)
  refine h_dup C dX0_init_27 rfl ?_
  refine h_callI0 (a_ := .null) C (k_Jx4a65c_init_da8c8 Z.l Z.G ou _ (by rw [kd_newO, show 13 + e = 10 + (3 + e) by omega]; exact KS_RO (by omega))) cw_X0_19 im_Jx4a65c_init_da8c8 rfl dX0_init_28 (by first | decide | exact Nat.le_of_ble_eq_true rfl) (by decide) (by decide) (by decide) (by decide) (kV fun μ2 hp2 => ?_) kN
  obtain rfl := hp2
  refine h_abs (fun m5 e5 => ?_)
  obtain ⟨w5_k, w5_l, hs5⟩ := newL hou (by rw [show 13 + e = 10 + (3 + e) by omega]; exact KS_RO (by omega)) e5
  have fk5 : FrK (fun k => k = KS (13 + e)) m4 m5 := FrK.new hs5 hou w5_k
  have n5_q : q ≠ ou := ne_of_new hou (by rw [g4_q_kd]; exact KS_ne _)
  have n5_la : la ≠ ou := ne_of_new hou (by rw [g4_la_kd]; exact KS_ne _)
  have n5_rt : rt ≠ ou := ne_of_new hou (by rw [g4_rt_kd]; exact KS_ne _)
  have g5_q_kd : m5.kd q = KS (4 + e) := (hs5 q n5_q).1.trans g4_q_kd
  have g5_la_kd : m5.kd la = KS (7 + e) := (hs5 la n5_la).1.trans g4_la_kd
  have g5_la_ln : m5.ln la = 3 := (hs5 la n5_la).2.2.2.2.1.trans g4_la_ln
  have g5_q_fr34 : m5.fr 34 q = some la := ((hs5 q n5_q).2.2.1 _).trans g4_q_fr34
  have g5_rt_kd : m5.kd rt = KS (10 + e) := (hs5 rt n5_rt).1.trans g4_rt_kd
  have g5_rt_L : ListAt Z.G m5 rt [] := g4_rt_L.kept fk5 (by rw [g4_rt_kd]; exact KS_ap (by omega)) (KS_LM (by omega))
  have g5_q_fr35 : m5.fr 35 q = some rt := ((hs5 q n5_q).2.2.1 _).trans g4_q_fr35
  have F5 : FrK (EW e) μ m5 := F4.tr (fk5.mono (fun k h9 => by rw [h9]; exact Or.inr (Or.inr (Or.inr (Or.inl rfl)))))
  refine pf_X0_24 (some _) C dX0_init_31 (by rw [g5_q_kd]; exact KS_E he) MT rfl ?_
  refine h_abs (fun m6 e6 => ?_)
  have hs6 : ∀ z, z ≠ q → SameAt m5 m6 z := fun z hz => by rw [e6]; exact same_sfr hz
  have fk6 : FrK (fun k => k = KS (4 + e)) m5 m6 := fk_sfr FrK.rf e6 g5_q_kd
  have n6_la : la ≠ q := fun z => by
    have h9 := g5_la_kd
    rw [z, g5_q_kd] at h9
    exact KS_ap (by omega) h9
  have n6_rt : rt ≠ q := fun z => by
    have h9 := g5_rt_kd
    rw [z, g5_q_kd] at h9
    exact KS_ap (by omega) h9
  have n6_ou : ou ≠ q := fun z => by
    have h9 := w5_k
    rw [z, g5_q_kd] at h9
    exact KS_ap (by omega) h9
  have g6_q_kd : m6.kd q = KS (4 + e) := (kd_sfr' e6).trans g5_q_kd
  have g6_la_kd : m6.kd la = KS (7 + e) := (hs6 la n6_la).1.trans g5_la_kd
  have g6_la_ln : m6.ln la = 3 := (hs6 la n6_la).2.2.2.2.1.trans g5_la_ln
  have g6_q_fr34 : m6.fr 34 q = some la := (fr_ap e6 (Or.inl (by decide))).trans g5_q_fr34
  have g6_rt_kd : m6.kd rt = KS (10 + e) := (hs6 rt n6_rt).1.trans g5_rt_kd
  have g6_rt_L : ListAt Z.G m6 rt [] := g5_rt_L.kept fk6 (by rw [g5_rt_kd]; exact KS_ap (by omega)) (KS_LM (by omega))
  have g6_q_fr35 : m6.fr 35 q = some rt := (fr_ap e6 (Or.inl (by decide))).trans g5_q_fr35
  have g6_ou_kd : m6.kd ou = KS (13 + e) := (hs6 ou n6_ou).1.trans w5_k
  have g6_ou_L : ListAt Z.G m6 ou [] := w5_l.kept fk6 (by rw [w5_k]; exact KS_ap (by omega)) (KS_LM (by omega))
  have g6_q_fr36 : m6.fr 36 q = some ou := fr_at e6
  have F6 : FrK (EW e) μ m6 := F5.tr (fk6.mono (fun k h9 => by rw [h9]; exact Or.inl rfl))
  refine h_al_g C dX0_init_34 rfl rfl rfv_r ?_
  refine h_iconst (v := 0) C dX0_init_35 (by decide) ?_
  refine pf_X0_27 C dX0_init_36 (by rw [g6_q_kd]; exact KS_E he) (Or.inl rfl) ?_
  refine h_abs (fun m7 e7 => ?_)
  have hs7 : ∀ z, z ≠ q → SameAt m6 m7 z := fun z hz => by rw [e7]; exact same_sfi hz
  have fk7 : FrK (fun k => k = KS (4 + e)) m6 m7 := fk_sfi FrK.rf e7 g6_q_kd
  have n7_la : la ≠ q := fun z => by
    have h9 := g6_la_kd
    rw [z, g6_q_kd] at h9
    exact KS_ap (by omega) h9
  have n7_rt : rt ≠ q := fun z => by
    have h9 := g6_rt_kd
    rw [z, g6_q_kd] at h9
    exact KS_ap (by omega) h9
  have n7_ou : ou ≠ q := fun z => by
    have h9 := g6_ou_kd
    rw [z, g6_q_kd] at h9
    exact KS_ap (by omega) h9
  have g7_q_kd : m7.kd q = KS (4 + e) := (kd_sfi' e7).trans g6_q_kd
  have g7_la_kd : m7.kd la = KS (7 + e) := (hs7 la n7_la).1.trans g6_la_kd
  have g7_la_ln : m7.ln la = 3 := (hs7 la n7_la).2.2.2.2.1.trans g6_la_ln
  have g7_q_fr34 : m7.fr 34 q = some la := (congrFun (congrFun (fr_i e7) _) _).trans g6_q_fr34
  have g7_rt_kd : m7.kd rt = KS (10 + e) := (hs7 rt n7_rt).1.trans g6_rt_kd
  have g7_rt_L : ListAt Z.G m7 rt [] := g6_rt_L.kept fk7 (by rw [g6_rt_kd]; exact KS_ap (by omega)) (KS_LM (by omega))
  have g7_q_fr35 : m7.fr 35 q = some rt := (congrFun (congrFun (fr_i e7) _) _).trans g6_q_fr35
  have g7_ou_kd : m7.kd ou = KS (13 + e) := (hs7 ou n7_ou).1.trans g6_ou_kd
  have g7_ou_L : ListAt Z.G m7 ou [] := g6_ou_L.kept fk7 (by rw [g6_ou_kd]; exact KS_ap (by omega)) (KS_LM (by omega))
  have g7_q_fr36 : m7.fr 36 q = some ou := (congrFun (congrFun (fr_i e7) _) _).trans g6_q_fr36
  have g7_q_fi38 : m7.fi 38 q = 0 := fi_at e7
  have F7 : FrK (EW e) μ m7 := F6.tr (fk7.mono (fun k h9 => by rw [h9]; exact Or.inl rfl))
  refine h_al_g C dX0_init_39 rfl rfl rfv_r ?_
  refine h_iload_g C dX0_init_40 rfl rfl ?_
  refine pf_X0_31 C dX0_init_41 (by rw [g7_q_kd]; exact KS_E he) MT ?_
  refine h_abs (fun m8 e8 => ?_)
  have hs8 : ∀ z, z ≠ q → SameAt m7 m8 z := fun z hz => by rw [e8]; exact same_sfi hz
  have fk8 : FrK (fun k => k = KS (4 + e)) m7 m8 := fk_sfi FrK.rf e8 g7_q_kd
  have n8_la : la ≠ q := fun z => by
    have h9 := g7_la_kd
    rw [z, g7_q_kd] at h9
    exact KS_ap (by omega) h9
  have n8_rt : rt ≠ q := fun z => by
    have h9 := g7_rt_kd
    rw [z, g7_q_kd] at h9
    exact KS_ap (by omega) h9
  have n8_ou : ou ≠ q := fun z => by
    have h9 := g7_ou_kd
    rw [z, g7_q_kd] at h9
    exact KS_ap (by omega) h9
  have g8_q_kd : m8.kd q = KS (4 + e) := (kd_sfi' e8).trans g7_q_kd
  have g8_la_kd : m8.kd la = KS (7 + e) := (hs8 la n8_la).1.trans g7_la_kd
  have g8_la_ln : m8.ln la = 3 := (hs8 la n8_la).2.2.2.2.1.trans g7_la_ln
  have g8_q_fr34 : m8.fr 34 q = some la := (congrFun (congrFun (fr_i e8) _) _).trans g7_q_fr34
  have g8_rt_kd : m8.kd rt = KS (10 + e) := (hs8 rt n8_rt).1.trans g7_rt_kd
  have g8_rt_L : ListAt Z.G m8 rt [] := g7_rt_L.kept fk8 (by rw [g7_rt_kd]; exact KS_ap (by omega)) (KS_LM (by omega))
  have g8_q_fr35 : m8.fr 35 q = some rt := (congrFun (congrFun (fr_i e8) _) _).trans g7_q_fr35
  have g8_ou_kd : m8.kd ou = KS (13 + e) := (hs8 ou n8_ou).1.trans g7_ou_kd
  have g8_ou_L : ListAt Z.G m8 ou [] := g7_ou_L.kept fk8 (by rw [g7_ou_kd]; exact KS_ap (by omega)) (KS_LM (by omega))
  have g8_q_fr36 : m8.fr 36 q = some ou := (congrFun (congrFun (fr_i e8) _) _).trans g7_q_fr36
  have g8_q_fi38 : m8.fi 38 q = 0 := (fi_ap e8 (Or.inl (by decide))).trans g7_q_fi38
  have g8_q_fi32 : m8.fi 32 q = nI e := fi_at e8
  have F8 : FrK (EW e) μ m8 := F7.tr (fk8.mono (fun k h9 => by rw [h9]; exact Or.inl rfl))
  refine h_al_g C dX0_init_44 rfl rfl rfv_r ?_
  refine h_iload_g C dX0_init_45 rfl rfl ?_
  refine h_callS1 C (k_X4_secretOfEnd Z.l Z.G (nI e) _) cw_X0_35 st_X4_secretOfEnd dX0_init_46 (by first | decide | exact Nat.le_of_ble_eq_true rfl) (by decide) (by decide) (by decide) (by decide) (kI fun r3 μ3 hp3 => ?_) kN
  obtain ⟨rfl, rfl⟩ := hp3
  rw [show (211 + 307 * nI e : Int32) = nI (211 + 307 * e) from by rw [show (307 : Int32) = nI 307 from rfl, pk_mul, show (211 : Int32) = nI 211 from rfl, nI_add]]
  refine pf_X0_41 C dX0_init_49 (by rw [g8_q_kd]; exact KS_E he) MT ?_
  refine h_abs (fun m9 e9 => ?_)
  have hs9 : ∀ z, z ≠ q → SameAt m8 m9 z := fun z hz => by rw [e9]; exact same_sfi hz
  have fk9 : FrK (fun k => k = KS (4 + e)) m8 m9 := fk_sfi FrK.rf e9 g8_q_kd
  have n9_la : la ≠ q := fun z => by
    have h9 := g8_la_kd
    rw [z, g8_q_kd] at h9
    exact KS_ap (by omega) h9
  have n9_rt : rt ≠ q := fun z => by
    have h9 := g8_rt_kd
    rw [z, g8_q_kd] at h9
    exact KS_ap (by omega) h9
  have n9_ou : ou ≠ q := fun z => by
    have h9 := g8_ou_kd
    rw [z, g8_q_kd] at h9
    exact KS_ap (by omega) h9
  have g9_q_kd : m9.kd q = KS (4 + e) := (kd_sfi' e9).trans g8_q_kd
  have g9_la_kd : m9.kd la = KS (7 + e) := (hs9 la n9_la).1.trans g8_la_kd
  have g9_la_ln : m9.ln la = 3 := (hs9 la n9_la).2.2.2.2.1.trans g8_la_ln
  have g9_q_fr34 : m9.fr 34 q = some la := (congrFun (congrFun (fr_i e9) _) _).trans g8_q_fr34
  have g9_rt_kd : m9.kd rt = KS (10 + e) := (hs9 rt n9_rt).1.trans g8_rt_kd
  have g9_rt_L : ListAt Z.G m9 rt [] := g8_rt_L.kept fk9 (by rw [g8_rt_kd]; exact KS_ap (by omega)) (KS_LM (by omega))
  have g9_q_fr35 : m9.fr 35 q = some rt := (congrFun (congrFun (fr_i e9) _) _).trans g8_q_fr35
  have g9_ou_kd : m9.kd ou = KS (13 + e) := (hs9 ou n9_ou).1.trans g8_ou_kd
  have g9_ou_L : ListAt Z.G m9 ou [] := g8_ou_L.kept fk9 (by rw [g8_ou_kd]; exact KS_ap (by omega)) (KS_LM (by omega))
  have g9_q_fr36 : m9.fr 36 q = some ou := (congrFun (congrFun (fr_i e9) _) _).trans g8_q_fr36
  have g9_q_fi38 : m9.fi 38 q = 0 := (fi_ap e9 (Or.inl (by decide))).trans g8_q_fi38
  have g9_q_fi32 : m9.fi 32 q = nI e := (fi_ap e9 (Or.inl (by decide))).trans g8_q_fi32
  have g9_q_fi33 : m9.fi 33 q = nI (211 + 307 * e) := fi_at e9
  have F9 : FrK (EW e) μ m9 := F8.tr (fk9.mono (fun k h9 => by rw [h9]; exact Or.inl rfl))
  refine h_al_g C dX0_init_52 rfl rfl rfv_r ?_
  refine h_bipush (v := 10) C dX0_init_53 (by decide) ?_
  refine h_bipush (v := 10) C dX0_init_55 (by decide) ?_
  refine h_iload_g C dX0_init_57 rfl rfl ?_
  refine h_imul C dX0_init_58 ?_
  refine h_iadd C dX0_init_59 ?_
  rw [show (10 + 10 * nI e : Int32) = nI (10 + 10 * e) from by rw [show (10 : Int32) = nI 10 from rfl, pk_mul, nI_add]]
  refine pf_X0_44 C dX0_init_60 (by rw [g9_q_kd]; exact KS_E he) ?_
  refine h_abs (fun m10 e10 => ?_)
  have hs10 : ∀ z, z ≠ q → SameAt m9 m10 z := fun z hz => by rw [e10]; exact same_sfi hz
  have fk10 : FrK (fun k => k = KS (4 + e)) m9 m10 := fk_sfi FrK.rf e10 g9_q_kd
  have n10_la : la ≠ q := fun z => by
    have h9 := g9_la_kd
    rw [z, g9_q_kd] at h9
    exact KS_ap (by omega) h9
  have n10_rt : rt ≠ q := fun z => by
    have h9 := g9_rt_kd
    rw [z, g9_q_kd] at h9
    exact KS_ap (by omega) h9
  have n10_ou : ou ≠ q := fun z => by
    have h9 := g9_ou_kd
    rw [z, g9_q_kd] at h9
    exact KS_ap (by omega) h9
  have g10_q_kd : m10.kd q = KS (4 + e) := (kd_sfi' e10).trans g9_q_kd
  have g10_la_kd : m10.kd la = KS (7 + e) := (hs10 la n10_la).1.trans g9_la_kd
  have g10_la_ln : m10.ln la = 3 := (hs10 la n10_la).2.2.2.2.1.trans g9_la_ln
  have g10_q_fr34 : m10.fr 34 q = some la := (congrFun (congrFun (fr_i e10) _) _).trans g9_q_fr34
  have g10_rt_kd : m10.kd rt = KS (10 + e) := (hs10 rt n10_rt).1.trans g9_rt_kd
  have g10_rt_L : ListAt Z.G m10 rt [] := g9_rt_L.kept fk10 (by rw [g9_rt_kd]; exact KS_ap (by omega)) (KS_LM (by omega))
  have g10_q_fr35 : m10.fr 35 q = some rt := (congrFun (congrFun (fr_i e10) _) _).trans g9_q_fr35
  have g10_ou_kd : m10.kd ou = KS (13 + e) := (hs10 ou n10_ou).1.trans g9_ou_kd
  have g10_ou_L : ListAt Z.G m10 ou [] := g9_ou_L.kept fk10 (by rw [g9_ou_kd]; exact KS_ap (by omega)) (KS_LM (by omega))
  have g10_q_fr36 : m10.fr 36 q = some ou := (congrFun (congrFun (fr_i e10) _) _).trans g9_q_fr36
  have g10_q_fi38 : m10.fi 38 q = 0 := (fi_ap e10 (Or.inl (by decide))).trans g9_q_fi38
  have g10_q_fi32 : m10.fi 32 q = nI e := (fi_ap e10 (Or.inl (by decide))).trans g9_q_fi32
  have g10_q_fi33 : m10.fi 33 q = nI (211 + 307 * e) := (fi_ap e10 (Or.inl (by decide))).trans g9_q_fi33
  have g10_q_fi37 : m10.fi 37 q = nI (10 + 10 * e) := fi_at e10
  have F10 : FrK (EW e) μ m10 := F9.tr (fk10.mono (fun k h9 => by rw [h9]; exact Or.inl rfl))
  refine h_iconst (v := 0) C dX0_init_63 (by decide) ?_
  refine h_ist_2 C dX0_init_64 ct_i ?_
  exact lp_X0_init (Z := Z) (μ := μ) (q := q) (e := e) he C E rfl rfl (fun μ' h => h) 3 0 _ _ m10 la rt ou (fun _ => 0) (fun _ => 0) ⟨g10_q_kd, g10_la_kd, g10_rt_kd, g10_ou_kd, g10_q_fi32, g10_q_fi33, g10_q_fr34, g10_q_fr35, g10_q_fr36, g10_q_fi37, g10_q_fi38, g10_la_ln, g10_rt_L, g10_ou_L, fun b hb => absurd hb (Nat.not_lt_zero _)⟩ F10 rfl (by decide) (by decide)

end
