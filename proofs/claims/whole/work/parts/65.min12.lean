section
theorem k_X9_hasCQ (l : Launch) (G : Gx) (Q : Nat → Nat) (S : Sx) (lx : LX) (μ : Mem) (hM : MRq Q S lx μ) (x y : Int32) (hx : isE x) (hy : isE y) : Kon l yX9_hasCookie cX9_hasCookie 3 (some .boolean) 0 0 0 0 G [.ref (Q 0), .int x, .int y] μ (pB (fun μ' => μ = μ' ∧ ¬ μ.ei (Q (21 + 3 * 7 + cl x)) (cl y) = -1 ∧ S.sc 0 - μ.ei (Q (21 + 3 * 8 + cl x)) (cl y) < 60) (fun μ' => μ = μ' ∧ ¬ (¬ μ.ei (Q (21 + 3 * 7 + cl x)) (cl y) = -1 ∧ S.sc 0 - μ.ei (Q (21 + 3 * 8 + cl x)) (cl y) < 60))) noX := by
  have h9 := k_X9_hasCookie l G (Q 0) μ hM.kX _ _ _ hM.f288 (hM.I2 (t := 7) (by decide)) (hM.I2 (t := 8) (by decide)) (cl x) (cl y) hx.lt hy.lt
  rw [← hx.nI, ← hy.nI] at h9
  exact h9
/-- the address y fits the end x as far as the ends before n tell -/
def FIT (S : Sx) (x y : Int32) (n : Nat) : Prop := inR y 1 99 ∧ ∀ j, j < n → nI j = x ∨ ¬ S.ef 0 j = y
theorem FIT_s {S : Sx} {x y : Int32} {n : Nat} : FIT S x y (n + 1) ↔ FIT S x y n ∧ (nI n = x ∨ ¬ S.ef 0 n = y) := by
  refine ⟨fun h => ⟨⟨h.1, fun j hj => h.2 j (by omega)⟩, h.2 n (by omega)⟩, fun h => ⟨h.1.1, fun j hj => ?_⟩⟩
  by_cases c : j = n
  · subst c
    exact h.2
  · exact h.1.2 j (by omega)
def okFit (S : Sx) (x y v : Int32) (n : Nat) : Prop := (v = 1 ∧ FIT S x y n) ∨ (v = 0 ∧ ¬ FIT S x y n)
theorem okFit.t {S : Sx} {x y v : Int32} {n : Nat} (h : okFit S x y v n) (c : nI n = x ∨ ¬ S.ef 0 n = y) : okFit S x y (v &&& 1) (n + 1) := by
  rcases h with ⟨h1, h2⟩ | ⟨h1, h2⟩
  · exact Or.inl ⟨by rw [h1]; decide, FIT_s.mpr ⟨h2, c⟩⟩
  · exact Or.inr ⟨by rw [h1]; decide, fun z => h2 (FIT_s.mp z).1⟩
theorem okFit.f {S : Sx} {x y v : Int32} {n : Nat} (h : okFit S x y v n) (c : ¬ (nI n = x ∨ ¬ S.ef 0 n = y)) : okFit S x y (v &&& 0) (n + 1) := by
  rcases h with ⟨h1, h2⟩ | ⟨h1, h2⟩
  · exact Or.inr ⟨by rw [h1]; decide, fun z => c (FIT_s.mp z).2⟩
  · exact Or.inr ⟨by rw [h1]; decide, fun z => c (FIT_s.mp z).2⟩
theorem FIT_code {S : Sx} {x y : Int32} (hx : isE x) : (FIT S x y 3 → movC S x y = 0) ∧ (¬ FIT S x y 3 → movC S x y = 2) := by
  have hq : ∀ j, j < 3 → (nI j = x ↔ j = cl x) := fun j hj => ⟨fun h => by rw [← h, cl_of (by omega)], fun h => by rw [h]; exact hx.nI.symm⟩
  have h0 := hq 0 (by decide)
  have h1 := hq 1 (by decide)
  have h2 := hq 2 (by decide)
  refine ⟨fun h => ?_, fun h => ?_⟩
  · unfold movC
    rw [if_pos hx, if_pos h.1, if_pos ⟨(h.2 0 (by decide)).imp h0.mp id, (h.2 1 (by decide)).imp h1.mp id, (h.2 2 (by decide)).imp h2.mp id⟩]
  · unfold movC
    rw [if_pos hx]
    by_cases c : inR y 1 99
    · rw [if_pos c, if_neg]
      intro z
      refine h ⟨c, fun j hj => ?_⟩
      have h9 : j = 0 ∨ j = 1 ∨ j = 2 := by omega
      rcases h9 with h9 | h9 | h9
      · subst h9
        exact z.1.imp h0.mpr id
      · subst h9
        exact z.2.1.imp h1.mpr id
      · subst h9
        exact z.2.2.imp h2.mpr id
    · rw [if_neg c]
set_option maxRecDepth 100000 in
set_option maxHeartbeats 1000000 in
theorem lp_X9_move {Z : Zx} {Post : Option Value → Mem → Prop} {PostX : String → Mem → Prop} {mc ms : Nat} {Q : Nat → Nat} {S : Sx} {t : Int32} {μ : Mem} {x y : Int32} (C : Cx Z RX9 cX9_move 2 mc ms 45) (E : Rt Z mc ms (some .int) Post PostX) (hM : MRq Q S (LXo S t) μ) (hP : ∀ v μ', ((movC S x y = 0 ∧ v = S.ef 0 (cl x) ∧ MTo Q WAll μ (S.sEf 0 (cl x) y) (LXo (S.sEf 0 (cl x) y) 0) μ') ∨ (¬ movC S x y = 0 ∧ MTo Q WAll μ S (LXo S (movC S x y)) μ')) → Post (some (.int v)) μ') :
    ∀ (m i : Nat) (v : Int32), i + m = 3 → i ≤ 3 → okFit S x y v i → HW Z 0 0 13 [some (.ref (Q 0)), some (.int x), some (.int y), some (.int v), some (.int (nI i))] [] μ := by
  have hT : MTo Q WAll μ S (LXo S t) μ := MTo.rf hM
  intro m
  induction m with
  | zero =>
    intro i v hj hi3 hI
    have hi : i = 3 := by omega
    subst hi
    rw [show nI 3 = 3 from rfl]
    refine h_iload_w C dX9_move_13 rfl ?_
    refine h_iconst (v := 3) C dX9_move_15 (by decide) ?_
    refine h_icmp_ge (tgt := 50) C dX9_move_16 (by decide) (fun c1 => ?_) (fun c1 => absurd (by decide) c1)
    refine h_al_g C dX9_move_50 rfl rfl rfv_r ?_
    refine h_iload_g C dX9_move_51 rfl rfl ?_
    refine h_callS1 C (k_X9_isEnd Z.l Z.G _ _) cw_X9_98 st_X9_isEnd dX9_move_52 (by first | decide | exact Nat.le_of_ble_eq_true rfl) (by decide) (by decide) (by omega) (by omega) (kB (fun μ1 hp1 => ?_) (fun μ1 hp1 => ?_)) kN
    · obtain ⟨rfl, hx⟩ := hp1
      refine h_if_ne (tgt := 62) C dX9_move_55 (by decide) (fun c2 => ?_) (fun c2 => absurd c2 (by decide))
      refine h_iload_g C dX9_move_62 rfl rfl ?_
      refine h_if_ne (tgt := 70) C dX9_move_63 (by decide) (fun c3 => ?_) (fun c3 => ?_)
      · have hfit : FIT S x y 3 := hI.elim (fun q => q.2) (fun q => absurd q.1 c3)
        refine h_iconst (v := 0) C dX9_move_70 (by decide) ?_
        refine h_callV1 (ci := 9) C (k_X9_isWrong Z.l Z.G (Q 0) _ hM.kX (0)) cw_X9_215 im_X9_isWrong sl_X9_isWrong rfl (by decide) hM.kX dX9_move_71 (by first | decide | exact Nat.le_of_ble_eq_true rfl) (by decide) (by decide) (by omega) (by omega) (kB (fun μ2 hp2 => ?_) (fun μ2 hp2 => ?_)) kN
        · obtain ⟨hc, e9⟩ := hp2
          exact absurd rfl hc
        · obtain ⟨hc, e9⟩ := hp2
          have hT := hT.sfi (Or.inr trivial) e9 (hT.1.w290 e9)
          have hM := hT.1
          refine h_if_eq (tgt := 79) C dX9_move_74 (by decide) (fun c4 => ?_) (fun c4 => absurd (by decide) c4)
          refine h_al_g C dX9_move_79 rfl rfl rfv_r ?_
          refine gs_X9_13 C dX9_move_80 hM.kX (hM.fA (i := 1) (by decide)) ?_
          refine h_iload_g C dX9_move_83 rfl rfl ?_
          refine h_iald C dX9_move_84 (hM.k11 (by decide)) (inb (hM.ln3 (by decide)) (vp_isE hx.1 hx.2 (by decide))) (atI rfl (hM.a1 hx.lt)) ?_
          refine h_ist_4 C dX9_move_85 ct_i ?_
          refine h_al_g C dX9_move_87 rfl rfl rfv_r ?_
          refine gs_X9_13 C dX9_move_88 hM.kX (hM.fA (i := 1) (by decide)) ?_
          refine h_iload_g C dX9_move_91 rfl rfl ?_
          refine h_iload_g C dX9_move_92 rfl rfl ?_
          refine h_iast C dX9_move_93 (hM.k11 (by decide)) (inb (hM.ln3 (by decide)) (vp_isE hx.1 hx.2 (by decide))) ?_
          refine h_abs (fun m1 em1 => ?_)
          have hT := hT.sei (j := 1) (by omega) (Or.inr trivial) em1 (hT.1.wAd hx.lt _ em1)
          have hM := hT.1
          refine h_iload_w C dX9_move_94 rfl ?_
          refine h_iret C E dX9_move_96 (Nat.zero_le _) (Nat.zero_le _) ?_
          exact hP _ _ (Or.inl ⟨(FIT_code hx).1 hfit, rfl, hT⟩)
      · have hfit : ¬ FIT S x y 3 := hI.elim (fun q => absurd (q.1.symm.trans c3) (by decide)) (fun q => q.2)
        refine h_iconst (v := 2) C dX9_move_66 (by decide) ?_
        refine h_goto (tgt := 71) C dX9_move_67 (by decide) ?_
        refine h_callV1 (ci := 9) C (k_X9_isWrong Z.l Z.G (Q 0) _ hM.kX (2)) cw_X9_215 im_X9_isWrong sl_X9_isWrong rfl (by decide) hM.kX dX9_move_71 (by first | decide | exact Nat.le_of_ble_eq_true rfl) (by decide) (by decide) (by omega) (by omega) (kB (fun μ3 hp3 => ?_) (fun μ3 hp3 => ?_)) kN
        · obtain ⟨hc, e9⟩ := hp3
          have hT := hT.sfi (Or.inr trivial) e9 (hT.1.w290 e9)
          have hM := hT.1
          refine h_if_eq (tgt := 79) C dX9_move_74 (by decide) (fun c5 => absurd c5 (by decide)) (fun c5 => ?_)
          refine h_iconst (v := 0) C dX9_move_77 (by decide) ?_
          refine h_iret C E dX9_move_78 (Nat.zero_le _) (Nat.zero_le _) ?_
          exact hP _ _ (Or.inr ⟨by rw [(FIT_code hx).2 hfit]; decide, by rw [(FIT_code hx).2 hfit]; exact hT⟩)
        · obtain ⟨hc, e9⟩ := hp3
          exact absurd hc (by decide)
    · obtain ⟨rfl, hx⟩ := hp1
      refine h_if_ne (tgt := 62) C dX9_move_55 (by decide) (fun c6 => absurd c6 (by decide)) (fun c6 => ?_)
      refine h_iconst (v := 1) C dX9_move_58 (by decide) ?_
      refine h_goto (tgt := 71) C dX9_move_59 (by decide) ?_
      refine h_callV1 (ci := 9) C (k_X9_isWrong Z.l Z.G (Q 0) _ hM.kX (1)) cw_X9_215 im_X9_isWrong sl_X9_isWrong rfl (by decide) hM.kX dX9_move_71 (by first | decide | exact Nat.le_of_ble_eq_true rfl) (by decide) (by decide) (by omega) (by omega) (kB (fun μ4 hp4 => ?_) (fun μ4 hp4 => ?_)) kN
      · obtain ⟨hc, e9⟩ := hp4
        have hT := hT.sfi (Or.inr trivial) e9 (hT.1.w290 e9)
        have hM := hT.1
        refine h_if_eq (tgt := 79) C dX9_move_74 (by decide) (fun c7 => absurd c7 (by decide)) (fun c7 => ?_)
        refine h_iconst (v := 0) C dX9_move_77 (by decide) ?_
        refine h_iret C E dX9_move_78 (Nat.zero_le _) (Nat.zero_le _) ?_
        exact hP _ _ (Or.inr ⟨by rw [show movC S x y = 1 from if_neg hx]; decide, by rw [show movC S x y = 1 from if_neg hx]; exact hT⟩)
      · obtain ⟨hc, e9⟩ := hp4
        exact absurd hc (by decide)
  | succ m ih =>
    intro i v hj hi3 hI
    have hi : i < 3 := by omega
    refine h_iload_w C dX9_move_13 rfl ?_
    refine h_iconst (v := 3) C dX9_move_15 (by decide) ?_
    refine h_icmp_ge (tgt := 50) C dX9_move_16 (by decide) (fun c1 => absurd c1 ((by rw [Int32.le_iff_toInt_le, nI_toInt (by omega)]; show ¬ (3 : Int) ≤ _; omega))) (fun c1 => ?_)
    refine h_iload_g C dX9_move_19 rfl rfl ?_
    refine h_iload_w C dX9_move_20 rfl ?_
    refine h_iload_g C dX9_move_22 rfl rfl ?_
    refine h_icmp_eq (tgt := 37) C dX9_move_23 (by decide) (fun cA => ?_) (fun cA => ?_)
    · refine h_iconst (v := 1) C dX9_move_37 (by decide) ?_
      refine h_goto (tgt := 42) C dX9_move_38 (by decide) ?_
      refine h_iand C dX9_move_42 ?_
      refine h_ist_3 C dX9_move_43 ct_i ?_
      refine h_iinc_4 (q := 1) C dX9_move_44 (by decide) ct_i ?_
      refine h_goto (tgt := 13) C dX9_move_47 (by decide) ?_
      rw [nI_1]
      exact ih (i + 1) _ (by omega) (by omega) (hI.t (Or.inl cA))
    · refine h_al_g C dX9_move_26 rfl rfl rfv_r ?_
      refine gs_X9_13 C dX9_move_27 hM.kX (hM.fA (i := 1) (by decide)) ?_
      refine h_iload_w C dX9_move_30 rfl ?_
      refine h_iald C dX9_move_32 (hM.k11 (by decide)) (inb (hM.ln3 (by decide)) (vp_in_nI hi (by decide))) (atI (cl_of (n := i) (by have h9 := hi; omega)) (hM.a1 hi)) ?_
      refine h_iload_g C dX9_move_33 rfl rfl ?_
      refine h_icmp_eq (tgt := 41) C dX9_move_34 (by decide) (fun cB => ?_) (fun cB => ?_)
      · refine h_iconst (v := 0) C dX9_move_41 (by decide) ?_
        refine h_iand C dX9_move_42 ?_
        refine h_ist_3 C dX9_move_43 ct_i ?_
        refine h_iinc_4 (q := 1) C dX9_move_44 (by decide) ct_i ?_
        refine h_goto (tgt := 13) C dX9_move_47 (by decide) ?_
        rw [nI_1]
        exact ih (i + 1) _ (by omega) (by omega) (hI.f (fun z => z.elim cA (fun q => q cB)))
      · refine h_iconst (v := 1) C dX9_move_37 (by decide) ?_
        refine h_goto (tgt := 42) C dX9_move_38 (by decide) ?_
        refine h_iand C dX9_move_42 ?_
        refine h_ist_3 C dX9_move_43 ct_i ?_
        refine h_iinc_4 (q := 1) C dX9_move_44 (by decide) ct_i ?_
        refine h_goto (tgt := 13) C dX9_move_47 (by decide) ?_
        rw [nI_1]
        exact ih (i + 1) _ (by omega) (by omega) (hI.t (Or.inr cB))

set_option maxRecDepth 100000 in
set_option maxHeartbeats 1000000 in
theorem k_X9_move (l : Launch) (G : Gx) (Q : Nat → Nat) (S : Sx) (t : Int32) (μ : Mem) (hM : MRq Q S (LXo S t) μ) (x y : Int32) : Kon l yX9_move cX9_move 5 (some .int) 2 0 0 45 G [.ref (Q 0), .int x, .int y] μ (pI fun v μ' => (movC S x y = 0 ∧ v = S.ef 0 (cl x) ∧ MTo Q WAll μ (S.sEf 0 (cl x) y) (LXo (S.sEf 0 (cl x) y) 0) μ') ∨ (¬ movC S x y = 0 ∧ MTo Q WAll μ S (LXo S (movC S x y)) μ')) noX := by
  refine Kon.ofG (by decide +kernel) (Nat.le_of_ble_eq_true rfl) (Nat.le_of_ble_eq_true rfl) (fun Z hZG C E NT MT => ?_)
  subst hZG
  have C : Cx Z RX9 cX9_move 2 0 0 45 := C
  show HW Z 0 0 0 [some (.ref (Q 0)), some (.int x), some (.int y), none, none] [] μ
  have hT : MTo Q WAll μ S (LXo S t) μ := MTo.rf hM
  have h60_ := hM.nt.1
  refine h_iload_g C dX9_move_0 rfl rfl ?_
  refine h_i2l C dX9_move_1 ?_
  refine h_lconst (v := 1) C dX9_move_2 (by decide) ?_
  refine h_ldc2 C kc_X9_218 dX9_move_3 ?_
  refine h_callS3 C (k_X9_isBetween Z.l Z.G _ _ _ _) cw_X9_91 st_X9_isBetween dX9_move_6 (by first | decide | exact Nat.le_of_ble_eq_true rfl) (by decide) (by decide) (by decide) (by decide) (kB (fun μ1 hp1 => ?_) (fun μ1 hp1 => ?_)) kN
  · obtain ⟨rfl, hBt⟩ := hp1
    rw [btw_i] at hBt
    refine h_ist_3 C dX9_move_9 ct_i ?_
    refine h_iconst (v := 0) C dX9_move_10 (by decide) ?_
    refine h_ist_4 C dX9_move_11 ct_i ?_
    exact lp_X9_move C E hM (fun v m h => ⟨v, rfl, h⟩) 3 0 _ (by decide) (by decide) (Or.inl ⟨rfl, hBt, fun j hj => absurd hj (by omega)⟩)
  · obtain ⟨rfl, hBt⟩ := hp1
    rw [btw_i] at hBt
    refine h_ist_3 C dX9_move_9 ct_i ?_
    refine h_iconst (v := 0) C dX9_move_10 (by decide) ?_
    refine h_ist_4 C dX9_move_11 ct_i ?_
    exact lp_X9_move C E hM (fun v m h => ⟨v, rfl, h⟩) 3 0 _ (by decide) (by decide) (Or.inr ⟨rfl, fun z => hBt z.1⟩)

set_option maxRecDepth 100000 in
set_option maxHeartbeats 1000000 in
theorem k_X9_load (l : Launch) (G : Gx) (Q : Nat → Nat) (S : Sx) (t : Int32) (μ : Mem) (hM : MRq Q S (LXo S t) μ) (x z : Int32) (hz : z = 0 ∨ z = 1) (hB : ∀ e, e < 3 → S.ef 1 e = 0 ∨ S.ef 1 e = 1) : Kon l yX9_load cX9_load 4 (some .boolean) 2 0 0 45 G [.ref (Q 0), .int x, .int z] μ (pI fun v μ' => (v = 0 ∨ v = 1) ∧ ((endC x = 0 ∧ v = S.ef 1 (cl x) ∧ MTo Q WAll μ (S.sEf 1 (cl x) z) (LXo (S.sEf 1 (cl x) z) 0) μ') ∨ (¬ endC x = 0 ∧ MTo Q WAll μ S (LXo S (endC x)) μ'))) noX := by
  refine Kon.ofG (by decide +kernel) (Nat.le_of_ble_eq_true rfl) (Nat.le_of_ble_eq_true rfl) (fun Z hZG C E NT MT => ?_)
  subst hZG
  have C : Cx Z RX9 cX9_load 2 0 0 45 := C
  show HW Z 0 0 0 [some (.ref (Q 0)), some (.int x), some (.int z), none] [] μ
  have hT : MTo Q WAll μ S (LXo S t) μ := MTo.rf hM
  have h60_ := hM.nt.1
  refine h_al_g C dX9_load_0 rfl rfl rfv_r ?_
  refine h_iload_g C dX9_load_1 rfl rfl ?_
  refine h_callS1 C (k_X9_isEnd Z.l Z.G _ _) cw_X9_98 st_X9_isEnd dX9_load_2 (by first | decide | exact Nat.le_of_ble_eq_true rfl) (by decide) (by decide) (by decide) (by decide) (kB (fun μ1 hp1 => ?_) (fun μ1 hp1 => ?_)) kN
  · obtain ⟨rfl, hx⟩ := hp1
    refine h_if_eq (tgt := 12) C dX9_load_5 (by decide) (fun c1 => absurd c1 (by decide)) (fun c1 => ?_)
    refine h_iconst (v := 0) C dX9_load_8 (by decide) ?_
    refine h_goto (tgt := 13) C dX9_load_9 (by decide) ?_
    refine h_callV1 (ci := 9) C (k_X9_isWrong Z.l Z.G (Q 0) _ hM.kX (0)) cw_X9_215 im_X9_isWrong sl_X9_isWrong rfl (by decide) hM.kX dX9_load_13 (by first | decide | exact Nat.le_of_ble_eq_true rfl) (by decide) (by decide) (by decide) (by decide) (kB (fun μ2 hp2 => ?_) (fun μ2 hp2 => ?_)) kN
    · obtain ⟨hc, e9⟩ := hp2
      exact absurd rfl hc
    · obtain ⟨hc, e9⟩ := hp2
      have hT := hT.sfi (Or.inr trivial) e9 (hT.1.w290 e9)
      have hM := hT.1
      refine h_if_eq (tgt := 21) C dX9_load_16 (by decide) (fun c2 => ?_) (fun c2 => absurd (by decide) c2)
      refine h_al_g C dX9_load_21 rfl rfl rfv_r ?_
      refine gs_X9_26 C dX9_load_22 hM.kX (hM.fA (i := 5) (by decide)) ?_
      refine h_iload_g C dX9_load_25 rfl rfl ?_
      refine h_zald C dX9_load_26 hM.k12 (inb (hM.ln3 (by decide)) (vp_isE hx.1 hx.2 (by decide))) (atI rfl (hM.a5 hx.lt)) ?_
      refine h_ist_3 C dX9_load_27 ct_i ?_
      refine h_al_g C dX9_load_28 rfl rfl rfv_r ?_
      refine gs_X9_26 C dX9_load_29 hM.kX (hM.fA (i := 5) (by decide)) ?_
      refine h_iload_g C dX9_load_32 rfl rfl ?_
      refine h_iload_g C dX9_load_33 rfl rfl ?_
      refine h_zast C dX9_load_34 hM.k12 (inb (hM.ln3 (by decide)) (vp_isE hx.1 hx.2 (by decide))) hz ?_
      refine h_abs (fun m1 em1 => ?_)
      have hT := hT.sei (j := 5) (by omega) (Or.inr trivial) em1 (hT.1.wLd hx.lt _ em1)
      have hM := hT.1
      refine h_iload_g C dX9_load_35 rfl rfl ?_
      refine h_zret C E dX9_load_36 (by decide) (by decide) (hB _ hx.lt) ?_
      exact ⟨_, rfl, hB _ hx.lt, Or.inl ⟨if_pos hx, rfl, hT⟩⟩
  · obtain ⟨rfl, hx⟩ := hp1
    refine h_if_eq (tgt := 12) C dX9_load_5 (by decide) (fun c3 => ?_) (fun c3 => absurd (by decide) c3)
    refine h_iconst (v := 1) C dX9_load_12 (by decide) ?_
    refine h_callV1 (ci := 9) C (k_X9_isWrong Z.l Z.G (Q 0) _ hM.kX (1)) cw_X9_215 im_X9_isWrong sl_X9_isWrong rfl (by decide) hM.kX dX9_load_13 (by first | decide | exact Nat.le_of_ble_eq_true rfl) (by decide) (by decide) (by decide) (by decide) (kB (fun μ3 hp3 => ?_) (fun μ3 hp3 => ?_)) kN
    · obtain ⟨hc, e9⟩ := hp3
      have hT := hT.sfi (Or.inr trivial) e9 (hT.1.w290 e9)
      have hM := hT.1
      refine h_if_eq (tgt := 21) C dX9_load_16 (by decide) (fun c4 => absurd c4 (by decide)) (fun c4 => ?_)
      refine h_iconst (v := 0) C dX9_load_19 (by decide) ?_
      refine h_zret C E dX9_load_20 (by decide) (by decide) (by first | exact Or.inl rfl | exact Or.inr rfl) ?_
      exact ⟨_, rfl, Or.inl rfl, Or.inr ⟨by rw [show endC x = 1 from if_neg hx]; decide, by rw [show endC x = 1 from if_neg hx]; exact hT⟩⟩
    · obtain ⟨hc, e9⟩ := hp3
      exact absurd hc (by decide)

set_option maxRecDepth 100000 in
set_option maxHeartbeats 1000000 in
theorem k_X9_route (l : Launch) (G : Gx) (Q : Nat → Nat) (S : Sx) (t : Int32) (μ : Mem) (hM : MRq Q S (LXo S t) μ) (x y : Int32) (hW : okW S) : Kon l yX9_route cX9_route 3 (some .int) 2 0 0 45 G [.ref (Q 0), .int x, .int y] μ (pI fun v μ' => (rouC x y = 0 ∧ v = GVN y (S.rt (cl x)) (-1) (-1) ∧ MTo Q WAll μ (S) (LXo (S) 0) μ') ∨ (¬ rouC x y = 0 ∧ MTo Q WAll μ S (LXo S (rouC x y)) μ')) noX := by
  refine Kon.ofG (by decide +kernel) (Nat.le_of_ble_eq_true rfl) (Nat.le_of_ble_eq_true rfl) (fun Z hZG C E NT MT => ?_)
  subst hZG
  have C : Cx Z RX9 cX9_route 2 0 0 45 := C
  show HW Z 0 0 0 [some (.ref (Q 0)), some (.int x), some (.int y)] [] μ
  have hT : MTo Q WAll μ S (LXo S t) μ := MTo.rf hM
  have h60_ := hM.nt.1
  refine h_al_g C dX9_route_0 rfl rfl rfv_r ?_
  refine h_iload_g C dX9_route_1 rfl rfl ?_
  refine h_callS1 C (k_X9_isEnd Z.l Z.G _ _) cw_X9_98 st_X9_isEnd dX9_route_2 (by first | decide | exact Nat.le_of_ble_eq_true rfl) (by decide) (by decide) (by decide) (by decide) (kB (fun μ1 hp1 => ?_) (fun μ1 hp1 => ?_)) kN
  · obtain ⟨rfl, hx⟩ := hp1
    refine h_if_ne (tgt := 12) C dX9_route_5 (by decide) (fun c1 => ?_) (fun c1 => absurd c1 (by decide))
    refine h_iload_g C dX9_route_12 rfl rfl ?_
    refine h_i2l C dX9_route_13 ?_
    refine h_lconst (v := 0) C dX9_route_14 (by decide) ?_
    refine h_ldc2 C kc_X9_220 dX9_route_15 ?_
    refine h_callS3 C (k_X9_isBetween Z.l Z.G _ _ _ _) cw_X9_91 st_X9_isBetween dX9_route_18 (by first | decide | exact Nat.le_of_ble_eq_true rfl) (by decide) (by decide) (by decide) (by decide) (kB (fun μ2 hp2 => ?_) (fun μ2 hp2 => ?_)) kN
    · obtain ⟨rfl, hBt⟩ := hp2
      rw [btw_i] at hBt
      refine h_if_ne (tgt := 28) C dX9_route_21 (by decide) (fun c2 => ?_) (fun c2 => absurd c2 (by decide))
      refine h_iconst (v := 0) C dX9_route_28 (by decide) ?_
      refine h_callV1 (ci := 9) C (k_X9_isWrong Z.l Z.G (Q 0) _ hM.kX (0)) cw_X9_215 im_X9_isWrong sl_X9_isWrong rfl (by decide) hM.kX dX9_route_29 (by first | decide | exact Nat.le_of_ble_eq_true rfl) (by decide) (by decide) (by decide) (by decide) (kB (fun μ3 hp3 => ?_) (fun μ3 hp3 => ?_)) kN
      · obtain ⟨hc, e9⟩ := hp3
        exact absurd rfl hc
      · obtain ⟨hc, e9⟩ := hp3
        have hT := hT.sfi (Or.inr trivial) e9 (hT.1.w290 e9)
        have hM := hT.1
        refine h_if_eq (tgt := 37) C dX9_route_32 (by decide) (fun c3 => ?_) (fun c3 => absurd (by decide) c3)
        refine h_al_g C dX9_route_37 rfl rfl rfv_r ?_
        refine h_iload_g C dX9_route_38 rfl rfl ?_
        refine h_iload_g C dX9_route_39 rfl rfl ?_
        refine h_callV2 (ci := 9) C (k_X9_given Z.l Z.G Q S _ _ hM _ hx.lt _ hx.nI y ⟨cl y, by have h8 : y.toInt ≤ 255 := hBt.2; have := cl_eq (x := y) hBt.1; omega, cl_nI hBt.1⟩ (hW.2.2.2.2.2.1 _ hx.lt)) cw_X9_196 im_X9_given sl_X9_given rfl (by decide) hM.kX dX9_route_40 (by first | decide | exact Nat.le_of_ble_eq_true rfl) (by decide) (by decide) (by decide) (by decide) (kI fun r4 μ4 hp4 => ?_) kN
        obtain ⟨rfl, rfl⟩ := hp4
        refine h_iret C E dX9_route_43 (by decide) (by decide) ?_
        exact ⟨_, rfl, Or.inl ⟨(if_pos hx).trans (if_pos hBt), rfl, hT⟩⟩
    · obtain ⟨rfl, hBt⟩ := hp2
      rw [btw_i] at hBt
      refine h_if_ne (tgt := 28) C dX9_route_21 (by decide) (fun c4 => absurd c4 (by decide)) (fun c4 => ?_)
      refine h_iconst (v := 2) C dX9_route_24 (by decide) ?_
      refine h_goto (tgt := 29) C dX9_route_25 (by decide) ?_
      refine h_callV1 (ci := 9) C (k_X9_isWrong Z.l Z.G (Q 0) _ hM.kX (2)) cw_X9_215 im_X9_isWrong sl_X9_isWrong rfl (by decide) hM.kX dX9_route_29 (by first | decide | exact Nat.le_of_ble_eq_true rfl) (by decide) (by decide) (by decide) (by decide) (kB (fun μ5 hp5 => ?_) (fun μ5 hp5 => ?_)) kN
      · obtain ⟨hc, e9⟩ := hp5
        have hT := hT.sfi (Or.inr trivial) e9 (hT.1.w290 e9)
        have hM := hT.1
        refine h_if_eq (tgt := 37) C dX9_route_32 (by decide) (fun c5 => absurd c5 (by decide)) (fun c5 => ?_)
        refine h_iconst (v := 0) C dX9_route_35 (by decide) ?_
        refine h_iret C E dX9_route_36 (by decide) (by decide) ?_
        exact ⟨_, rfl, Or.inr ⟨by rw [show rouC x y = 2 from (if_pos hx).trans (if_neg hBt)]; decide, by rw [show rouC x y = 2 from (if_pos hx).trans (if_neg hBt)]; exact hT⟩⟩
      · obtain ⟨hc, e9⟩ := hp5
        exact absurd hc (by decide)
  · obtain ⟨rfl, hx⟩ := hp1
    refine h_if_ne (tgt := 12) C dX9_route_5 (by decide) (fun c6 => absurd c6 (by decide)) (fun c6 => ?_)
    refine h_iconst (v := 1) C dX9_route_8 (by decide) ?_
    refine h_goto (tgt := 29) C dX9_route_9 (by decide) ?_
    refine h_callV1 (ci := 9) C (k_X9_isWrong Z.l Z.G (Q 0) _ hM.kX (1)) cw_X9_215 im_X9_isWrong sl_X9_isWrong rfl (by decide) hM.kX dX9_route_29 (by first | decide | exact Nat.le_of_ble_eq_true rfl) (by decide) (by decide) (by decide) (by decide) (kB (fun μ6 hp6 => ?_) (fun μ6 hp6 => ?_)) kN
    · obtain ⟨hc, e9⟩ := hp6
      have hT := hT.sfi (Or.inr trivial) e9 (hT.1.w290 e9)
      have hM := hT.1
      refine h_if_eq (tgt := 37) C dX9_route_32 (by decide) (fun c7 => absurd c7 (by decide)) (fun c7 => ?_)
      refine h_iconst (v := 0) C dX9_route_35 (by decide) ?_
      refine h_iret C E dX9_route_36 (by decide) (by decide) ?_
      exact ⟨_, rfl, Or.inr ⟨by rw [show rouC x y = 1 from if_neg hx]; decide, by rw [show rouC x y = 1 from if_neg hx]; exact hT⟩⟩
    · obtain ⟨hc, e9⟩ := hp6
      exact absurd hc (by decide)

theorem sesC_p {S : Sx} {x y w q : Int32} (h : ¬ pairC x y = 0) : sesC S x y w q = pairC x y := by
  unfold sesC
  by_cases h1 : isE x ∧ isE y
  · by_cases h2 : x = y
    · rw [if_pos h1, if_neg (fun z => z h2), pairC_2 h1.1 h1.2 h2]
    · exact absurd (pairC_ok h1.1 h1.2 h2) h
  · rw [if_neg h1, pairC_1 h1]
theorem sesC_0 {S : Sx} {x y w q : Int32} (h : pairC x y = 0) : sesC S x y w q = if inR w 0 2 then (if inR q 0 8 then (if S.ses (cl x) (cl y) (cl w) = none then 3 else 0) else 2) else 2 := by
  obtain ⟨h1, h2, h3⟩ := pairC_z h
  unfold sesC
  rw [if_pos ⟨h1, h2⟩, if_pos h3]
set_option maxRecDepth 100000 in
set_option maxHeartbeats 1000000 in
theorem k_X9_session (l : Launch) (G : Gx) (Q : Nat → Nat) (S : Sx) (t : Int32) (μ : Mem) (hM : MRq Q S (LXo S t) μ) (x y w q : Int32) (h6 : ∀ a b w r, a < 3 → b < 3 → w < 3 → S.ses a b w = some r → r.1 6 = 0 ∨ r.1 6 = 1) : Kon l yX9_session cX9_session 7 (some .int) 3 0 0 66 G [.ref (Q 0), .int x, .int y, .int w, .int q] μ (pI fun v μ' => (sesC S x y w q = 0 ∧ v = SESv S (SESr S (cl x) (cl y) (cl w)) q ∧ MTo Q WAll μ (S) (LXo (S) 0) μ') ∨ (¬ sesC S x y w q = 0 ∧ MTo Q WAll μ S (LXo S (sesC S x y w q)) μ')) noX := by
  refine Kon.ofG (by decide +kernel) (Nat.le_of_ble_eq_true rfl) (Nat.le_of_ble_eq_true rfl) (fun Z hZG C E NT MT => ?_)
  subst hZG
  have C : Cx Z RX9 cX9_session 3 0 0 66 := C
  show HW Z 0 0 0 [some (.ref (Q 0)), some (.int x), some (.int y), some (.int w), some (.int q), none, none] [] μ
  have hT : MTo Q WAll μ S (LXo S t) μ := MTo.rf hM
  have h60_ := hM.nt.1
  refine h_iload_g C dX9_session_0 rfl rfl ?_
  refine h_iload_g C dX9_session_1 rfl rfl ?_
  refine h_callS2 C (k_X9_pair Z.l Z.G _ _ _) cw_X9_224 st_X9_pair dX9_session_2 (by first | decide | exact Nat.le_of_ble_eq_true rfl) (by decide) (by decide) (by decide) (by decide) (kI fun r1 μ1 hp1 => ?_) kN
  obtain ⟨rfl, rfl⟩ := hp1
  refine h_ist_5 C dX9_session_5 ct_i ?_
  refine h_iload_w C dX9_session_7 rfl ?_
  refine h_if_ne (tgt := 40) C dX9_session_9 (by decide) (fun c1 => ?_) (fun c1 => ?_)
  · refine h_iload_w C dX9_session_40 rfl ?_
    refine h_if_ne (tgt := 58) C dX9_session_42 (by decide) (fun c9 => ?_) (fun c9 => ?_)
    · refine h_al_g C dX9_session_58 rfl rfl rfv_r ?_
      refine h_iload_w C dX9_session_59 rfl ?_
      refine h_callV1 (ci := 9) C (k_X9_isWrong Z.l Z.G (Q 0) _ hM.kX (pairC x y)) cw_X9_215 im_X9_isWrong sl_X9_isWrong rfl (by decide) hM.kX dX9_session_61 (by first | decide | exact Nat.le_of_ble_eq_true rfl) (by decide) (by decide) (by decide) (by decide) (kB (fun μ2 hp2 => ?_) (fun μ2 hp2 => ?_)) kN
      · obtain ⟨hc, e9⟩ := hp2
        have hT := hT.sfi (Or.inr trivial) e9 (hT.1.w290 e9)
        have hM := hT.1
        refine h_if_eq (tgt := 69) C dX9_session_64 (by decide) (fun c3 => absurd c3 (by decide)) (fun c3 => ?_)
        refine h_iconst (v := 0) C dX9_session_67 (by decide) ?_
        refine h_iret C E dX9_session_68 (by decide) (by decide) ?_
        exact ⟨_, rfl, Or.inr ⟨by rw [sesC_p c1]; exact c1, by rw [sesC_p c1]; exact hT⟩⟩
      · obtain ⟨hc, e9⟩ := hp2
        exact absurd hc c1
    · exact absurd c9 c1
  · have hp0 : pairC x y = 0 := c1
    obtain ⟨hx, hy, hne⟩ := pairC_z hp0
    rw [hp0]
    refine h_iload_g C dX9_session_12 rfl rfl ?_
    refine h_i2l C dX9_session_13 ?_
    refine h_lconst (v := 0) C dX9_session_14 (by decide) ?_
    refine h_ldc2 C kc_X9_89 dX9_session_15 ?_
    refine h_callS3 C (k_X9_isBetween Z.l Z.G _ _ _ _) cw_X9_91 st_X9_isBetween dX9_session_18 (by first | decide | exact Nat.le_of_ble_eq_true rfl) (by decide) (by decide) (by decide) (by decide) (kB (fun μ3 hp3 => ?_) (fun μ3 hp3 => ?_)) kN
    · obtain ⟨rfl, hBt⟩ := hp3
      rw [btw_i] at hBt
      have hw : isE w := ⟨hBt.1, by have h8 : w.toInt ≤ 2 := hBt.2; omega⟩
      have hBw := hBt
      refine h_if_eq (tgt := 37) C dX9_session_21 (by decide) (fun c4 => absurd c4 (by decide)) (fun c4 => ?_)
      refine h_iload_w C dX9_session_24 rfl ?_
      refine h_i2l C dX9_session_26 ?_
      refine h_lconst (v := 0) C dX9_session_27 (by decide) ?_
      refine h_ldc2 C kc_X9_222 dX9_session_28 ?_
      refine h_callS3 C (k_X9_isBetween Z.l Z.G _ _ _ _) cw_X9_91 st_X9_isBetween dX9_session_31 (by first | decide | exact Nat.le_of_ble_eq_true rfl) (by decide) (by decide) (by decide) (by decide) (kB (fun μ4 hp4 => ?_) (fun μ4 hp4 => ?_)) kN
      · obtain ⟨rfl, hBt⟩ := hp4
        rw [btw_i] at hBt
        refine h_if_ne (tgt := 40) C dX9_session_34 (by decide) (fun c5 => ?_) (fun c5 => absurd c5 (by decide))
        refine h_iload_w C dX9_session_40 rfl ?_
        refine h_if_ne (tgt := 58) C dX9_session_42 (by decide) (fun c6 => absurd c6 (by decide)) (fun c6 => ?_)
        refine h_al_g C dX9_session_45 rfl rfl rfv_r ?_
        refine h_iload_g C dX9_session_46 rfl rfl ?_
        refine h_iload_g C dX9_session_47 rfl rfl ?_
        refine h_iload_g C dX9_session_48 rfl rfl ?_
        refine h_callV3 (ci := 9) C (k_X9_isThere Z.l Z.G Q S _ _ hM _ hx.lt _ hx.nI _ hy.lt _ hy.nI _ hw.lt _ hw.nI) cw_X9_166 im_X9_isThere sl_X9_isThere rfl (by decide) hM.kX dX9_session_49 (by first | decide | exact Nat.le_of_ble_eq_true rfl) (by decide) (by decide) (by decide) (by decide) (kB (fun μ5 hp5 => ?_) (fun μ5 hp5 => ?_)) kN
        · obtain ⟨rfl, r, hr⟩ := hp5
          have hcode : sesC S x y w q = 0 := (sesC_0 hp0).trans ((if_pos hBw).trans ((if_pos hBt).trans (if_neg (fun z => by rw [hr] at z; cases z))))
          refine h_if_ne (tgt := 58) C dX9_session_52 (by decide) (fun c7 => ?_) (fun c7 => absurd c7 (by decide))
          refine h_al_g C dX9_session_58 rfl rfl rfv_r ?_
          refine h_iload_w C dX9_session_59 rfl ?_
          refine h_callV1 (ci := 9) C (k_X9_isWrong Z.l Z.G (Q 0) _ hM.kX (0)) cw_X9_215 im_X9_isWrong sl_X9_isWrong rfl (by decide) hM.kX dX9_session_61 (by first | decide | exact Nat.le_of_ble_eq_true rfl) (by decide) (by decide) (by decide) (by decide) (kB (fun μ6 hp6 => ?_) (fun μ6 hp6 => ?_)) kN
          · obtain ⟨hc, e9⟩ := hp6
            exact absurd rfl hc
          · obtain ⟨hc, e9⟩ := hp6
            have hT := hT.sfi (Or.inr trivial) e9 (hT.1.w290 e9)
            have hM := hT.1
            refine h_if_eq (tgt := 69) C dX9_session_64 (by decide) (fun c8 => ?_) (fun c8 => absurd (by decide) c8)
            refine h_al_g C dX9_session_69 rfl rfl rfv_r ?_
            refine gs_X9_72 C dX9_session_70 hM.kX (hM.fA (i := 18) (by decide)) ?_
            refine h_iload_g C dX9_session_73 rfl rfl ?_
            refine h_aald (r := some _) C dX9_session_74 (hM.kr (by decide)) (inb (hM.ln3 (by decide)) (vp_isE hx.1 hx.2 (by decide))) (atI rfl (hM.d1 (i := 1) (by decide) hx.lt)) ?_
            refine h_iload_g C dX9_session_75 rfl rfl ?_
            refine h_aald (r := some _) C dX9_session_76 (hM.kr (by have h0_ := hx.lt; have g0_ : Int32.toNatClampNeg x < 3 := hx.lt; omega)) (inb (hM.ln3 (by have h0_ := hx.lt; have g0_ : Int32.toNatClampNeg x < 3 := hx.lt; omega)) (vp_isE hy.1 hy.2 (by decide))) (atI rfl (hM.d2 (i := 1) (by decide) hx.lt hy.lt)) ?_
            obtain ⟨s, s1, s2, s3, s4⟩ := hM.se hx.lt hy.lt hw.lt (fun z => z)
            rw [hr] at s4
            refine h_iload_g C dX9_session_77 rfl rfl ?_
            refine h_aald (r := some _) C dX9_session_78 (hM.kr (by have : Int32.toNatClampNeg x < 3 := hx.lt; have : Int32.toNatClampNeg y < 3 := hy.lt; omega)) (inb (hM.ln3 (by have : Int32.toNatClampNeg x < 3 := hx.lt; have : Int32.toNatClampNeg y < 3 := hy.lt; omega)) (vp_isE hw.1 hw.2 (by decide))) s1 ?_
            refine h_ast_6 C dX9_session_79 ct_i rfv_r ?_
            refine h_iload_w C dX9_session_81 rfl ?_
            by_cases hv0 : q = 0
            · refine h_tableIn (off := 45) (tgt := 128) C dX9_session_83 (by rw [hv0]; decide) (by rw [hv0]; decide) (by rw [hv0]; rfl) (by decide) ?_
              refine h_al_w (j := 0) C dX9_session_128 rfl rfv_r ?_
              refine h_iconst (v := 0) C dX9_session_130 (by decide) ?_
              refine h_iald C dX9_session_131 (by rw [s2]; exact KSE_m _ _ _) (inb s3 (vp_in_nI (n := 0) (by decide) (by decide))) (s4.2 0 (by decide)) ?_
              refine h_iret C E dX9_session_132 (by decide) (by decide) ?_
              exact ⟨_, rfl, Or.inl ⟨hcode, (by rw [show SESr S (cl x) (cl y) (cl w) = r from by unfold SESr; rw [hr]; rfl]; exact Eq.symm (by unfold SESv; rw [if_pos hv0])), hT⟩⟩
            by_cases hv1 : q = 1
            · refine h_tableIn (off := 50) (tgt := 133) C dX9_session_83 (by rw [hv1]; decide) (by rw [hv1]; decide) (by rw [hv1]; rfl) (by decide) ?_
              refine h_al_w (j := 0) C dX9_session_133 rfl rfv_r ?_
              refine h_iconst (v := 1) C dX9_session_135 (by decide) ?_
              refine h_iald C dX9_session_136 (by rw [s2]; exact KSE_m _ _ _) (inb s3 (vp_in_nI (n := 1) (by decide) (by decide))) (s4.2 1 (by decide)) ?_
              refine h_iret C E dX9_session_137 (by decide) (by decide) ?_
              exact ⟨_, rfl, Or.inl ⟨hcode, (by rw [show SESr S (cl x) (cl y) (cl w) = r from by unfold SESr; rw [hr]; rfl]; exact Eq.symm (by unfold SESv; rw [if_neg (show ¬ q = 0 by rw [hv1]; decide), if_pos hv1])), hT⟩⟩
            by_cases hv2 : q = 2
            · refine h_tableIn (off := 55) (tgt := 138) C dX9_session_83 (by rw [hv2]; decide) (by rw [hv2]; decide) (by rw [hv2]; rfl) (by decide) ?_
              refine h_al_g C dX9_session_138 rfl rfl rfv_r ?_
              refine gf_X9_129 C dX9_session_139 hM.kX hM.f288 ?_
              refine h_al_w (j := 0) C dX9_session_142 rfl rfv_r ?_
              refine h_iconst (v := 2) C dX9_session_144 (by decide) ?_
              refine h_iald C dX9_session_145 (by rw [s2]; exact KSE_m _ _ _) (inb s3 (vp_in_nI (n := 2) (by decide) (by decide))) (s4.2 2 (by decide)) ?_
              refine h_isub C dX9_session_146 ?_
              refine h_iret C E dX9_session_147 (by decide) (by decide) ?_
              exact ⟨_, rfl, Or.inl ⟨hcode, (by rw [show SESr S (cl x) (cl y) (cl w) = r from by unfold SESr; rw [hr]; rfl]; exact Eq.symm (by unfold SESv; rw [if_neg (show ¬ q = 0 by rw [hv2]; decide), if_neg (show ¬ q = 1 by rw [hv2]; decide), if_pos hv2])), hT⟩⟩
            by_cases hv3 : q = 3
            · refine h_tableIn (off := 65) (tgt := 148) C dX9_session_83 (by rw [hv3]; decide) (by rw [hv3]; decide) (by rw [hv3]; rfl) (by decide) ?_
              refine h_al_w (j := 0) C dX9_session_148 rfl rfv_r ?_
              refine h_iconst (v := 5) C dX9_session_150 (by decide) ?_
              refine h_iald C dX9_session_151 (by rw [s2]; exact KSE_m _ _ _) (inb s3 (vp_in_nI (n := 5) (by decide) (by decide))) (s4.2 5 (by decide)) ?_
              refine h_iret C E dX9_session_152 (by decide) (by decide) ?_
              exact ⟨_, rfl, Or.inl ⟨hcode, (by rw [show SESr S (cl x) (cl y) (cl w) = r from by unfold SESr; rw [hr]; rfl]; exact Eq.symm (by unfold SESv; rw [if_neg (show ¬ q = 0 by rw [hv3]; decide), if_neg (show ¬ q = 1 by rw [hv3]; decide), if_neg (show ¬ q = 2 by rw [hv3]; decide), if_pos hv3])), hT⟩⟩
            by_cases hv4 : q = 4
            · refine h_tableIn (off := 70) (tgt := 153) C dX9_session_83 (by rw [hv4]; decide) (by rw [hv4]; decide) (by rw [hv4]; rfl) (by decide) ?_
              refine h_al_w (j := 0) C dX9_session_153 rfl rfv_r ?_
              refine h_bipush (v := 7) C dX9_session_155 (by decide) ?_
              refine h_iald C dX9_session_157 (by rw [s2]; exact KSE_m _ _ _) (inb s3 (vp_in_nI (n := 7) (by decide) (by decide))) (s4.2 7 (by decide)) ?_
              refine h_iret C E dX9_session_158 (by decide) (by decide) ?_
              exact ⟨_, rfl, Or.inl ⟨hcode, (by rw [show SESr S (cl x) (cl y) (cl w) = r from by unfold SESr; rw [hr]; rfl]; exact Eq.symm (by unfold SESv; rw [if_neg (show ¬ q = 0 by rw [hv4]; decide), if_neg (show ¬ q = 1 by rw [hv4]; decide), if_neg (show ¬ q = 2 by rw [hv4]; decide), if_neg (show ¬ q = 3 by rw [hv4]; decide), if_pos hv4])), hT⟩⟩
            by_cases hv5 : q = 5
            · refine h_tableIn (off := 76) (tgt := 159) C dX9_session_83 (by rw [hv5]; decide) (by rw [hv5]; decide) (by rw [hv5]; rfl) (by decide) ?_
              refine h_al_w (j := 0) C dX9_session_159 rfl rfv_r ?_
              refine h_bipush (v := 8) C dX9_session_161 (by decide) ?_
              refine h_iald C dX9_session_163 (by rw [s2]; exact KSE_m _ _ _) (inb s3 (vp_in_nI (n := 8) (by decide) (by decide))) (s4.2 8 (by decide)) ?_
              refine h_iret C E dX9_session_164 (by decide) (by decide) ?_
              exact ⟨_, rfl, Or.inl ⟨hcode, (by rw [show SESr S (cl x) (cl y) (cl w) = r from by unfold SESr; rw [hr]; rfl]; exact Eq.symm (by unfold SESv; rw [if_neg (show ¬ q = 0 by rw [hv5]; decide), if_neg (show ¬ q = 1 by rw [hv5]; decide), if_neg (show ¬ q = 2 by rw [hv5]; decide), if_neg (show ¬ q = 3 by rw [hv5]; decide), if_neg (show ¬ q = 4 by rw [hv5]; decide), if_pos hv5])), hT⟩⟩
            by_cases hv6 : q = 6
            · refine h_tableIn (off := 82) (tgt := 165) C dX9_session_83 (by rw [hv6]; decide) (by rw [hv6]; decide) (by rw [hv6]; rfl) (by decide) ?_
              refine h_al_w (j := 0) C dX9_session_165 rfl rfv_r ?_
              refine h_iconst (v := 3) C dX9_session_167 (by decide) ?_
              refine h_iald C dX9_session_168 (by rw [s2]; exact KSE_m _ _ _) (inb s3 (vp_in_nI (n := 3) (by decide) (by decide))) (s4.2 3 (by decide)) ?_
              refine h_iret C E dX9_session_169 (by decide) (by decide) ?_
              exact ⟨_, rfl, Or.inl ⟨hcode, (by rw [show SESr S (cl x) (cl y) (cl w) = r from by unfold SESr; rw [hr]; rfl]; exact Eq.symm (by unfold SESv; rw [if_neg (show ¬ q = 0 by rw [hv6]; decide), if_neg (show ¬ q = 1 by rw [hv6]; decide), if_neg (show ¬ q = 2 by rw [hv6]; decide), if_neg (show ¬ q = 3 by rw [hv6]; decide), if_neg (show ¬ q = 4 by rw [hv6]; decide), if_neg (show ¬ q = 5 by rw [hv6]; decide), if_pos hv6])), hT⟩⟩
            by_cases hv7 : q = 7
            · refine h_tableIn (off := 87) (tgt := 170) C dX9_session_83 (by rw [hv7]; decide) (by rw [hv7]; decide) (by rw [hv7]; rfl) (by decide) ?_
              refine h_al_w (j := 0) C dX9_session_170 rfl rfv_r ?_
              refine h_iconst (v := 4) C dX9_session_172 (by decide) ?_
              refine h_iald C dX9_session_173 (by rw [s2]; exact KSE_m _ _ _) (inb s3 (vp_in_nI (n := 4) (by decide) (by decide))) (s4.2 4 (by decide)) ?_
              refine h_iret C E dX9_session_174 (by decide) (by decide) ?_
              exact ⟨_, rfl, Or.inl ⟨hcode, (by rw [show SESr S (cl x) (cl y) (cl w) = r from by unfold SESr; rw [hr]; rfl]; exact Eq.symm (by unfold SESv; rw [if_neg (show ¬ q = 0 by rw [hv7]; decide), if_neg (show ¬ q = 1 by rw [hv7]; decide), if_neg (show ¬ q = 2 by rw [hv7]; decide), if_neg (show ¬ q = 3 by rw [hv7]; decide), if_neg (show ¬ q = 4 by rw [hv7]; decide), if_neg (show ¬ q = 5 by rw [hv7]; decide), if_neg (show ¬ q = 6 by rw [hv7]; decide), if_pos hv7])), hT⟩⟩
            refine h_tableOut (tgt := 175) C dX9_session_83 (by have z0 := ne_ti 0 0 (by decide) hv0; have z1 := ne_ti 1 1 (by decide) hv1; have z2 := ne_ti 2 2 (by decide) hv2; have z3 := ne_ti 3 3 (by decide) hv3; have z4 := ne_ti 4 4 (by decide) hv4; have z5 := ne_ti 5 5 (by decide) hv5; have z6 := ne_ti 6 6 (by decide) hv6; have z7 := ne_ti 7 7 (by decide) hv7; omega) (by decide) ?_
            refine h_al_w (j := 0) C dX9_session_175 rfl rfv_r ?_
            refine h_bipush (v := 6) C dX9_session_177 (by decide) ?_
            refine h_iald C dX9_session_179 (by rw [s2]; exact KSE_m _ _ _) (inb s3 (vp_in_nI (n := 6) (by decide) (by decide))) (s4.2 6 (by decide)) ?_
            refine h_iret C E dX9_session_180 (by decide) (by decide) ?_
            exact ⟨_, rfl, Or.inl ⟨hcode, (by rw [show SESr S (cl x) (cl y) (cl w) = r from by unfold SESr; rw [hr]; rfl]; unfold SESv; rw [if_neg hv0, if_neg hv1, if_neg hv2, if_neg hv3, if_neg hv4, if_neg hv5, if_neg hv6, if_neg hv7]; exact (h6 _ _ _ r hx.lt hy.lt hw.lt hr).elim (fun h => by rw [if_neg (fun z => z h)]; exact h) (fun h => by rw [if_pos (fun z => absurd (h.symm.trans z) (by decide))]; exact h)), hT⟩⟩
        · obtain ⟨rfl, hr⟩ := hp5
          refine h_if_ne (tgt := 58) C dX9_session_52 (by decide) (fun c9 => absurd c9 (by decide)) (fun c9 => ?_)
          refine h_iconst (v := 3) C dX9_session_55 (by decide) ?_
          refine h_ist_5 C dX9_session_56 ct_i ?_
          refine h_al_g C dX9_session_58 rfl rfl rfv_r ?_
          refine h_iload_w C dX9_session_59 rfl ?_
          refine h_callV1 (ci := 9) C (k_X9_isWrong Z.l Z.G (Q 0) _ hM.kX (3)) cw_X9_215 im_X9_isWrong sl_X9_isWrong rfl (by decide) hM.kX dX9_session_61 (by first | decide | exact Nat.le_of_ble_eq_true rfl) (by decide) (by decide) (by decide) (by decide) (kB (fun μ7 hp7 => ?_) (fun μ7 hp7 => ?_)) kN
          · obtain ⟨hc, e9⟩ := hp7
            have hT := hT.sfi (Or.inr trivial) e9 (hT.1.w290 e9)
            have hM := hT.1
            refine h_if_eq (tgt := 69) C dX9_session_64 (by decide) (fun c10 => absurd c10 (by decide)) (fun c10 => ?_)
            refine h_iconst (v := 0) C dX9_session_67 (by decide) ?_
            refine h_iret C E dX9_session_68 (by decide) (by decide) ?_
            exact ⟨_, rfl, Or.inr ⟨by rw [show sesC S x y w q = 3 from (sesC_0 hp0).trans ((if_pos hBw).trans ((if_pos hBt).trans (if_pos hr)))]; decide, by rw [show sesC S x y w q = 3 from (sesC_0 hp0).trans ((if_pos hBw).trans ((if_pos hBt).trans (if_pos hr)))]; exact hT⟩⟩
          · obtain ⟨hc, e9⟩ := hp7
            exact absurd hc (by decide)
      · obtain ⟨rfl, hBt⟩ := hp4
        rw [btw_i] at hBt
        refine h_if_ne (tgt := 40) C dX9_session_34 (by decide) (fun c11 => absurd c11 (by decide)) (fun c11 => ?_)
        refine h_iconst (v := 2) C dX9_session_37 (by decide) ?_
        refine h_ist_5 C dX9_session_38 ct_i ?_
        refine h_iload_w C dX9_session_40 rfl ?_
        refine h_if_ne (tgt := 58) C dX9_session_42 (by decide) (fun c12 => ?_) (fun c12 => absurd c12 (by decide))
        refine h_al_g C dX9_session_58 rfl rfl rfv_r ?_
        refine h_iload_w C dX9_session_59 rfl ?_
        refine h_callV1 (ci := 9) C (k_X9_isWrong Z.l Z.G (Q 0) _ hM.kX (2)) cw_X9_215 im_X9_isWrong sl_X9_isWrong rfl (by decide) hM.kX dX9_session_61 (by first | decide | exact Nat.le_of_ble_eq_true rfl) (by decide) (by decide) (by decide) (by decide) (kB (fun μ8 hp8 => ?_) (fun μ8 hp8 => ?_)) kN
        · obtain ⟨hc, e9⟩ := hp8
          have hT := hT.sfi (Or.inr trivial) e9 (hT.1.w290 e9)
          have hM := hT.1
          refine h_if_eq (tgt := 69) C dX9_session_64 (by decide) (fun c13 => absurd c13 (by decide)) (fun c13 => ?_)
          refine h_iconst (v := 0) C dX9_session_67 (by decide) ?_
          refine h_iret C E dX9_session_68 (by decide) (by decide) ?_
          exact ⟨_, rfl, Or.inr ⟨by rw [show sesC S x y w q = 2 from (sesC_0 hp0).trans ((if_pos hBw).trans (if_neg hBt))]; decide, by rw [show sesC S x y w q = 2 from (sesC_0 hp0).trans ((if_pos hBw).trans (if_neg hBt))]; exact hT⟩⟩
        · obtain ⟨hc, e9⟩ := hp8
          exact absurd hc (by decide)
    · obtain ⟨rfl, hBt⟩ := hp3
      rw [btw_i] at hBt
      have hBw := hBt
      refine h_if_eq (tgt := 37) C dX9_session_21 (by decide) (fun c14 => ?_) (fun c14 => absurd (by decide) c14)
      refine h_iconst (v := 2) C dX9_session_37 (by decide) ?_
      refine h_ist_5 C dX9_session_38 ct_i ?_
      refine h_iload_w C dX9_session_40 rfl ?_
      refine h_if_ne (tgt := 58) C dX9_session_42 (by decide) (fun c15 => ?_) (fun c15 => absurd c15 (by decide))
      refine h_al_g C dX9_session_58 rfl rfl rfv_r ?_
      refine h_iload_w C dX9_session_59 rfl ?_
      refine h_callV1 (ci := 9) C (k_X9_isWrong Z.l Z.G (Q 0) _ hM.kX (2)) cw_X9_215 im_X9_isWrong sl_X9_isWrong rfl (by decide) hM.kX dX9_session_61 (by first | decide | exact Nat.le_of_ble_eq_true rfl) (by decide) (by decide) (by decide) (by decide) (kB (fun μ9 hp9 => ?_) (fun μ9 hp9 => ?_)) kN
      · obtain ⟨hc, e9⟩ := hp9
        have hT := hT.sfi (Or.inr trivial) e9 (hT.1.w290 e9)
        have hM := hT.1
        refine h_if_eq (tgt := 69) C dX9_session_64 (by decide) (fun c16 => absurd c16 (by decide)) (fun c16 => ?_)
        refine h_iconst (v := 0) C dX9_session_67 (by decide) ?_
        refine h_iret C E dX9_session_68 (by decide) (by decide) ?_
        exact ⟨_, rfl, Or.inr ⟨by rw [show sesC S x y w q = 2 from (sesC_0 hp0).trans (if_neg hBw)]; decide, by rw [show sesC S x y w q = 2 from (sesC_0 hp0).trans (if_neg hBw)]; exact hT⟩⟩
      · obtain ⟨hc, e9⟩ := hp9
        exact absurd hc (by decide)

set_option maxRecDepth 100000 in
set_option maxHeartbeats 1000000 in
theorem k_X9_isUsable (l : Launch) (G : Gx) (Q : Nat → Nat) (S : Sx) (t : Int32) (μ : Mem) (hM : MRq Q S (LXo S t) μ) (x y : Int32) : Kon l yX9_isUsable cX9_isUsable 3 (some .boolean) 3 0 0 66 G [.ref (Q 0), .int x, .int y] μ (pI fun v μ' => (v = 0 ∨ v = 1) ∧ ((pairC x y = 0 ∧ ((v = 1 ∧ ∃ r, USE S (cl x) (cl y) = some r) ∨ (v = 0 ∧ USE S (cl x) (cl y) = none)) ∧ MTo Q WAll μ (S) (LXo (S) 0) μ') ∨ (¬ pairC x y = 0 ∧ MTo Q WAll μ S (LXo S (pairC x y)) μ'))) noX := by
  refine Kon.ofG (by decide +kernel) (Nat.le_of_ble_eq_true rfl) (Nat.le_of_ble_eq_true rfl) (fun Z hZG C E NT MT => ?_)
  subst hZG
  have C : Cx Z RX9 cX9_isUsable 3 0 0 66 := C
  show HW Z 0 0 0 [some (.ref (Q 0)), some (.int x), some (.int y)] [] μ
  have hT : MTo Q WAll μ S (LXo S t) μ := MTo.rf hM
  have h60_ := hM.nt.1
  refine h_al_g C dX9_isUsable_0 rfl rfl rfv_r ?_
  refine h_iload_g C dX9_isUsable_1 rfl rfl ?_
  refine h_iload_g C dX9_isUsable_2 rfl rfl ?_
  refine h_callS2 C (k_X9_pair Z.l Z.G _ _ _) cw_X9_224 st_X9_pair dX9_isUsable_3 (by first | decide | exact Nat.le_of_ble_eq_true rfl) (by decide) (by decide) (by decide) (by decide) (kI fun r1 μ1 hp1 => ?_) kN
  obtain ⟨rfl, rfl⟩ := hp1
  refine h_callV1 (ci := 9) C (k_X9_isWrong Z.l Z.G (Q 0) _ hM.kX (pairC x y)) cw_X9_215 im_X9_isWrong sl_X9_isWrong rfl (by decide) hM.kX dX9_isUsable_6 (by first | decide | exact Nat.le_of_ble_eq_true rfl) (by decide) (by decide) (by decide) (by decide) (kB (fun μ2 hp2 => ?_) (fun μ2 hp2 => ?_)) kN
  · obtain ⟨hc, e9⟩ := hp2
    have hT := hT.sfi (Or.inr trivial) e9 (hT.1.w290 e9)
    have hM := hT.1
    refine h_if_eq (tgt := 14) C dX9_isUsable_9 (by decide) (fun c1 => absurd c1 (by decide)) (fun c1 => ?_)
    refine h_iconst (v := 0) C dX9_isUsable_12 (by decide) ?_
    refine h_zret C E dX9_isUsable_13 (by decide) (by decide) (by first | exact Or.inl rfl | exact Or.inr rfl) ?_
    exact ⟨_, rfl, Or.inl rfl, Or.inr ⟨hc, hT⟩⟩
  · obtain ⟨hc, e9⟩ := hp2
    have hT := hT.sfi (Or.inr trivial) e9 (hT.1.w290 e9)
    have hM := hT.1
    rw [hc] at hT
    have hM := hT.1
    obtain ⟨hx, hy, hne⟩ := pairC_z hc
    refine h_if_eq (tgt := 14) C dX9_isUsable_9 (by decide) (fun c2 => ?_) (fun c2 => absurd (by decide) c2)
    refine h_al_g C dX9_isUsable_14 rfl rfl rfv_r ?_
    refine h_iload_g C dX9_isUsable_15 rfl rfl ?_
    refine h_iload_g C dX9_isUsable_16 rfl rfl ?_
    refine h_callV2 (ci := 9) C (k_X9_usable Z.l Z.G Q S _ _ hM _ hx.lt _ hx.nI _ hy.lt _ hy.nI) cw_X9_173 im_X9_usable sl_X9_usable rfl (by decide) hM.kX dX9_isUsable_17 (by first | decide | exact Nat.le_of_ble_eq_true rfl) (by decide) (by decide) (by decide) (by decide) (kB (fun μ3 hp3 => ?_) (fun μ3 hp3 => ?_)) kN
    · obtain ⟨rfl, r, hU⟩ := hp3
      refine h_zret C E dX9_isUsable_20 (by decide) (by decide) (by first | exact Or.inl rfl | exact Or.inr rfl) ?_
      exact ⟨_, rfl, Or.inr rfl, Or.inl ⟨hc, Or.inl ⟨rfl, r, hU⟩, hT⟩⟩
    · obtain ⟨rfl, hU⟩ := hp3
      refine h_zret C E dX9_isUsable_20 (by decide) (by decide) (by first | exact Or.inl rfl | exact Or.inr rfl) ?_
      exact ⟨_, rfl, Or.inl rfl, Or.inl ⟨hc, Or.inr ⟨rfl, hU⟩, hT⟩⟩

set_option maxRecDepth 100000 in
set_option maxHeartbeats 1000000 in
theorem k_X9_cookie (l : Launch) (G : Gx) (Q : Nat → Nat) (S : Sx) (t : Int32) (μ : Mem) (hM : MRq Q S (LXo S t) μ) (x y : Int32) : Kon l yX9_cookie cX9_cookie 3 (some .int) 3 0 0 66 G [.ref (Q 0), .int x, .int y] μ (pI fun v μ' => (pairC x y = 0 ∧ v = YCK S (cl x) (cl y) ∧ MTo Q WAll μ (S) (LXo (S) 0) μ') ∨ (¬ pairC x y = 0 ∧ MTo Q WAll μ S (LXo S (pairC x y)) μ')) noX := by
  refine Kon.ofG (by decide +kernel) (Nat.le_of_ble_eq_true rfl) (Nat.le_of_ble_eq_true rfl) (fun Z hZG C E NT MT => ?_)
  subst hZG
  have C : Cx Z RX9 cX9_cookie 3 0 0 66 := C
  show HW Z 0 0 0 [some (.ref (Q 0)), some (.int x), some (.int y)] [] μ
  have hT : MTo Q WAll μ S (LXo S t) μ := MTo.rf hM
  have h60_ := hM.nt.1
  refine h_al_g C dX9_cookie_0 rfl rfl rfv_r ?_
  refine h_iload_g C dX9_cookie_1 rfl rfl ?_
  refine h_iload_g C dX9_cookie_2 rfl rfl ?_
  refine h_callS2 C (k_X9_pair Z.l Z.G _ _ _) cw_X9_224 st_X9_pair dX9_cookie_3 (by first | decide | exact Nat.le_of_ble_eq_true rfl) (by decide) (by decide) (by decide) (by decide) (kI fun r1 μ1 hp1 => ?_) kN
  obtain ⟨rfl, rfl⟩ := hp1
  refine h_callV1 (ci := 9) C (k_X9_isWrong Z.l Z.G (Q 0) _ hM.kX (pairC x y)) cw_X9_215 im_X9_isWrong sl_X9_isWrong rfl (by decide) hM.kX dX9_cookie_6 (by first | decide | exact Nat.le_of_ble_eq_true rfl) (by decide) (by decide) (by decide) (by decide) (kB (fun μ2 hp2 => ?_) (fun μ2 hp2 => ?_)) kN
  · obtain ⟨hc, e9⟩ := hp2
    have hT := hT.sfi (Or.inr trivial) e9 (hT.1.w290 e9)
    have hM := hT.1
    refine h_if_eq (tgt := 14) C dX9_cookie_9 (by decide) (fun c1 => absurd c1 (by decide)) (fun c1 => ?_)
    refine h_iconst (v := 0) C dX9_cookie_12 (by decide) ?_
    refine h_iret C E dX9_cookie_13 (by decide) (by decide) ?_
    exact ⟨_, rfl, Or.inr ⟨hc, hT⟩⟩
  · obtain ⟨hc, e9⟩ := hp2
    have hT := hT.sfi (Or.inr trivial) e9 (hT.1.w290 e9)
    have hM := hT.1
    rw [hc] at hT
    have hM := hT.1
    obtain ⟨hx, hy, hne⟩ := pairC_z hc
    refine h_if_eq (tgt := 14) C dX9_cookie_9 (by decide) (fun c2 => ?_) (fun c2 => absurd (by decide) c2)
    refine h_al_g C dX9_cookie_14 rfl rfl rfv_r ?_
    refine h_iload_g C dX9_cookie_15 rfl rfl ?_
    refine h_iload_g C dX9_cookie_16 rfl rfl ?_
    refine h_callV2 (ci := 9) C (k_X9_hasCQ Z.l Z.G Q S _ _ hM x y hx hy) cw_X9_158 im_X9_hasCookie sl_X9_hasCookie rfl (by decide) hM.kX dX9_cookie_17 (by first | decide | exact Nat.le_of_ble_eq_true rfl) (by decide) (by decide) (by decide) (by decide) (kB (fun μ3 hp3 => ?_) (fun μ3 hp3 => ?_)) kN
    · obtain ⟨rfl, hk1, hk2⟩ := hp3
      refine h_if_eq (tgt := 34) C dX9_cookie_20 (by decide) (fun c3 => absurd c3 (by decide)) (fun c3 => ?_)
      refine h_al_g C dX9_cookie_23 rfl rfl rfv_r ?_
      refine gs_X9_58 C dX9_cookie_24 hM.kX (hM.fA (i := 14) (by decide)) ?_
      refine h_iload_g C dX9_cookie_27 rfl rfl ?_
      refine h_aald (r := some _) C dX9_cookie_28 (hM.kr (by decide)) (inb (hM.ln3 (by decide)) (vp_isE hx.1 hx.2 (by decide))) (atI rfl (hM.tb (t := 7) (by decide) hx.lt)) ?_
      refine h_iload_g C dX9_cookie_29 rfl rfl ?_
      refine h_iald C dX9_cookie_30 (hM.k11 (by have h0_ := hx.lt; have g0_ : Int32.toNatClampNeg x < 3 := hx.lt; omega)) (inb (hM.ln3 (by have h0_ := hx.lt; have g0_ : Int32.toNatClampNeg x < 3 := hx.lt; omega)) (vp_isE hy.1 hy.2 (by decide))) (atI rfl (hM.t7 hx.lt hy.lt)) ?_
      refine h_goto (tgt := 35) C dX9_cookie_31 (by decide) ?_
      refine h_iret C E dX9_cookie_35 (by decide) (by decide) ?_
      exact ⟨_, rfl, Or.inl ⟨hc, (YCK_T hM hx.lt hy.lt hk1 hk2).1.symm, hT⟩⟩
    · obtain ⟨rfl, hk1⟩ := hp3
      refine h_if_eq (tgt := 34) C dX9_cookie_20 (by decide) (fun c4 => ?_) (fun c4 => absurd (by decide) c4)
      refine h_iconst (v := (-1)) C dX9_cookie_34 (by decide) ?_
      refine h_iret C E dX9_cookie_35 (by decide) (by decide) ?_
      exact ⟨_, rfl, Or.inl ⟨hc, (YCK_F hM hx.lt hy.lt hk1).symm, hT⟩⟩

set_option maxRecDepth 100000 in
set_option maxHeartbeats 1000000 in
theorem k_X9_stamp (l : Launch) (G : Gx) (Q : Nat → Nat) (S : Sx) (t : Int32) (μ : Mem) (hM : MRq Q S (LXo S t) μ) (x y z : Int32) : Kon l yX9_stamp cX9_stamp 4 (some .int) 3 0 0 66 G [.ref (Q 0), .int x, .int y, .int z] μ (pI fun v μ' => (pairC x y = 0 ∧ v = (if ¬ z = 0 then S.lf 2 (cl x) (cl y) else S.lf 1 (cl x) (cl y)) ∧ MTo Q WAll μ (S) (LXo (S) 0) μ') ∨ (¬ pairC x y = 0 ∧ MTo Q WAll μ S (LXo S (pairC x y)) μ')) noX := by
  refine Kon.ofG (by decide +kernel) (Nat.le_of_ble_eq_true rfl) (Nat.le_of_ble_eq_true rfl) (fun Z hZG C E NT MT => ?_)
  subst hZG
  have C : Cx Z RX9 cX9_stamp 3 0 0 66 := C
  show HW Z 0 0 0 [some (.ref (Q 0)), some (.int x), some (.int y), some (.int z)] [] μ
  have hT : MTo Q WAll μ S (LXo S t) μ := MTo.rf hM
  have h60_ := hM.nt.1
  refine h_al_g C dX9_stamp_0 rfl rfl rfv_r ?_
  refine h_iload_g C dX9_stamp_1 rfl rfl ?_
  refine h_iload_g C dX9_stamp_2 rfl rfl ?_
  refine h_callS2 C (k_X9_pair Z.l Z.G _ _ _) cw_X9_224 st_X9_pair dX9_stamp_3 (by first | decide | exact Nat.le_of_ble_eq_true rfl) (by decide) (by decide) (by decide) (by decide) (kI fun r1 μ1 hp1 => ?_) kN
  obtain ⟨rfl, rfl⟩ := hp1
  refine h_callV1 (ci := 9) C (k_X9_isWrong Z.l Z.G (Q 0) _ hM.kX (pairC x y)) cw_X9_215 im_X9_isWrong sl_X9_isWrong rfl (by decide) hM.kX dX9_stamp_6 (by first | decide | exact Nat.le_of_ble_eq_true rfl) (by decide) (by decide) (by decide) (by decide) (kB (fun μ2 hp2 => ?_) (fun μ2 hp2 => ?_)) kN
  · obtain ⟨hc, e9⟩ := hp2
    have hT := hT.sfi (Or.inr trivial) e9 (hT.1.w290 e9)
    have hM := hT.1
    refine h_if_eq (tgt := 14) C dX9_stamp_9 (by decide) (fun c1 => absurd c1 (by decide)) (fun c1 => ?_)
    refine h_iconst (v := 0) C dX9_stamp_12 (by decide) ?_
    refine h_iret C E dX9_stamp_13 (by decide) (by decide) ?_
    exact ⟨_, rfl, Or.inr ⟨hc, hT⟩⟩
  · obtain ⟨hc, e9⟩ := hp2
    have hT := hT.sfi (Or.inr trivial) e9 (hT.1.w290 e9)
    have hM := hT.1
    rw [hc] at hT
    have hM := hT.1
    obtain ⟨hx, hy, hne⟩ := pairC_z hc
    refine h_if_eq (tgt := 14) C dX9_stamp_9 (by decide) (fun c2 => ?_) (fun c2 => absurd (by decide) c2)
    refine h_iload_g C dX9_stamp_14 rfl rfl ?_
    refine h_if_eq (tgt := 29) C dX9_stamp_15 (by decide) (fun c1 => ?_) (fun c1 => ?_)
    · refine h_al_g C dX9_stamp_29 rfl rfl rfv_r ?_
      refine gs_X9_40 C dX9_stamp_30 hM.kX (hM.fA (i := 8) (by decide)) ?_
      refine h_iload_g C dX9_stamp_33 rfl rfl ?_
      refine h_aald (r := some _) C dX9_stamp_34 (hM.kr (by decide)) (inb (hM.ln3 (by decide)) (vp_isE hx.1 hx.2 (by decide))) (atI rfl (hM.tb (t := 1) (by decide) hx.lt)) ?_
      refine h_iload_g C dX9_stamp_35 rfl rfl ?_
      refine h_iald C dX9_stamp_36 (hM.k11 (by have h0_ := hx.lt; have g0_ : Int32.toNatClampNeg x < 3 := hx.lt; omega)) (inb (hM.ln3 (by have h0_ := hx.lt; have g0_ : Int32.toNatClampNeg x < 3 := hx.lt; omega)) (vp_isE hy.1 hy.2 (by decide))) (atI rfl (hM.t1 hx.lt hy.lt)) ?_
      refine h_iret C E dX9_stamp_37 (by decide) (by decide) ?_
      exact ⟨_, rfl, Or.inl ⟨hc, (if_neg (fun h => h c1)).symm, hT⟩⟩
    · refine h_al_g C dX9_stamp_18 rfl rfl rfv_r ?_
      refine gs_X9_43 C dX9_stamp_19 hM.kX (hM.fA (i := 9) (by decide)) ?_
      refine h_iload_g C dX9_stamp_22 rfl rfl ?_
      refine h_aald (r := some _) C dX9_stamp_23 (hM.kr (by decide)) (inb (hM.ln3 (by decide)) (vp_isE hx.1 hx.2 (by decide))) (atI rfl (hM.tb (t := 2) (by decide) hx.lt)) ?_
      refine h_iload_g C dX9_stamp_24 rfl rfl ?_
      refine h_iald C dX9_stamp_25 (hM.k11 (by have h0_ := hx.lt; have g0_ : Int32.toNatClampNeg x < 3 := hx.lt; omega)) (inb (hM.ln3 (by have h0_ := hx.lt; have g0_ : Int32.toNatClampNeg x < 3 := hx.lt; omega)) (vp_isE hy.1 hy.2 (by decide))) (atI rfl (hM.t2 hx.lt hy.lt)) ?_
      refine h_goto (tgt := 37) C dX9_stamp_26 (by decide) ?_
      refine h_iret C E dX9_stamp_37 (by decide) (by decide) ?_
      exact ⟨_, rfl, Or.inl ⟨hc, (if_pos c1).symm, hT⟩⟩

set_option maxRecDepth 100000 in
set_option maxHeartbeats 1000000 in
theorem k_X9_drops (l : Launch) (G : Gx) (Q : Nat → Nat) (S : Sx) (t : Int32) (μ : Mem) (hM : MRq Q S (LXo S t) μ) (x : Int32) : Kon l yX9_drops cX9_drops 2 (some .int) 1 0 0 25 G [.ref (Q 0), .int x] μ (pI fun v μ' => (dropC x = 0 ∧ v = S.cd (cl (x - (-7))) ∧ MTo Q WAll μ (S) (LXo (S) 0) μ') ∨ (¬ dropC x = 0 ∧ MTo Q WAll μ S (LXo S (dropC x)) μ')) noX := by
  refine Kon.ofG (by decide +kernel) (Nat.le_of_ble_eq_true rfl) (Nat.le_of_ble_eq_true rfl) (fun Z hZG C E NT MT => ?_)
  subst hZG
  have C : Cx Z RX9 cX9_drops 1 0 0 25 := C
  show HW Z 0 0 0 [some (.ref (Q 0)), some (.int x)] [] μ
  have hT : MTo Q WAll μ S (LXo S t) μ := MTo.rf hM
  have h60_ := hM.nt.1
  refine h_al_g C dX9_drops_0 rfl rfl rfv_r ?_
  refine h_iload_g C dX9_drops_1 rfl rfl ?_
  refine h_i2l C dX9_drops_2 ?_
  refine h_ldc2 C kc_X9_277 dX9_drops_3 ?_
  refine h_ldc2 C kc_X9_275 dX9_drops_6 ?_
  refine h_callS3 C (k_X9_isBetween Z.l Z.G _ _ _ _) cw_X9_91 st_X9_isBetween dX9_drops_9 (by first | decide | exact Nat.le_of_ble_eq_true rfl) (by decide) (by decide) (by decide) (by decide) (kB (fun μ1 hp1 => ?_) (fun μ1 hp1 => ?_)) kN
  · obtain ⟨rfl, hBt⟩ := hp1
    rw [btw_i] at hBt
    have h7 := p7 (v := x) hBt
    have e7 := p7e (v := x)
    have hc11 : cl (x - (-7)) < 11 := by have := cl_eq h7.1; have := h7.2; omega
    refine h_if_eq (tgt := 19) C dX9_drops_12 (by decide) (fun c1 => absurd c1 (by decide)) (fun c1 => ?_)
    refine h_iconst (v := 0) C dX9_drops_15 (by decide) ?_
    refine h_goto (tgt := 20) C dX9_drops_16 (by decide) ?_
    refine h_callV1 (ci := 9) C (k_X9_isWrong Z.l Z.G (Q 0) _ hM.kX (0)) cw_X9_215 im_X9_isWrong sl_X9_isWrong rfl (by decide) hM.kX dX9_drops_20 (by first | decide | exact Nat.le_of_ble_eq_true rfl) (by decide) (by decide) (by decide) (by decide) (kB (fun μ2 hp2 => ?_) (fun μ2 hp2 => ?_)) kN
    · obtain ⟨hc, e9⟩ := hp2
      exact absurd rfl hc
    · obtain ⟨hc, e9⟩ := hp2
      have hT := hT.sfi (Or.inr trivial) e9 (hT.1.w290 e9)
      have hM := hT.1
      refine h_if_eq (tgt := 28) C dX9_drops_23 (by decide) (fun c2 => ?_) (fun c2 => absurd (by decide) c2)
      refine h_al_g C dX9_drops_28 rfl rfl rfv_r ?_
      refine gs_X9_23 C dX9_drops_29 hM.kX (hM.fA (i := 4) (by decide)) ?_
      refine h_iload_g C dX9_drops_32 rfl rfl ?_
      refine h_bipush (v := 7) C dX9_drops_33 (by decide) ?_
      refine h_iadd C dX9_drops_35 ?_
      rw [e7]
      refine h_iald C dX9_drops_36 (hM.k11 (by decide)) (inb hM.ln11 (vp_isE h7.1 h7.2 (by decide))) (hM.a4 hc11) ?_
      refine h_iret C E dX9_drops_37 (by decide) (by decide) ?_
      exact ⟨_, rfl, Or.inl ⟨if_pos hBt, rfl, hT⟩⟩
  · obtain ⟨rfl, hBt⟩ := hp1
    rw [btw_i] at hBt
    refine h_if_eq (tgt := 19) C dX9_drops_12 (by decide) (fun c3 => ?_) (fun c3 => absurd (by decide) c3)
    refine h_iconst (v := 1) C dX9_drops_19 (by decide) ?_
    refine h_callV1 (ci := 9) C (k_X9_isWrong Z.l Z.G (Q 0) _ hM.kX (1)) cw_X9_215 im_X9_isWrong sl_X9_isWrong rfl (by decide) hM.kX dX9_drops_20 (by first | decide | exact Nat.le_of_ble_eq_true rfl) (by decide) (by decide) (by decide) (by decide) (kB (fun μ3 hp3 => ?_) (fun μ3 hp3 => ?_)) kN
    · obtain ⟨hc, e9⟩ := hp3
      have hT := hT.sfi (Or.inr trivial) e9 (hT.1.w290 e9)
      have hM := hT.1
      refine h_if_eq (tgt := 28) C dX9_drops_23 (by decide) (fun c4 => absurd c4 (by decide)) (fun c4 => ?_)
      refine h_iconst (v := 0) C dX9_drops_26 (by decide) ?_
      refine h_iret C E dX9_drops_27 (by decide) (by decide) ?_
      exact ⟨_, rfl, Or.inr ⟨by rw [show dropC x = 1 from if_neg hBt]; decide, by rw [show dropC x = 1 from if_neg hBt]; exact hT⟩⟩
    · obtain ⟨hc, e9⟩ := hp3
      exact absurd hc (by decide)

set_option maxRecDepth 100000 in
set_option maxHeartbeats 1000000 in
theorem k_X9_publicOf (l : Launch) (G : Gx) (Q : Nat → Nat) (S : Sx) (t : Int32) (μ : Mem) (hM : MRq Q S (LXo S t) μ) (x : Int32) : Kon l yX9_publicOf cX9_publicOf 2 (some .int) 2 0 0 46 G [.ref (Q 0), .int x] μ (pI fun v μ' => (secC x = 0 ∧ v = nI (PW 7 (cl x)) ∧ MTo Q WAll μ (S) (LXo (S) 0) μ') ∨ (¬ secC x = 0 ∧ MTo Q WAll μ S (LXo S (secC x)) μ')) noX := by
  refine Kon.ofG (by decide +kernel) (Nat.le_of_ble_eq_true rfl) (Nat.le_of_ble_eq_true rfl) (fun Z hZG C E NT MT => ?_)
  subst hZG
  have C : Cx Z RX9 cX9_publicOf 2 0 0 46 := C
  show HW Z 0 0 0 [some (.ref (Q 0)), some (.int x)] [] μ
  have hT : MTo Q WAll μ S (LXo S t) μ := MTo.rf hM
  have h60_ := hM.nt.1
  refine h_al_g C dX9_publicOf_0 rfl rfl rfv_r ?_
  refine h_iload_g C dX9_publicOf_1 rfl rfl ?_
  refine h_i2l C dX9_publicOf_2 ?_
  refine h_lconst (v := 0) C dX9_publicOf_3 (by decide) ?_
  refine h_ldc2 C kc_X9_279 dX9_publicOf_4 ?_
  refine h_callS3 C (k_X9_isBetween Z.l Z.G _ _ _ _) cw_X9_91 st_X9_isBetween dX9_publicOf_7 (by first | decide | exact Nat.le_of_ble_eq_true rfl) (by decide) (by decide) (by decide) (by decide) (kB (fun μ1 hp1 => ?_) (fun μ1 hp1 => ?_)) kN
  · obtain ⟨rfl, hBt⟩ := hp1
    rw [btw_i] at hBt
    have hx6 : x.toInt ≤ 1000000 := hBt.2
    refine h_if_eq (tgt := 17) C dX9_publicOf_10 (by decide) (fun c1 => absurd c1 (by decide)) (fun c1 => ?_)
    refine h_iconst (v := 0) C dX9_publicOf_13 (by decide) ?_
    refine h_goto (tgt := 18) C dX9_publicOf_14 (by decide) ?_
    refine h_callV1 (ci := 9) C (k_X9_isWrong Z.l Z.G (Q 0) _ hM.kX (0)) cw_X9_215 im_X9_isWrong sl_X9_isWrong rfl (by decide) hM.kX dX9_publicOf_18 (by first | decide | exact Nat.le_of_ble_eq_true rfl) (by decide) (by decide) (by decide) (by decide) (kB (fun μ2 hp2 => ?_) (fun μ2 hp2 => ?_)) kN
    · obtain ⟨hc, e9⟩ := hp2
      exact absurd rfl hc
    · obtain ⟨hc, e9⟩ := hp2
      have hT := hT.sfi (Or.inr trivial) e9 (hT.1.w290 e9)
      have hM := hT.1
      refine h_if_eq (tgt := 26) C dX9_publicOf_21 (by decide) (fun c2 => ?_) (fun c2 => absurd (by decide) c2)
      refine h_iload_g C dX9_publicOf_26 rfl rfl ?_
      refine h_callS1 C (k_X9_open Z.l Z.G _ (cl x) (cl_nI hBt.1) (by have := cl_eq (x := x) hBt.1; omega) _) cw_X9_122 st_X9_open dX9_publicOf_27 (by first | decide | exact Nat.le_of_ble_eq_true rfl) (by decide) (by decide) (by decide) (by decide) (kI fun r3 μ3 hp3 => ?_) kN
      obtain ⟨rfl, rfl⟩ := hp3
      refine h_iret C E dX9_publicOf_30 (by decide) (by decide) ?_
      exact ⟨_, rfl, Or.inl ⟨if_pos hBt, rfl, hT⟩⟩
  · obtain ⟨rfl, hBt⟩ := hp1
    rw [btw_i] at hBt
    refine h_if_eq (tgt := 17) C dX9_publicOf_10 (by decide) (fun c3 => ?_) (fun c3 => absurd (by decide) c3)
    refine h_iconst (v := 1) C dX9_publicOf_17 (by decide) ?_
    refine h_callV1 (ci := 9) C (k_X9_isWrong Z.l Z.G (Q 0) _ hM.kX (1)) cw_X9_215 im_X9_isWrong sl_X9_isWrong rfl (by decide) hM.kX dX9_publicOf_18 (by first | decide | exact Nat.le_of_ble_eq_true rfl) (by decide) (by decide) (by decide) (by decide) (kB (fun μ4 hp4 => ?_) (fun μ4 hp4 => ?_)) kN
    · obtain ⟨hc, e9⟩ := hp4
      have hT := hT.sfi (Or.inr trivial) e9 (hT.1.w290 e9)
      have hM := hT.1
      refine h_if_eq (tgt := 26) C dX9_publicOf_21 (by decide) (fun c4 => absurd c4 (by decide)) (fun c4 => ?_)
      refine h_iconst (v := 0) C dX9_publicOf_24 (by decide) ?_
      refine h_iret C E dX9_publicOf_25 (by decide) (by decide) ?_
      exact ⟨_, rfl, Or.inr ⟨by rw [show secC x = 1 from if_neg hBt]; decide, by rw [show secC x = 1 from if_neg hBt]; exact hT⟩⟩
    · obtain ⟨hc, e9⟩ := hp4
      exact absurd hc (by decide)

set_option maxRecDepth 100000 in
set_option maxHeartbeats 1000000 in
theorem k_X9_shared (l : Launch) (G : Gx) (Q : Nat → Nat) (S : Sx) (t : Int32) (μ : Mem) (hM : MRq Q S (LXo S t) μ) (x y : Int32) : Kon l yX9_shared cX9_shared 3 (some .int) 2 0 0 47 G [.ref (Q 0), .int x, .int y] μ (pI fun v μ' => (shaC x y = 0 ∧ v = nI (PW (cl y) (cl x)) ∧ MTo Q WAll μ (S) (LXo (S) 0) μ') ∨ (¬ shaC x y = 0 ∧ MTo Q WAll μ S (LXo S (shaC x y)) μ')) noX := by
  refine Kon.ofG (by decide +kernel) (Nat.le_of_ble_eq_true rfl) (Nat.le_of_ble_eq_true rfl) (fun Z hZG C E NT MT => ?_)
  subst hZG
  have C : Cx Z RX9 cX9_shared 2 0 0 47 := C
  show HW Z 0 0 0 [some (.ref (Q 0)), some (.int x), some (.int y)] [] μ
  have hT : MTo Q WAll μ S (LXo S t) μ := MTo.rf hM
  have h60_ := hM.nt.1
  refine h_al_g C dX9_shared_0 rfl rfl rfv_r ?_
  refine h_iload_g C dX9_shared_1 rfl rfl ?_
  refine h_i2l C dX9_shared_2 ?_
  refine h_lconst (v := 0) C dX9_shared_3 (by decide) ?_
  refine h_ldc2 C kc_X9_279 dX9_shared_4 ?_
  refine h_callS3 C (k_X9_isBetween Z.l Z.G _ _ _ _) cw_X9_91 st_X9_isBetween dX9_shared_7 (by first | decide | exact Nat.le_of_ble_eq_true rfl) (by decide) (by decide) (by decide) (by decide) (kB (fun μ1 hp1 => ?_) (fun μ1 hp1 => ?_)) kN
  · obtain ⟨rfl, hBt⟩ := hp1
    rw [btw_i] at hBt
    have hB1 := hBt
    have hx6 : x.toInt ≤ 1000000 := hBt.2
    refine h_if_eq (tgt := 29) C dX9_shared_10 (by decide) (fun c1 => absurd c1 (by decide)) (fun c1 => ?_)
    refine h_iload_g C dX9_shared_13 rfl rfl ?_
    refine h_i2l C dX9_shared_14 ?_
    refine h_lconst (v := 1) C dX9_shared_15 (by decide) ?_
    refine h_ldc2 C kc_X9_281 dX9_shared_16 ?_
    refine h_callS3 C (k_X9_isBetween Z.l Z.G _ _ _ _) cw_X9_91 st_X9_isBetween dX9_shared_19 (by first | decide | exact Nat.le_of_ble_eq_true rfl) (by decide) (by decide) (by decide) (by decide) (kB (fun μ2 hp2 => ?_) (fun μ2 hp2 => ?_)) kN
    · obtain ⟨rfl, hBt⟩ := hp2
      rw [btw_i] at hBt
      have hy6 : 1 ≤ y.toInt ∧ y.toInt ≤ 2038 := hBt
      refine h_if_eq (tgt := 29) C dX9_shared_22 (by decide) (fun c2 => absurd c2 (by decide)) (fun c2 => ?_)
      refine h_iconst (v := 0) C dX9_shared_25 (by decide) ?_
      refine h_goto (tgt := 30) C dX9_shared_26 (by decide) ?_
      refine h_callV1 (ci := 9) C (k_X9_isWrong Z.l Z.G (Q 0) _ hM.kX (0)) cw_X9_215 im_X9_isWrong sl_X9_isWrong rfl (by decide) hM.kX dX9_shared_30 (by first | decide | exact Nat.le_of_ble_eq_true rfl) (by decide) (by decide) (by decide) (by decide) (kB (fun μ3 hp3 => ?_) (fun μ3 hp3 => ?_)) kN
      · obtain ⟨hc, e9⟩ := hp3
        exact absurd rfl hc
      · obtain ⟨hc, e9⟩ := hp3
        have hT := hT.sfi (Or.inr trivial) e9 (hT.1.w290 e9)
        have hM := hT.1
        refine h_if_eq (tgt := 38) C dX9_shared_33 (by decide) (fun c3 => ?_) (fun c3 => absurd (by decide) c3)
        refine h_iload_g C dX9_shared_38 rfl rfl ?_
        refine h_iload_g C dX9_shared_39 rfl rfl ?_
        refine h_callS2 C (k_X9_both Z.l Z.G _ _ (cl x) (cl y) (cl_nI hB1.1) (by have := cl_eq (x := x) hB1.1; omega) (cl_nI (by omega)) (by have := cl_eq (x := y) (by omega); omega) _) cw_X9_135 st_X9_both dX9_shared_40 (by first | decide | exact Nat.le_of_ble_eq_true rfl) (by decide) (by decide) (by decide) (by decide) (kI fun r4 μ4 hp4 => ?_) kN
        obtain ⟨rfl, rfl⟩ := hp4
        refine h_iret C E dX9_shared_43 (by decide) (by decide) ?_
        exact ⟨_, rfl, Or.inl ⟨(if_pos hB1).trans (if_pos hBt), rfl, hT⟩⟩
    · obtain ⟨rfl, hBt⟩ := hp2
      rw [btw_i] at hBt
      refine h_if_eq (tgt := 29) C dX9_shared_22 (by decide) (fun c4 => ?_) (fun c4 => absurd (by decide) c4)
      refine h_iconst (v := 1) C dX9_shared_29 (by decide) ?_
      refine h_callV1 (ci := 9) C (k_X9_isWrong Z.l Z.G (Q 0) _ hM.kX (1)) cw_X9_215 im_X9_isWrong sl_X9_isWrong rfl (by decide) hM.kX dX9_shared_30 (by first | decide | exact Nat.le_of_ble_eq_true rfl) (by decide) (by decide) (by decide) (by decide) (kB (fun μ5 hp5 => ?_) (fun μ5 hp5 => ?_)) kN
      · obtain ⟨hc, e9⟩ := hp5
        have hT := hT.sfi (Or.inr trivial) e9 (hT.1.w290 e9)
        have hM := hT.1
        refine h_if_eq (tgt := 38) C dX9_shared_33 (by decide) (fun c5 => absurd c5 (by decide)) (fun c5 => ?_)
        refine h_iconst (v := 0) C dX9_shared_36 (by decide) ?_
        refine h_iret C E dX9_shared_37 (by decide) (by decide) ?_
        exact ⟨_, rfl, Or.inr ⟨by rw [show shaC x y = 1 from (if_pos hB1).trans (if_neg hBt)]; decide, by rw [show shaC x y = 1 from (if_pos hB1).trans (if_neg hBt)]; exact hT⟩⟩
      · obtain ⟨hc, e9⟩ := hp5
        exact absurd hc (by decide)
  · obtain ⟨rfl, hBt⟩ := hp1
    rw [btw_i] at hBt
    have hB1 := hBt
    refine h_if_eq (tgt := 29) C dX9_shared_10 (by decide) (fun c6 => ?_) (fun c6 => absurd (by decide) c6)
    refine h_iconst (v := 1) C dX9_shared_29 (by decide) ?_
    refine h_callV1 (ci := 9) C (k_X9_isWrong Z.l Z.G (Q 0) _ hM.kX (1)) cw_X9_215 im_X9_isWrong sl_X9_isWrong rfl (by decide) hM.kX dX9_shared_30 (by first | decide | exact Nat.le_of_ble_eq_true rfl) (by decide) (by decide) (by decide) (by decide) (kB (fun μ6 hp6 => ?_) (fun μ6 hp6 => ?_)) kN
    · obtain ⟨hc, e9⟩ := hp6
      have hT := hT.sfi (Or.inr trivial) e9 (hT.1.w290 e9)
      have hM := hT.1
      refine h_if_eq (tgt := 38) C dX9_shared_33 (by decide) (fun c7 => absurd c7 (by decide)) (fun c7 => ?_)
      refine h_iconst (v := 0) C dX9_shared_36 (by decide) ?_
      refine h_iret C E dX9_shared_37 (by decide) (by decide) ?_
      exact ⟨_, rfl, Or.inr ⟨by rw [show shaC x y = 1 from if_neg hB1]; decide, by rw [show shaC x y = 1 from if_neg hB1]; exact hT⟩⟩
    · obtain ⟨hc, e9⟩ := hp6
      exact absurd hc (by decide)

theorem SEAv_N (k x y z : Int32) : SEALN (cl k) x [y, z] = SEAv k x y z := by
  unfold SEALN SEAv SEALc
  rw [hzs_cong (K := (cl k : Int)) (g' := fun i => (if i = 0 then y else z : Int32).toInt) _ 0 (fun j hj => ?_)]
  · rfl
  · have h9 : j = 0 ∨ j = 1 := by have : j < 0 + 2 := hj; omega
    rcases h9 with h9 | h9
    · subst h9
      rfl
    · subst h9
      rfl
set_option maxRecDepth 100000 in
set_option maxHeartbeats 1000000 in
theorem k_X9_seal (l : Launch) (G : Gx) (Q : Nat → Nat) (S : Sx) (t : Int32) (μ : Mem) (hM : MRq Q S (LXo S t) μ) (k x y z : Int32) : Kon l yX9_seal cX9_seal 6 (some .int) 2 1 3 50 G [.ref (Q 0), .int k, .int x, .int y, .int z] μ (pI fun v μ' => (seaC k x y z = 0 ∧ v = SEAv k x y z ∧ MTo Q WAll μ (S) (LXo (S) 0) μ') ∨ (¬ seaC k x y z = 0 ∧ MTo Q WAll μ S (LXo S (seaC k x y z)) μ')) noX := by
  refine Kon.ofG (by decide +kernel) (Nat.le_of_ble_eq_true rfl) (Nat.le_of_ble_eq_true rfl) (fun Z hZG C E NT MT => ?_)
  subst hZG
  have C : Cx Z RX9 cX9_seal 2 1 3 50 := C
  show HW Z 0 0 0 [some (.ref (Q 0)), some (.int k), some (.int x), some (.int y), some (.int z), none] [] μ
  have hT : MTo Q WAll μ S (LXo S t) μ := MTo.rf hM
  have h60_ := hM.nt.1
  refine h_iload_g C dX9_seal_0 rfl rfl ?_
  refine h_i2l C dX9_seal_1 ?_
  refine h_lconst (v := 1) C dX9_seal_2 (by decide) ?_
  refine h_ldc2 C kc_X9_283 dX9_seal_3 ?_
  refine h_callS3 C (k_X9_isBetween Z.l Z.G _ _ _ _) cw_X9_91 st_X9_isBetween dX9_seal_6 (by first | decide | exact Nat.le_of_ble_eq_true rfl) (by decide) (by decide) (by decide) (by decide) (kB (fun μ1 hp1 => ?_) (fun μ1 hp1 => ?_)) kN
  · obtain ⟨rfl, hBt⟩ := hp1
    rw [btw_i] at hBt
    have hB1 := hBt
    refine h_if_eq (tgt := 59) C dX9_seal_9 (by decide) (fun c1 => absurd c1 (by decide)) (fun c1 => ?_)
    refine h_iload_g C dX9_seal_12 rfl rfl ?_
    refine h_i2l C dX9_seal_13 ?_
    refine h_ldc2 C kc_X9_285 dX9_seal_14 ?_
    refine h_ldc2 C kc_X9_233 dX9_seal_17 ?_
    refine h_callS3 C (k_X9_isBetween Z.l Z.G _ _ _ _) cw_X9_91 st_X9_isBetween dX9_seal_20 (by first | decide | exact Nat.le_of_ble_eq_true rfl) (by decide) (by decide) (by decide) (by decide) (kB (fun μ2 hp2 => ?_) (fun μ2 hp2 => ?_)) kN
    · obtain ⟨rfl, hBt⟩ := hp2
      rw [btw_i] at hBt
      have hB2 := hBt
      refine h_if_eq (tgt := 59) C dX9_seal_23 (by decide) (fun c2 => absurd c2 (by decide)) (fun c2 => ?_)
      refine h_iload_g C dX9_seal_26 rfl rfl ?_
      refine h_i2l C dX9_seal_27 ?_
      refine h_ldc2 C kc_X9_285 dX9_seal_28 ?_
      refine h_ldc2 C kc_X9_233 dX9_seal_31 ?_
      refine h_callS3 C (k_X9_isBetween Z.l Z.G _ _ _ _) cw_X9_91 st_X9_isBetween dX9_seal_34 (by first | decide | exact Nat.le_of_ble_eq_true rfl) (by decide) (by decide) (by decide) (by decide) (kB (fun μ3 hp3 => ?_) (fun μ3 hp3 => ?_)) kN
      · obtain ⟨rfl, hBt⟩ := hp3
        rw [btw_i] at hBt
        have hB3 := hBt
        refine h_if_eq (tgt := 59) C dX9_seal_37 (by decide) (fun c3 => absurd c3 (by decide)) (fun c3 => ?_)
        refine h_iload_w C dX9_seal_40 rfl ?_
        refine h_i2l C dX9_seal_42 ?_
        refine h_ldc2 C kc_X9_285 dX9_seal_43 ?_
        refine h_ldc2 C kc_X9_233 dX9_seal_46 ?_
        refine h_callS3 C (k_X9_isBetween Z.l Z.G _ _ _ _) cw_X9_91 st_X9_isBetween dX9_seal_49 (by first | decide | exact Nat.le_of_ble_eq_true rfl) (by decide) (by decide) (by decide) (by decide) (kB (fun μ4 hp4 => ?_) (fun μ4 hp4 => ?_)) kN
        · obtain ⟨rfl, hBt⟩ := hp4
          rw [btw_i] at hBt
          have hB4 := hBt
          refine h_if_eq (tgt := 59) C dX9_seal_52 (by decide) (fun c4 => absurd c4 (by decide)) (fun c4 => ?_)
          refine h_iconst (v := 1) C dX9_seal_55 (by decide) ?_
          refine h_goto (tgt := 60) C dX9_seal_56 (by decide) ?_
          refine h_ist_5 C dX9_seal_60 ct_i ?_
          refine h_al_g C dX9_seal_62 rfl rfl rfv_r ?_
          refine h_iload_w C dX9_seal_63 rfl ?_
          refine h_if_eq (tgt := 72) C dX9_seal_65 (by decide) (fun c5 => absurd c5 (by decide)) (fun c5 => ?_)
          refine h_iconst (v := 0) C dX9_seal_68 (by decide) ?_
          refine h_goto (tgt := 73) C dX9_seal_69 (by decide) ?_
          refine h_callV1 (ci := 9) C (k_X9_isWrong Z.l Z.G (Q 0) _ hM.kX (0)) cw_X9_215 im_X9_isWrong sl_X9_isWrong rfl (by decide) hM.kX dX9_seal_73 (by first | decide | exact Nat.le_of_ble_eq_true rfl) (by decide) (by decide) (by decide) (by decide) (kB (fun μ5 hp5 => ?_) (fun μ5 hp5 => ?_)) kN
          · obtain ⟨hc, e9⟩ := hp5
            exact absurd rfl hc
          · obtain ⟨hc, e9⟩ := hp5
            have hT := hT.sfi (Or.inr trivial) e9 (hT.1.w290 e9)
            have hM := hT.1
            refine h_if_eq (tgt := 81) C dX9_seal_76 (by decide) (fun c6 => ?_) (fun c6 => absurd (by decide) c6)
            refine h_iload_g C dX9_seal_81 rfl rfl ?_
            refine h_iconst (v := 3) C dX9_seal_82 (by decide) ?_
            refine h_newarr (atype := .int) (N := 3) (11 + 32 * 100) C ac_11 (by decide) (Or.inl (by decide)) dX9_seal_83 (by decide) (by decide) (by decide) (by first | decide | omega) (by first | decide | omega) (fun qa hqa => ?_)
            refine h_abs (fun m1 em1 => ?_)
            have hLqa := NL.new em1
            have hwqa := hT.fresh hqa
            have hT := hT.newT hqa em1
            have hM := hT.1
            refine h_dup C dX9_seal_85 rfl ?_
            refine h_iconst (v := 0) C dX9_seal_86 (by decide) ?_
            refine h_iload_g C dX9_seal_87 rfl rfl ?_
            refine h_iast C dX9_seal_88 hLqa.k (inb hLqa.2.1 (vp_in_nI (n := 0) (by decide) (by decide))) ?_
            refine h_abs (fun m2 em2 => ?_)
            rw [show Int32.toNatClampNeg 0 = 0 from rfl] at em2
            have hT := hT.tmp hLqa hwqa em2
            have hM := hT.1
            have hLqa := hLqa.push em2 rfl
            refine h_dup C dX9_seal_89 rfl ?_
            refine h_iconst (v := 1) C dX9_seal_90 (by decide) ?_
            refine h_iload_g C dX9_seal_91 rfl rfl ?_
            refine h_iast C dX9_seal_92 hLqa.k (inb hLqa.2.1 (vp_in_nI (n := 1) (by decide) (by decide))) ?_
            refine h_abs (fun m3 em3 => ?_)
            rw [show Int32.toNatClampNeg 1 = 1 from rfl] at em3
            have hT := hT.tmp hLqa hwqa em3
            have hM := hT.1
            have hLqa := hLqa.push em3 rfl
            refine h_dup C dX9_seal_93 rfl ?_
            refine h_iconst (v := 2) C dX9_seal_94 (by decide) ?_
            refine h_iload_w C dX9_seal_95 rfl ?_
            refine h_iast C dX9_seal_97 hLqa.k (inb hLqa.2.1 (vp_in_nI (n := 2) (by decide) (by decide))) ?_
            refine h_abs (fun m4 em4 => ?_)
            rw [show Int32.toNatClampNeg 2 = 2 from rfl] at em4
            have hT := hT.tmp hLqa hwqa em4
            have hM := hT.1
            have hLqa := hLqa.push em4 rfl
            refine h_callS2 C (k_X9_sealOf Z.l Z.G _ (cl k) qa [x, y, z] _ (cl_nI (by have h9 : 1 ≤ k.toInt := hB1.1; omega)) (by have h9 : 1 ≤ k.toInt := hB1.1; have h8 : k.toInt ≤ 65520 := hB1.2; have := cl_eq (x := k) (by omega); omega) hLqa.k hLqa.2.1 hLqa.2.2 (Nat.le_of_ble_eq_true rfl)) cw_X9_154 st_X9_sealOf dX9_seal_98 (by first | decide | exact Nat.le_of_ble_eq_true rfl) (by decide) (by decide) (by decide) (by decide) (kI fun r6 μ6 hp6 => ?_) kN
            obtain ⟨rfl, rfl⟩ := hp6
            rw [sgS_N, SEAv_N]
            refine h_iret C E dX9_seal_101 (by decide) (by decide) ?_
            exact ⟨_, rfl, Or.inl ⟨(if_pos hB1).trans ((if_pos hB2).trans ((if_pos hB3).trans (if_pos hB4))), rfl, hT⟩⟩
        · obtain ⟨rfl, hBt⟩ := hp4
          rw [btw_i] at hBt
          have hB4 := hBt
          refine h_if_eq (tgt := 59) C dX9_seal_52 (by decide) (fun c7 => ?_) (fun c7 => absurd (by decide) c7)
          refine h_iconst (v := 0) C dX9_seal_59 (by decide) ?_
          refine h_ist_5 C dX9_seal_60 ct_i ?_
          refine h_al_g C dX9_seal_62 rfl rfl rfv_r ?_
          refine h_iload_w C dX9_seal_63 rfl ?_
          refine h_if_eq (tgt := 72) C dX9_seal_65 (by decide) (fun c8 => ?_) (fun c8 => absurd (by decide) c8)
          refine h_iconst (v := 1) C dX9_seal_72 (by decide) ?_
          refine h_callV1 (ci := 9) C (k_X9_isWrong Z.l Z.G (Q 0) _ hM.kX (1)) cw_X9_215 im_X9_isWrong sl_X9_isWrong rfl (by decide) hM.kX dX9_seal_73 (by first | decide | exact Nat.le_of_ble_eq_true rfl) (by decide) (by decide) (by decide) (by decide) (kB (fun μ7 hp7 => ?_) (fun μ7 hp7 => ?_)) kN
          · obtain ⟨hc, e9⟩ := hp7
            have hT := hT.sfi (Or.inr trivial) e9 (hT.1.w290 e9)
            have hM := hT.1
            refine h_if_eq (tgt := 81) C dX9_seal_76 (by decide) (fun c9 => absurd c9 (by decide)) (fun c9 => ?_)
            refine h_iconst (v := 0) C dX9_seal_79 (by decide) ?_
            refine h_iret C E dX9_seal_80 (by decide) (by decide) ?_
            exact ⟨_, rfl, Or.inr ⟨by rw [show seaC k x y z = 1 from (if_pos hB1).trans ((if_pos hB2).trans ((if_pos hB3).trans (if_neg hB4)))]; decide, by rw [show seaC k x y z = 1 from (if_pos hB1).trans ((if_pos hB2).trans ((if_pos hB3).trans (if_neg hB4)))]; exact hT⟩⟩
          · obtain ⟨hc, e9⟩ := hp7
            exact absurd hc (by decide)
      · obtain ⟨rfl, hBt⟩ := hp3
        rw [btw_i] at hBt
        have hB3 := hBt
        refine h_if_eq (tgt := 59) C dX9_seal_37 (by decide) (fun c10 => ?_) (fun c10 => absurd (by decide) c10)
        refine h_iconst (v := 0) C dX9_seal_59 (by decide) ?_
        refine h_ist_5 C dX9_seal_60 ct_i ?_
        refine h_al_g C dX9_seal_62 rfl rfl rfv_r ?_
        refine h_iload_w C dX9_seal_63 rfl ?_
        refine h_if_eq (tgt := 72) C dX9_seal_65 (by decide) (fun c11 => ?_) (fun c11 => absurd (by decide) c11)
        refine h_iconst (v := 1) C dX9_seal_72 (by decide) ?_
        refine h_callV1 (ci := 9) C (k_X9_isWrong Z.l Z.G (Q 0) _ hM.kX (1)) cw_X9_215 im_X9_isWrong sl_X9_isWrong rfl (by decide) hM.kX dX9_seal_73 (by first | decide | exact Nat.le_of_ble_eq_true rfl) (by decide) (by decide) (by decide) (by decide) (kB (fun μ8 hp8 => ?_) (fun μ8 hp8 => ?_)) kN
        · obtain ⟨hc, e9⟩ := hp8
          have hT := hT.sfi (Or.inr trivial) e9 (hT.1.w290 e9)
          have hM := hT.1
          refine h_if_eq (tgt := 81) C dX9_seal_76 (by decide) (fun c12 => absurd c12 (by decide)) (fun c12 => ?_)
          refine h_iconst (v := 0) C dX9_seal_79 (by decide) ?_
          refine h_iret C E dX9_seal_80 (by decide) (by decide) ?_
          exact ⟨_, rfl, Or.inr ⟨by rw [show seaC k x y z = 1 from (if_pos hB1).trans ((if_pos hB2).trans (if_neg hB3))]; decide, by rw [show seaC k x y z = 1 from (if_pos hB1).trans ((if_pos hB2).trans (if_neg hB3))]; exact hT⟩⟩
        · obtain ⟨hc, e9⟩ := hp8
          exact absurd hc (by decide)
    · obtain ⟨rfl, hBt⟩ := hp2
      rw [btw_i] at hBt
      have hB2 := hBt
      refine h_if_eq (tgt := 59) C dX9_seal_23 (by decide) (fun c13 => ?_) (fun c13 => absurd (by decide) c13)
      refine h_iconst (v := 0) C dX9_seal_59 (by decide) ?_
      refine h_ist_5 C dX9_seal_60 ct_i ?_
      refine h_al_g C dX9_seal_62 rfl rfl rfv_r ?_
      refine h_iload_w C dX9_seal_63 rfl ?_
      refine h_if_eq (tgt := 72) C dX9_seal_65 (by decide) (fun c14 => ?_) (fun c14 => absurd (by decide) c14)
      refine h_iconst (v := 1) C dX9_seal_72 (by decide) ?_
      refine h_callV1 (ci := 9) C (k_X9_isWrong Z.l Z.G (Q 0) _ hM.kX (1)) cw_X9_215 im_X9_isWrong sl_X9_isWrong rfl (by decide) hM.kX dX9_seal_73 (by first | decide | exact Nat.le_of_ble_eq_true rfl) (by decide) (by decide) (by decide) (by decide) (kB (fun μ9 hp9 => ?_) (fun μ9 hp9 => ?_)) kN
      · obtain ⟨hc, e9⟩ := hp9
        have hT := hT.sfi (Or.inr trivial) e9 (hT.1.w290 e9)
        have hM := hT.1
        refine h_if_eq (tgt := 81) C dX9_seal_76 (by decide) (fun c15 => absurd c15 (by decide)) (fun c15 => ?_)
        refine h_iconst (v := 0) C dX9_seal_79 (by decide) ?_
        refine h_iret C E dX9_seal_80 (by decide) (by decide) ?_
        exact ⟨_, rfl, Or.inr ⟨by rw [show seaC k x y z = 1 from (if_pos hB1).trans (if_neg hB2)]; decide, by rw [show seaC k x y z = 1 from (if_pos hB1).trans (if_neg hB2)]; exact hT⟩⟩
      · obtain ⟨hc, e9⟩ := hp9
        exact absurd hc (by decide)
  · obtain ⟨rfl, hBt⟩ := hp1
    rw [btw_i] at hBt
    have hB1 := hBt
    refine h_if_eq (tgt := 59) C dX9_seal_9 (by decide) (fun c16 => ?_) (fun c16 => absurd (by decide) c16)
    refine h_iconst (v := 0) C dX9_seal_59 (by decide) ?_
    refine h_ist_5 C dX9_seal_60 ct_i ?_
    refine h_al_g C dX9_seal_62 rfl rfl rfv_r ?_
    refine h_iload_w C dX9_seal_63 rfl ?_
    refine h_if_eq (tgt := 72) C dX9_seal_65 (by decide) (fun c17 => ?_) (fun c17 => absurd (by decide) c17)
    refine h_iconst (v := 1) C dX9_seal_72 (by decide) ?_
    refine h_callV1 (ci := 9) C (k_X9_isWrong Z.l Z.G (Q 0) _ hM.kX (1)) cw_X9_215 im_X9_isWrong sl_X9_isWrong rfl (by decide) hM.kX dX9_seal_73 (by first | decide | exact Nat.le_of_ble_eq_true rfl) (by decide) (by decide) (by decide) (by decide) (kB (fun μ10 hp10 => ?_) (fun μ10 hp10 => ?_)) kN
    · obtain ⟨hc, e9⟩ := hp10
      have hT := hT.sfi (Or.inr trivial) e9 (hT.1.w290 e9)
      have hM := hT.1
      refine h_if_eq (tgt := 81) C dX9_seal_76 (by decide) (fun c18 => absurd c18 (by decide)) (fun c18 => ?_)
      refine h_iconst (v := 0) C dX9_seal_79 (by decide) ?_
      refine h_iret C E dX9_seal_80 (by decide) (by decide) ?_
      exact ⟨_, rfl, Or.inr ⟨by rw [show seaC k x y z = 1 from if_neg hB1]; decide, by rw [show seaC k x y z = 1 from if_neg hB1]; exact hT⟩⟩
    · obtain ⟨hc, e9⟩ := hp10
      exact absurd hc (by decide)

set_option maxRecDepth 100000 in
set_option maxHeartbeats 1000000 in
theorem k_X9_share (l : Launch) (G : Gx) (Q : Nat → Nat) (S : Sx) (t : Int32) (μ : Mem) (hM : MRq Q S (LXo S t) μ) : Kon l yX9_share cX9_share 1 (some .float) 0 0 0 0 G [.ref (Q 0)] μ (pF fun v μ' => μ = μ' ∧ v = SHR S) noX := by
  refine Kon.ofG (by decide +kernel) (Nat.le_of_ble_eq_true rfl) (Nat.le_of_ble_eq_true rfl) (fun Z hZG C E NT MT => ?_)
  subst hZG
  have C : Cx Z RX9 cX9_share 0 0 0 0 := C
  show HW Z 0 0 0 [some (.ref (Q 0))] [] μ
  have hT : MTo Q WAll μ S (LXo S t) μ := MTo.rf hM
  have h60_ := hM.nt.1
  refine h_al_g C dX9_share_0 rfl rfl rfv_r ?_
  refine gf_X9_251 C dX9_share_1 hM.kX hM.f291 ?_
  refine h_if_ne (tgt := 11) C dX9_share_4 (by decide) (fun c1 => ?_) (fun c1 => ?_)
  · refine h_al_g C dX9_share_11 rfl rfl rfv_r ?_
    refine gs_X9_23 C dX9_share_12 hM.kX (hM.fA (i := 4) (by decide)) ?_
    refine h_bipush (v := 8) C dX9_share_15 (by decide) ?_
    refine h_iald C dX9_share_17 (hM.k11 (by decide)) (inb hM.ln11 (vp_in_nI (n := 8) (by decide) (by decide))) (hM.a4 (i := 8) (by decide)) ?_
    refine h_i2f C dX9_share_18 ?_
    refine h_al_g C dX9_share_19 rfl rfl rfv_r ?_
    refine gf_X9_251 C dX9_share_20 hM.kX hM.f291 ?_
    refine h_i2f C dX9_share_23 ?_
    refine h_fdiv C dX9_share_24 (vf32_i _ _ c1) ?_
    refine h_fret C E dX9_share_25 (by decide) (by decide) ?_
    exact ⟨_, rfl, rfl, (if_neg c1).symm⟩
  · refine h_fconst0 C dX9_share_7 ?_
    refine h_goto (tgt := 25) C dX9_share_8 (by decide) ?_
    refine h_fret C E dX9_share_25 (by decide) (by decide) ?_
    exact ⟨_, rfl, rfl, (if_pos c1).symm⟩

set_option maxRecDepth 100000 in
set_option maxHeartbeats 1000000 in
theorem k_X9_isSound (l : Launch) (G : Gx) (Q : Nat → Nat) (S : Sx) (t : Int32) (μ : Mem) (hM : MRq Q S (LXo S t) μ) : Kon l yX9_isSound cX9_isSound 1 (some .boolean) 0 0 0 0 G [.ref (Q 0)] μ (pI fun v μ' => μ = μ' ∧ v = 1) noX := by
  refine Kon.ofG (by decide +kernel) (Nat.le_of_ble_eq_true rfl) (Nat.le_of_ble_eq_true rfl) (fun Z hZG C E NT MT => ?_)
  subst hZG
  have C : Cx Z RX9 cX9_isSound 0 0 0 0 := C
  show HW Z 0 0 0 [some (.ref (Q 0))] [] μ
  have hT : MTo Q WAll μ S (LXo S t) μ := MTo.rf hM
  have h60_ := hM.nt.1
  refine h_iconst (v := 1) C dX9_isSound_0 (by decide) ?_
  refine h_zret C E dX9_isSound_1 (by decide) (by decide) (by first | exact Or.inl rfl | exact Or.inr rfl) ?_
  exact ⟨_, rfl, rfl, rfl⟩

end
