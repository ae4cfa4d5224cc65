section
def okKm (S : Sx) (a b : Nat) : Prop := ∀ r, S.ses a b 1 = some r → r.1 3 = nI (cl (r.1 3)) ∧ cl (r.1 3) < 65521
theorem okKm_DATS {S : Sx} {a b : Nat} {r : Ses} {x y z : Int32} {ps : List Row} (h : okKm S a b) (hr : S.ses a b 1 = some r) : okKm (DATS (S.sWt a b ps) a b r x y z) a b := fun r9 h9 => by
  have h8 : (DATS (S.sWt a b ps) a b r x y z).ses a b 1 = some (u1 r.1 5 (r.1 5 + 1), r.2) := w3_eq
  rw [h8] at h9
  cases h9
  exact h r hr
set_option maxRecDepth 100000 in
set_option maxHeartbeats 1000000 in
theorem lp_X9_sW1 {Z : Zx} {rc rs : Nat} {Q : Nat → Nat} {S1 : Sx} {t : Int32} {μ0 : Mem} {a b : Nat} (ha : a < 3) (hb : b < 3) {L : List Row} {n : Nat} (hLw : S1.wt a b = L) (hLn : L.length = n + 1) (h4 : n + 1 ≤ 4) (C : Cx Z RX9 cX9_sendWaiting 3 rc rs 77) {k0 n0 : Nat} {z3 : Nat} (kk : ∀ m, MTo Q WAll μ0 (S1.sWt a b (L.drop 1)) (LXo (S1.sWt a b (L.drop 1)) t) m → ∀ z4 : Option Value, HW Z k0 n0 0 [some (.ref (Q 0)), some (.int (nI a)), some (.int (nI b)), some (.ref z3), z4] [] m) :
    ∀ (m j : Nat) (mz : Mem) (M : List Row), j + m = n → M.length = n + 1 → (∀ i, M[i]? = if i < j then L[i + 1]? else L[i]?) → MTo Q WAll μ0 (S1.sWt a b M) (LXo S1 t) mz → HW Z k0 n0 49 [some (.ref (Q 0)), some (.int (nI a)), some (.int (nI b)), some (.ref z3), some (.int (nI j))] [] mz := by
  have e1 : (nI ((LXo S1 t).wl a b) - 1 : Int32) = nI n := by
    show (nI (S1.wt a b).length - 1 : Int32) = nI n
    rw [hLw, hLn]
    exact pk_sub (b := 1) (by omega)
  intro m
  induction m with
  | zero =>
    intro j mz M hj hM1 hM2 hT
    have hM := hT.1
    refine h_iload_w C dX9_sendWaiting_49 rfl ?_
    refine h_al_g C dX9_sendWaiting_51 rfl rfl rfv_r ?_
    refine gs_X9_64 C dX9_sendWaiting_52 hM.kX (hM.fA (i := 16) (by decide)) ?_
    refine h_iload_g C dX9_sendWaiting_55 rfl rfl ?_
    refine h_aald (r := some _) C dX9_sendWaiting_56 (hM.kr (by decide)) (inb (hM.ln3 (by decide)) (vp_in_nI ha (by decide))) (atI (cl_of (n := a) (by have h9 := ha; omega)) (hM.tb (t := 9) (by decide) ha)) ?_
    refine h_iload_g C dX9_sendWaiting_57 rfl rfl ?_
    refine h_iald C dX9_sendWaiting_58 (hM.k11 (by have h0_ := ha; omega)) (inb (hM.ln3 (by have h0_ := ha; omega)) (vp_in_nI hb (by decide))) (atI (cl_of (n := b) (by have h9 := hb; omega)) (hM.t9 ha hb)) ?_
    refine h_iconst (v := 1) C dX9_sendWaiting_59 (by decide) ?_
    refine h_isub C dX9_sendWaiting_60 ?_
    refine h_icmp_ge (tgt := 94) C dX9_sendWaiting_61 (by decide) (fun c1 => ?_) (fun c1 => absurd ((by rw [e1]; exact nI_le (by omega) (by omega))) c1)
    refine h_al_g C dX9_sendWaiting_94 rfl rfl rfv_r ?_
    refine gs_X9_64 C dX9_sendWaiting_95 hM.kX (hM.fA (i := 16) (by decide)) ?_
    refine h_iload_g C dX9_sendWaiting_98 rfl rfl ?_
    refine h_aald (r := some _) C dX9_sendWaiting_99 (hM.kr (by decide)) (inb (hM.ln3 (by decide)) (vp_in_nI ha (by decide))) (atI (cl_of (n := a) (by have h9 := ha; omega)) (hM.tb (t := 9) (by decide) ha)) ?_
    refine h_iload_g C dX9_sendWaiting_100 rfl rfl ?_
    refine h_dup2 C dX9_sendWaiting_101 rfl rfl ?_
    refine h_iald C dX9_sendWaiting_102 (hM.k11 (by have h0_ := ha; omega)) (inb (hM.ln3 (by have h0_ := ha; omega)) (vp_in_nI hb (by decide))) (atI (cl_of (n := b) (by have h9 := hb; omega)) (hM.t9 ha hb)) ?_
    refine h_iconst (v := 1) C dX9_sendWaiting_103 (by decide) ?_
    refine h_isub C dX9_sendWaiting_104 ?_
    refine h_iast C dX9_sendWaiting_105 (hM.k11 (by have h0_ := ha; omega)) (inb (hM.ln3 (by have h0_ := ha; omega)) (vp_in_nI hb (by decide))) ?_
    refine h_abs (fun m1 em1 => ?_)
    rw [show (nI b).toNatClampNeg = b from (cl_of (n := b) (by have h9 := hb; omega))] at em1
    have hT := hT.sei (j := 21 + 3 * 9 + a) (by have h0_ := ha; omega) (Or.inr trivial) em1 (hT.1.wT9 (n := n) ha hb (em1.trans (congrArg (fun v => Mem.sei _ _ _ v) e1)))
    have hM := hT.1
    refine h_goto (tgt := 0) C dX9_sendWaiting_106 (by decide) ?_
    refine kk _ ?_ _
    have h7 : MRq Q (S1.sWt a b (L.drop 1)) ((LXo S1 t).sWl a b n) m1 := by
      have h8 := hT.1.subWt (a := a) (b := b) (rs' := L.drop 1) (fun k r hk => by
        rw [show (S1.sWt a b M).wt a b = M from w2_eq, hM2]
        rw [List.getElem?_drop] at hk
        have hk9 := (List.getElem?_eq_some_iff.mp hk).1
        rw [if_pos (by omega), Nat.add_comm k 1]
        exact hk) (by rw [List.length_drop]; omega)
      rw [sWt_sWt] at h8
      exact h8
    have h6 : MTo Q WAll μ0 (S1.sWt a b (L.drop 1)) ((LXo S1 t).sWl a b n) m1 := ⟨h7, hT.2⟩
    refine h6.lx rfl (fun _ _ => rfl) (fun _ _ => rfl) (fun a9 b9 _ _ => ?_) (fun _ _ _ _ _ _ => rfl) (fun _ _ _ _ _ _ z => z) (fun _ _ _ _ _ _ z => z)
    show w2 (fun x y => (S1.wt x y).length) a b n a9 b9 = (w2 S1.wt a b (L.drop 1) a9 b9).length
    by_cases c9 : a9 = a ∧ b9 = b
    · obtain ⟨rfl, rfl⟩ := c9
      rw [w2_eq, w2_eq, List.length_drop, hLn]
      rfl
    · rw [w2_ne c9, w2_ne c9]
  | succ m ih =>
    intro j mz M hj hM1 hM2 hT
    have hM := hT.1
    have hj1 : j + 1 < L.length := by omega
    have hMw := (hM.wt ha hb).2
    rw [show (S1.sWt a b M).wt a b = M from w2_eq] at hMw
    obtain ⟨y, y1, y2⟩ := hMw (j + 1) L[j + 1] (by rw [hM2, if_neg (by omega)]; exact List.getElem?_eq_getElem hj1)
    refine h_iload_w C dX9_sendWaiting_49 rfl ?_
    refine h_al_g C dX9_sendWaiting_51 rfl rfl rfv_r ?_
    refine gs_X9_64 C dX9_sendWaiting_52 hM.kX (hM.fA (i := 16) (by decide)) ?_
    refine h_iload_g C dX9_sendWaiting_55 rfl rfl ?_
    refine h_aald (r := some _) C dX9_sendWaiting_56 (hM.kr (by decide)) (inb (hM.ln3 (by decide)) (vp_in_nI ha (by decide))) (atI (cl_of (n := a) (by have h9 := ha; omega)) (hM.tb (t := 9) (by decide) ha)) ?_
    refine h_iload_g C dX9_sendWaiting_57 rfl rfl ?_
    refine h_iald C dX9_sendWaiting_58 (hM.k11 (by have h0_ := ha; omega)) (inb (hM.ln3 (by have h0_ := ha; omega)) (vp_in_nI hb (by decide))) (atI (cl_of (n := b) (by have h9 := hb; omega)) (hM.t9 ha hb)) ?_
    refine h_iconst (v := 1) C dX9_sendWaiting_59 (by decide) ?_
    refine h_isub C dX9_sendWaiting_60 ?_
    refine h_icmp_ge (tgt := 94) C dX9_sendWaiting_61 (by decide) (fun c1 => absurd c1 ((by rw [e1]; exact nI_ge (by omega) (by omega)))) (fun c1 => ?_)
    refine h_al_g C dX9_sendWaiting_64 rfl rfl rfv_r ?_
    refine gs_X9_69 C dX9_sendWaiting_65 hM.kX (hM.fA (i := 17) (by decide)) ?_
    refine h_iload_g C dX9_sendWaiting_68 rfl rfl ?_
    refine h_aald (r := some _) C dX9_sendWaiting_69 (hM.kr (by decide)) (inb (hM.ln3 (by decide)) (vp_in_nI ha (by decide))) (atI (cl_of (n := a) (by have h9 := ha; omega)) (hM.d1 (i := 0) (by decide) ha)) ?_
    refine h_iload_g C dX9_sendWaiting_70 rfl rfl ?_
    refine h_aald (r := some _) C dX9_sendWaiting_71 (hM.kr (by have h0_ := ha; omega)) (inb (hM.ln3 (by have h0_ := ha; omega)) (vp_in_nI hb (by decide))) (atI (cl_of (n := b) (by have h9 := hb; omega)) (hM.d2 (i := 0) (by decide) ha hb)) ?_
    refine h_iload_w C dX9_sendWaiting_72 rfl ?_
    refine h_al_g C dX9_sendWaiting_74 rfl rfl rfv_r ?_
    refine gs_X9_69 C dX9_sendWaiting_75 hM.kX (hM.fA (i := 17) (by decide)) ?_
    refine h_iload_g C dX9_sendWaiting_78 rfl rfl ?_
    refine h_aald (r := some _) C dX9_sendWaiting_79 (hM.kr (by decide)) (inb (hM.ln3 (by decide)) (vp_in_nI ha (by decide))) (atI (cl_of (n := a) (by have h9 := ha; omega)) (hM.d1 (i := 0) (by decide) ha)) ?_
    refine h_iload_g C dX9_sendWaiting_80 rfl rfl ?_
    refine h_aald (r := some _) C dX9_sendWaiting_81 (hM.kr (by have h0_ := ha; omega)) (inb (hM.ln3 (by have h0_ := ha; omega)) (vp_in_nI hb (by decide))) (atI (cl_of (n := b) (by have h9 := hb; omega)) (hM.d2 (i := 0) (by decide) ha hb)) ?_
    refine h_iload_w C dX9_sendWaiting_82 rfl ?_
    refine h_iconst (v := 1) C dX9_sendWaiting_84 (by decide) ?_
    refine h_iadd C dX9_sendWaiting_85 ?_
    refine h_aald (r := some _) C dX9_sendWaiting_86 (hM.kr (by omega)) (inb (hM.ln4 (by omega)) (by rw [nI_1]; exact vp_in_nI (by omega) (by decide))) (atI (show (nI j + 1 : Int32).toNatClampNeg = j + 1 from by rw [nI_1]; exact cl_of (by omega)) y1) ?_
    refine h_aast C dX9_sendWaiting_87 (by rw [hM.k17 (by omega), y2.1]; decide) (inb (hM.ln4 (by omega)) (vp_in_nI (by omega) (by decide))) ?_
    refine h_abs (fun m9 e9 => ?_)
    rw [show (nI j).toNatClampNeg = j from cl_of (by omega)] at e9
    have hT := hT.ser (j := 63 + 3 * a + b) (by omega) (Or.inr trivial) e9 (hM.pWt ha hb e9 y2 (rs' := M.set j (L[j + 1])) (by rw [show (S1.sWt a b M).wt a b = M from w2_eq]; exact PutAt.set) (by rw [List.length_set]; omega))
    rw [sWt_sWt] at hT
    refine h_iinc_4 (q := 1) C dX9_sendWaiting_88 (by decide) ct_r ?_
    refine h_goto (tgt := 49) C dX9_sendWaiting_91 (by decide) ?_
    rw [nI_1]
    exact ih (j + 1) m9 (M.set j (L[j + 1])) (by omega) (by rw [List.length_set]; exact hM1) (fun i => by
      rw [List.getElem?_set]
      by_cases c9 : j = i
      · subst c9
        rw [if_pos rfl, if_pos (by omega), if_pos (by omega)]
        exact (List.getElem?_eq_getElem hj1).symm
      · rw [if_neg c9, hM2]
        by_cases c8 : i < j
        · rw [if_pos c8, if_pos (by omega)]
        · rw [if_neg c8, if_neg (by omega)]) hT

theorem sWt_id {S : Sx} {a b : Nat} : S.sWt a b (S.wt a b) = S := by
  have e : w2 S.wt a b (S.wt a b) = S.wt := funext fun i => funext fun j => by
    by_cases c : i = a ∧ j = b
    · obtain ⟨rfl, rfl⟩ := c
      exact w2_eq
    · exact w2_ne c
  show (S.sc, S.ef, S.lf, S.cd, S.fl, S.ses, w2 S.wt a b (S.wt a b), S.rt, S.ou, S.nt) = S
  rw [e]
  rfl
set_option maxRecDepth 100000 in
set_option maxHeartbeats 1000000 in
theorem lp_X9_sW {Z : Zx} {Post : Option Value → Mem → Prop} {PostX : String → Mem → Prop} {mc ms : Nat} {Q : Nat → Nat} {t : Int32} {μ0 : Mem} {a b : Nat} (ha : a < 3) (hb : b < 3) (C : Cx Z RX9 cX9_sendWaiting 3 mc ms 77) (E : Rt Z mc ms none Post PostX) :
    ∀ (n : Nat) (S : Sx) (mz : Mem) (k0 n0 : Nat), (S.wt a b).length = n → okKm S a b → MTo Q WAll μ0 S (LXo S t) mz → k0 + 3 * n ≤ mc → n0 + 28 * n ≤ ms → (∀ m, MTo Q WAll μ0 (SWT a b n S) (LXo (SWT a b n S) t) m → Post none m) → ∀ z3 z4 : Option Value, HW Z k0 n0 0 [some (.ref (Q 0)), some (.int (nI a)), some (.int (nI b)), z3, z4] [] mz := by
  intro n
  induction n with
  | zero =>
    intro S mz k0 n0 hn hoK hT hk1 hn1 hP z3 z4
    have hM := hT.1
    refine h_al_g C dX9_sendWaiting_0 rfl rfl rfv_r ?_
    refine gs_X9_64 C dX9_sendWaiting_1 hM.kX (hM.fA (i := 16) (by decide)) ?_
    refine h_iload_g C dX9_sendWaiting_4 rfl rfl ?_
    refine h_aald (r := some _) C dX9_sendWaiting_5 (hM.kr (by decide)) (inb (hM.ln3 (by decide)) (vp_in_nI ha (by decide))) (atI (cl_of (n := a) (by have h9 := ha; omega)) (hM.tb (t := 9) (by decide) ha)) ?_
    refine h_iload_g C dX9_sendWaiting_6 rfl rfl ?_
    refine h_iald C dX9_sendWaiting_7 (hM.k11 (by have h0_ := ha; omega)) (inb (hM.ln3 (by have h0_ := ha; omega)) (vp_in_nI hb (by decide))) (atI (cl_of (n := b) (by have h9 := hb; omega)) (hM.t9 ha hb)) ?_
    refine h_if_le (tgt := 109) C dX9_sendWaiting_8 (by decide) (fun c1 => ?_) (fun c1 => absurd ((by show nI ((S.wt a b).length) ≤ 0; rw [hn]; decide)) c1)
    refine h_ret C E dX9_sendWaiting_109 (by omega) (by omega) ?_
    exact hP _ hT
  | succ n ih =>
    intro S mz k0 n0 hn hoK hT hk1 hn1 hP z3 z4
    have hM := hT.1
    have h4 := (hM.wt ha hb).1
    have hn0 : ¬ nI ((LXo S t).wl a b) ≤ 0 := fun h => by
      have h9 : nI (S.wt a b).length ≤ 0 := h
      rw [hn, Int32.le_iff_toInt_le, nI_toInt (by omega), tl_0] at h9
      omega
    cases hL : S.wt a b with
    | nil => rw [hL] at hn; cases hn
    | cons p ps =>
    obtain ⟨y, y1, y2⟩ := (hM.wt ha hb).2 0 p (by rw [hL]; rfl)
    refine h_al_g C dX9_sendWaiting_0 rfl rfl rfv_r ?_
    refine gs_X9_64 C dX9_sendWaiting_1 hM.kX (hM.fA (i := 16) (by decide)) ?_
    refine h_iload_g C dX9_sendWaiting_4 rfl rfl ?_
    refine h_aald (r := some _) C dX9_sendWaiting_5 (hM.kr (by decide)) (inb (hM.ln3 (by decide)) (vp_in_nI ha (by decide))) (atI (cl_of (n := a) (by have h9 := ha; omega)) (hM.tb (t := 9) (by decide) ha)) ?_
    refine h_iload_g C dX9_sendWaiting_6 rfl rfl ?_
    refine h_iald C dX9_sendWaiting_7 (hM.k11 (by have h0_ := ha; omega)) (inb (hM.ln3 (by have h0_ := ha; omega)) (vp_in_nI hb (by decide))) (atI (cl_of (n := b) (by have h9 := hb; omega)) (hM.t9 ha hb)) ?_
    refine h_if_le (tgt := 109) C dX9_sendWaiting_8 (by decide) (fun c1 => absurd c1 (hn0)) (fun c1 => ?_)
    refine h_al_g C dX9_sendWaiting_11 rfl rfl rfv_r ?_
    refine h_iload_g C dX9_sendWaiting_12 rfl rfl ?_
    refine h_iload_g C dX9_sendWaiting_13 rfl rfl ?_
    refine h_callV2 (ci := 9) C (k_X9_usable Z.l Z.G Q S t _ hM _ ha _ rfl _ hb _ rfl) cw_X9_173 im_X9_usable sl_X9_usable rfl (by decide) hM.kX dX9_sendWaiting_14 (by first | decide | exact Nat.le_of_ble_eq_true rfl) (by decide) (by decide) (by omega) (by omega) (kB (fun μ1 hp1 => ?_) (fun μ1 hp1 => ?_)) kN
    · obtain ⟨rfl, r, hU⟩ := hp1
      refine h_if_eq (tgt := 109) C dX9_sendWaiting_17 (by decide) (fun c2 => absurd c2 (by decide)) (fun c2 => ?_)
      refine h_al_g C dX9_sendWaiting_20 rfl rfl rfv_r ?_
      refine gs_X9_69 C dX9_sendWaiting_21 hM.kX (hM.fA (i := 17) (by decide)) ?_
      refine h_iload_g C dX9_sendWaiting_24 rfl rfl ?_
      refine h_aald (r := some _) C dX9_sendWaiting_25 (hM.kr (by decide)) (inb (hM.ln3 (by decide)) (vp_in_nI ha (by decide))) (atI (cl_of (n := a) (by have h9 := ha; omega)) (hM.d1 (i := 0) (by decide) ha)) ?_
      refine h_iload_g C dX9_sendWaiting_26 rfl rfl ?_
      refine h_aald (r := some _) C dX9_sendWaiting_27 (hM.kr (by have h0_ := ha; omega)) (inb (hM.ln3 (by have h0_ := ha; omega)) (vp_in_nI hb (by decide))) (atI (cl_of (n := b) (by have h9 := hb; omega)) (hM.d2 (i := 0) (by decide) ha hb)) ?_
      refine h_iconst (v := 0) C dX9_sendWaiting_28 (by decide) ?_
      refine h_aald (r := some _) C dX9_sendWaiting_29 (hM.kr (by omega)) (inb (hM.ln4 (by omega)) (vp_in_nI (n := 0) (by decide) (by decide))) (atI (show Int32.toNatClampNeg 0 = 0 from rfl) y1) ?_
      refine h_ast_3 C dX9_sendWaiting_30 ct_i rfv_r ?_
      refine h_al_g C dX9_sendWaiting_31 rfl rfl rfv_r ?_
      refine h_iload_g C dX9_sendWaiting_32 rfl rfl ?_
      refine h_iload_g C dX9_sendWaiting_33 rfl rfl ?_
      refine h_al_g C dX9_sendWaiting_34 rfl rfl rfv_r ?_
      refine h_iconst (v := 0) C dX9_sendWaiting_35 (by decide) ?_
      refine h_iald C dX9_sendWaiting_36 (by rw [y2.1]; decide) (inb y2.2.1 (vp_in_nI (n := 0) (by decide) (by decide))) (y2.2.2 0 (by decide)) ?_
      refine h_al_g C dX9_sendWaiting_37 rfl rfl rfv_r ?_
      refine h_iconst (v := 1) C dX9_sendWaiting_38 (by decide) ?_
      refine h_iald C dX9_sendWaiting_39 (by rw [y2.1]; decide) (inb y2.2.1 (vp_in_nI (n := 1) (by decide) (by decide))) (y2.2.2 1 (by decide)) ?_
      refine h_al_g C dX9_sendWaiting_40 rfl rfl rfv_r ?_
      refine h_iconst (v := 2) C dX9_sendWaiting_41 (by decide) ?_
      refine h_iald C dX9_sendWaiting_42 (by rw [y2.1]; decide) (inb y2.2.1 (vp_in_nI (n := 2) (by decide) (by decide))) (y2.2.2 2 (by decide)) ?_
      refine h_callV5 (ci := 9) C (k_X9_data Z.l Z.G Q S t _ hM a ha _ rfl b hb _ rfl (p 0) (p 1) (p 2) r (USE_some hU) (hoK r (USE_some hU)).1 (hoK r (USE_some hU)).2) cw_X9_176 im_X9_data sl_X9_data rfl (by decide) hM.kX dX9_sendWaiting_43 (by first | decide | exact Nat.le_of_ble_eq_true rfl) (by decide) (by decide) (by omega) (by omega) (kV fun μ2 hp2 => ?_) kN
      have hDa := hp2
      have hT := hT.tr hDa (fun _ _ => trivial)
      have hM := hT.1
      refine h_iconst (v := 0) C dX9_sendWaiting_46 (by decide) ?_
      refine h_ist_4 C dX9_sendWaiting_47 ct_r ?_
      exact lp_X9_sW1 (S1 := DATS S a b r (p 0) (p 1) (p 2)) (L := p :: ps) ha hb hL (by rw [← hL]; exact hn) (by omega) C (fun m9 h9 z4 => by
        have hS : (DATS S a b r (p 0) (p 1) (p 2)).sWt a b ((p :: ps).drop 1) = DATS (S.sWt a b ps) a b r (p 0) (p 1) (p 2) := rfl
        rw [hS] at h9
        refine ih _ m9 _ _ (by show (w2 S.wt a b ps a b).length = n; rw [w2_eq]; rw [hL] at hn; exact Nat.succ.inj hn) (okKm_DATS hoK (USE_some hU)) h9 (by omega) (by omega) (fun m8 h8 => hP m8 ?_) _ _
        rw [show SWT a b (n + 1) S = SWT a b n (DATS (S.sWt a b ps) a b r (p 0) (p 1) (p 2)) from by
          show (match USE S a b with
            | none => S
            | some r => match S.wt a b with
              | [] => S
              | p :: ps => SWT a b n (DATS (S.sWt a b ps) a b r (p 0) (p 1) (p 2))) = _
          rw [hU]
          show (match S.wt a b with
              | [] => S
              | p :: ps => SWT a b n (DATS (S.sWt a b ps) a b r (p 0) (p 1) (p 2))) = _
          rw [hL]]
        exact h8) n 0 _ (p :: ps) (by omega) (by rw [← hL]; exact hn) (fun i => by rw [if_neg (Nat.not_lt_zero _)]) (by rw [show (DATS S a b r (p 0) (p 1) (p 2)).sWt a b (p :: ps) = DATS S a b r (p 0) (p 1) (p 2) from by rw [← hL]; exact (show (DATS S a b r (p 0) (p 1) (p 2)).sWt a b ((DATS S a b r (p 0) (p 1) (p 2)).wt a b) = _ from sWt_id)]; exact hT)
    · obtain ⟨rfl, hU⟩ := hp1
      refine h_if_eq (tgt := 109) C dX9_sendWaiting_17 (by decide) (fun c3 => ?_) (fun c3 => absurd (by decide) c3)
      refine h_ret C E dX9_sendWaiting_109 (by omega) (by omega) ?_
      exact hP _ (by rw [show SWT a b (n + 1) S = S from by unfold SWT; rw [hU]]; exact hT)

set_option maxRecDepth 100000 in
set_option maxHeartbeats 1000000 in
theorem k_X9_sendWaiting (l : Launch) (G : Gx) (Q : Nat → Nat) (S : Sx) (t : Int32) (μ : Mem) (hM : MRq Q S (LXo S t) μ) (a : Nat) (ha : a < 3) (xa : Int32) (hxa : xa = nI a) (b : Nat) (hb : b < 3) (xb : Int32) (hxb : xb = nI b) (hoK : okKm S a b) : Kon l yX9_sendWaiting cX9_sendWaiting 5 none 3 12 112 77 G [.ref (Q 0), .int xa, .int xb] μ (pV fun μ' => MTo Q WAll μ (SWT a b (S.wt a b).length S) (LXo (SWT a b (S.wt a b).length S) t) μ') noX := by
  refine Kon.ofG (by decide +kernel) (Nat.le_of_ble_eq_true rfl) (Nat.le_of_ble_eq_true rfl) (fun Z hZG C E NT MT => ?_)
  subst hZG
  have C : Cx Z RX9 cX9_sendWaiting 3 12 112 77 := C
  show HW Z 0 0 0 [some (.ref (Q 0)), some (.int xa), some (.int xb), none, none] [] μ
  subst hxa
  subst hxb
  exact lp_X9_sW ha hb C E (S.wt a b).length S μ 0 0 rfl hoK (MTo.rf hM) (by have := (hM.wt ha hb).1; omega) (by have := (hM.wt ha hb).1; omega) (fun m9 h9 => ⟨rfl, h9⟩) _ _

end
