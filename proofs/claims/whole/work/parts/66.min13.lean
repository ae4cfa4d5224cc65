section
theorem OUT_skip {e i : Nat} {ou : List Row} (hi : i < ou.length) (h : ¬ ou[i] 0 = nI e) : OUT e (ou.drop i) = OUT e (ou.drop (i + 1)) := by
  rw [List.drop_eq_getElem_cons hi]
  unfold OUT
  rw [List.filter_cons, if_neg (by rw [decide_eq_true_eq]; exact h)]
theorem OUT_take {e i : Nat} {ou : List Row} (hi : i < ou.length) (h : ou[i] 0 = nI e) : OUT e (ou.drop i) = ou[i] :: OUT e (ou.drop (i + 1)) := by
  rw [List.drop_eq_getElem_cons hi]
  unfold OUT
  rw [List.filter_cons, if_pos (by rw [decide_eq_true_eq]; exact h)]
theorem nI_dec {n : Nat} (h : 0 < n) : nI n + -1 = nI (n - 1) := by
  obtain ⟨k, rfl⟩ : ∃ k, n = k + 1 := ⟨n - 1, by omega⟩
  rw [← nI_add k 1, Int32.add_assoc, show (nI 1 + -1 : Int32) = 0 from by decide, Int32.add_zero]
  rfl
theorem l2d_i (x : Int32) : FP.l2d x.toInt64 = FP.i2d x := by
  show FP.Core.l2d _ = FP.Core.i2d _
  unfold FP.Core.l2d FP.Core.i2d
  rw [Int32.toInt_toInt64]
theorem cnt_s {c : Nat} (h : c < 1000) : (nI c).toInt64 + 1 = (nI (c + 1)).toInt64 := Int64.toInt_inj.mp (by
  rw [fb_addL (by rw [Int32.toInt_toInt64, nI_toInt (by omega)]; show _ ≤ (c : Int) + 1; omega) (by rw [Int32.toInt_toInt64, nI_toInt (by omega)]; show (c : Int) + 1 < _; omega), Int32.toInt_toInt64, Int32.toInt_toInt64, nI_toInt (by omega), nI_toInt (by omega)]
  rfl)
set_option maxRecDepth 100000 in
set_option maxHeartbeats 1000000 in
theorem lp_X9_out {Z : Zx} {Post : Option Value → Mem → Prop} {PostX : String → Mem → Prop} {rf mc ms rl : Nat} {Q : Nat → Nat} {ou : List Row} {μ : Mem} {x y q : Int32} {A : Nat} {g : Row} (C : Cx Z RX9 cX9_out rf mc ms rl) (E : Rt Z mc ms (some .int) Post PostX) (hx : isE x) (h600 : ou.length ≤ 600) (a2 : μ.kd A = KOA) (a3 : μ.ln A = ou.length) (a4 : ∀ k r, ou[k]? = some r → ∃ p, μ.er A k = some p ∧ RowAt μ KIM p 5 r) (q1 : vp_in (1 + q) 5) (q2 : (1 + q : Int32).toNatClampNeg = 1 + cl q) (q3 : 1 + cl q < 5) (hP : Post (some (.int (g (1 + cl q)))) μ) :
    ∀ (m i left : Nat), i + m = ou.length → left < 2 ^ 31 → (OUT (cl x) (ou.drop i))[left]? = some g → ∀ z8 : Option Value, HW Z 0 0 72 [some (.ref (Q 0)), some (.int x), some (.int y), some (.int q), some (.int (nI left)), some (.ref A), some (.int (nI ou.length)), some (.int (nI i)), z8] [] μ := by
  intro m
  induction m with
  | zero =>
    intro i left hj hl2 h
    rw [List.drop_eq_nil_of_le (by omega)] at h
    cases h
  | succ m ih =>
    intro i left hj hl2 h z8
    have hi : i < ou.length := by omega
    refine h_iload_w C dX9_out_72 rfl ?_
    refine h_iload_w C dX9_out_74 rfl ?_
    refine h_icmp_ge (tgt := 115) C dX9_out_76 (by decide) (fun c1 => absurd c1 ((by exact nI_ge (by omega) (by omega)))) (fun c1 => ?_)
    obtain ⟨p, p1, p2⟩ := a4 i _ (List.getElem?_eq_getElem hi)
    refine h_al_w (j := 0) C dX9_out_79 rfl rfv_r ?_
    refine h_iload_w C dX9_out_81 rfl ?_
    refine h_aald (r := some _) C dX9_out_83 ⟨by rw [a2]; decide, by rw [a2]; decide⟩ (inb a3 (vp_in_nI hi (by omega))) (atI (cl_of (by omega)) p1) ?_
    refine h_ast_8 C dX9_out_84 ct_i rfv_r ?_
    refine h_al_w (j := 0) C dX9_out_86 rfl rfv_r ?_
    refine h_iconst (v := 0) C dX9_out_88 (by decide) ?_
    refine h_iald C dX9_out_89 (by rw [p2.1]; decide) (inb p2.2.1 (vp_in_nI (n := 0) (by decide) (by decide))) (p2.2.2 0 (by decide)) ?_
    refine h_iload_g C dX9_out_90 rfl rfl ?_
    refine h_icmp_ne (tgt := 109) C dX9_out_91 (by decide) (fun cA => ?_) (fun cA => ?_)
    · refine h_iinc_7 (q := 1) C dX9_out_109 (by decide) ct_i ?_
      refine h_goto (tgt := 72) C dX9_out_112 (by decide) ?_
      rw [nI_1]
      rw [OUT_skip hi (fun z => cA (z.trans hx.nI.symm))] at h
      exact ih (i + 1) left (by omega) hl2 h _
    · refine h_iload_w C dX9_out_94 rfl ?_
      refine h_iinc_4 (q := (-1)) C dX9_out_96 (by decide) ct_i ?_
      refine h_if_ne (tgt := 109) C dX9_out_99 (by decide) (fun cB => ?_) (fun cB => ?_)
      · have hl0 : 0 < left := by
          have h9 : left ≠ 0 := fun z => cB (by rw [z]; rfl)
          omega
        refine h_iinc_7 (q := 1) C dX9_out_109 (by decide) ct_i ?_
        refine h_goto (tgt := 72) C dX9_out_112 (by decide) ?_
        rw [nI_1, nI_dec hl0]
        rw [OUT_take hi (cA.trans hx.nI), show left = (left - 1) + 1 by omega] at h
        exact ih (i + 1) (left - 1) (by omega) (by omega) h _
      · have hl0 : left = 0 := by
          have h9 := congrArg cl cB
          rw [cl_of hl2] at h9
          exact h9
        rw [OUT_take hi (cA.trans hx.nI), hl0] at h
        cases h
        refine h_al_w (j := 0) C dX9_out_102 rfl rfv_r ?_
        refine h_iconst (v := 1) C dX9_out_104 (by decide) ?_
        refine h_iload_g C dX9_out_105 rfl rfl ?_
        refine h_iadd C dX9_out_106 ?_
        refine h_iald C dX9_out_107 (by rw [p2.1]; decide) (inb p2.2.1 q1) (atI q2 (p2.2.2 _ q3)) ?_
        refine h_iret C E dX9_out_108 (Nat.zero_le _) (Nat.zero_le _) ?_
        exact hP

theorem out_b {x : Int32} {n : Nat} (h : n ≤ 1000) : ((0 : Int64) ≤ x.toInt64 ∧ x.toInt64 ≤ (nI n - 1).toInt64) ↔ (0 ≤ x.toInt ∧ x.toInt < n) := by
  rw [btw_i, Int32.toInt_toInt64, fb_subI (by rw [nI_toInt (by omega)]; show _ ≤ (n : Int) - 1; omega) (by rw [nI_toInt (by omega)]; show (n : Int) - 1 < _; omega), nI_toInt (by omega)]
  show (0 ≤ x.toInt ∧ x.toInt ≤ (n : Int) - 1) ↔ _
  omega
theorem OUT_le (e : Nat) (ou : List Row) : (OUT e ou).length ≤ ou.length := List.length_filter_le ..
theorem qIx {q : Int32} (h : 0 ≤ q.toInt ∧ q.toInt ≤ 3) : vp_in (1 + q) 5 ∧ (1 + q : Int32).toNatClampNeg = 1 + cl q ∧ 1 + cl q < 5 := by
  have e1 := cl_eq h.1
  have e3 : (1 + q : Int32) = nI (1 + cl q) := (congrArg (fun q => 1 + q) (cl_nI h.1)).trans (nI_add 1 _)
  exact ⟨by rw [e3]; exact vp_in_nI (by omega) (by decide), by rw [e3]; exact cl_of (by omega), by omega⟩
set_option maxRecDepth 100000 in
set_option maxHeartbeats 1000000 in
theorem k_X9_out (l : Launch) (G : Gx) (Q : Nat → Nat) (S : Sx) (t : Int32) (μ : Mem) (hM : MRq Q S (LXo S t) μ) (x y q : Int32) : Kon l yX9_out cX9_out 9 (some .int) 2 0 0 45 G [.ref (Q 0), .int x, .int y, .int q] μ (pI fun v μ' => (outC S x y q = 0 ∧ v = OUTr S (cl x) (cl y) (1 + cl q) ∧ MTo Q WAll μ (S) (LXo (S) 0) μ') ∨ (¬ outC S x y q = 0 ∧ MTo Q WAll μ S (LXo S (outC S x y q)) μ')) noX := by
  refine Kon.ofG (by decide +kernel) (Nat.le_of_ble_eq_true rfl) (Nat.le_of_ble_eq_true rfl) (fun Z hZG C E NT MT => ?_)
  subst hZG
  have C : Cx Z RX9 cX9_out 2 0 0 45 := C
  show HW Z 0 0 0 [some (.ref (Q 0)), some (.int x), some (.int y), some (.int q), none, none, none, none, none] [] μ
  have hT : MTo Q WAll μ S (LXo S t) μ := MTo.rf hM
  have h60_ := hM.nt.1
  refine h_al_g C dX9_out_0 rfl rfl rfv_r ?_
  refine h_iload_g C dX9_out_1 rfl rfl ?_
  refine h_callS1 C (k_X9_isEnd Z.l Z.G _ _) cw_X9_98 st_X9_isEnd dX9_out_2 (by first | decide | exact Nat.le_of_ble_eq_true rfl) (by decide) (by decide) (by decide) (by decide) (kB (fun μ1 hp1 => ?_) (fun μ1 hp1 => ?_)) kN
  · obtain ⟨rfl, hx⟩ := hp1
    refine h_if_eq (tgt := 26) C dX9_out_5 (by decide) (fun c1 => absurd c1 (by decide)) (fun c1 => ?_)
    obtain ⟨h600, A, a1, a2, a3, a4⟩ := hM.ou
    have hou : (OUT (cl x) S.ou).length ≤ 1000 := Nat.le_trans (OUT_le _ _) (by omega)
    refine h_iload_g C dX9_out_8 rfl rfl ?_
    refine h_i2l C dX9_out_9 ?_
    refine h_lconst (v := 0) C dX9_out_10 (by decide) ?_
    refine h_al_g C dX9_out_11 rfl rfl rfv_r ?_
    refine gs_X9_20 C dX9_out_12 hM.kX (hM.fA (i := 3) (by decide)) ?_
    refine h_iload_g C dX9_out_15 rfl rfl ?_
    refine h_iald C dX9_out_16 (hM.k11 (by decide)) (inb (hM.ln3 (by decide)) (vp_isE hx.1 hx.2 (by decide))) (atI rfl (hM.a3 hx.lt)) ?_
    refine h_iconst (v := 1) C dX9_out_17 (by decide) ?_
    refine h_isub C dX9_out_18 ?_
    refine h_i2l C dX9_out_19 ?_
    refine h_callS3 C (k_X9_isBetween Z.l Z.G _ _ _ _) cw_X9_91 st_X9_isBetween dX9_out_20 (by first | decide | exact Nat.le_of_ble_eq_true rfl) (by decide) (by decide) (by decide) (by decide) (kB (fun μ2 hp2 => ?_) (fun μ2 hp2 => ?_)) kN
    · obtain ⟨rfl, hBo⟩ := hp2
      have hO : isO S (cl x) y := (out_b hou).mp hBo
      refine h_if_ne (tgt := 30) C dX9_out_23 (by decide) (fun c2 => ?_) (fun c2 => absurd c2 (by decide))
      refine h_iload_g C dX9_out_30 rfl rfl ?_
      refine h_i2l C dX9_out_31 ?_
      refine h_lconst (v := 0) C dX9_out_32 (by decide) ?_
      refine h_ldc2 C kc_X9_275 dX9_out_33 ?_
      refine h_callS3 C (k_X9_isBetween Z.l Z.G _ _ _ _) cw_X9_91 st_X9_isBetween dX9_out_36 (by first | decide | exact Nat.le_of_ble_eq_true rfl) (by decide) (by decide) (by decide) (by decide) (kB (fun μ3 hp3 => ?_) (fun μ3 hp3 => ?_)) kN
      · obtain ⟨rfl, hBt⟩ := hp3
        rw [btw_i] at hBt
        refine h_if_ne (tgt := 46) C dX9_out_39 (by decide) (fun c3 => ?_) (fun c3 => absurd c3 (by decide))
        refine h_iconst (v := 0) C dX9_out_46 (by decide) ?_
        refine h_callV1 (ci := 9) C (k_X9_isWrong Z.l Z.G (Q 0) _ hM.kX (0)) cw_X9_215 im_X9_isWrong sl_X9_isWrong rfl (by decide) hM.kX dX9_out_47 (by first | decide | exact Nat.le_of_ble_eq_true rfl) (by decide) (by decide) (by decide) (by decide) (kB (fun μ4 hp4 => ?_) (fun μ4 hp4 => ?_)) kN
        · obtain ⟨hc, e9⟩ := hp4
          exact absurd rfl hc
        · obtain ⟨hc, e9⟩ := hp4
          have hT := hT.sfi (Or.inr trivial) e9 (hT.1.w290 e9)
          have hM := hT.1
          refine h_if_eq (tgt := 55) C dX9_out_50 (by decide) (fun c4 => ?_) (fun c4 => absurd (by decide) c4)
          obtain ⟨h600, A, a1, a2, a3, a4⟩ := hM.ou
          obtain ⟨q1, q2, q3⟩ := qIx hBt
          refine h_iload_g C dX9_out_55 rfl rfl ?_
          refine h_ist_4 C dX9_out_56 ct_i ?_
          refine h_al_g C dX9_out_58 rfl rfl rfv_r ?_
          refine gs_X9_83 C dX9_out_59 hM.kX a1 ?_
          refine h_ast_5 C dX9_out_62 ct_i rfv_r ?_
          refine h_al_w (j := 0) C dX9_out_64 rfl rfv_r ?_
          refine h_alen C dX9_out_66 ⟨by rw [a2]; decide, by rw [a2]; decide⟩ a3 ?_
          refine h_ist_6 C dX9_out_67 ct_r ?_
          refine h_iconst (v := 0) C dX9_out_69 (by decide) ?_
          refine h_ist_7 C dX9_out_70 ct_i ?_
          have hlt : cl y < (OUT (cl x) S.ou).length := by have := cl_eq hO.1; have := hO.2; omega
          have e0 : OUTr S (cl x) (cl y) = (OUT (cl x) S.ou)[cl y] := by unfold OUTr; rw [List.getElem?_eq_getElem hlt]; rfl
          have h9 := lp_X9_out (Q := Q) (y := y) (g := OUTr S (cl x) (cl y)) C E hx h600 a2 a3 a4 q1 q2 q3 ⟨_, rfl, Or.inl ⟨(if_pos hx).trans ((if_pos hO).trans (if_pos hBt)), rfl, hT⟩⟩ S.ou.length 0 (cl y) (by omega) (by omega) (by rw [List.drop_zero, e0]; exact List.getElem?_eq_getElem hlt) none
          rw [← cl_nI hO.1] at h9
          exact h9
      · obtain ⟨rfl, hBt⟩ := hp3
        rw [btw_i] at hBt
        refine h_if_ne (tgt := 46) C dX9_out_39 (by decide) (fun c5 => absurd c5 (by decide)) (fun c5 => ?_)
        refine h_iconst (v := 2) C dX9_out_42 (by decide) ?_
        refine h_goto (tgt := 47) C dX9_out_43 (by decide) ?_
        refine h_callV1 (ci := 9) C (k_X9_isWrong Z.l Z.G (Q 0) _ hM.kX (2)) cw_X9_215 im_X9_isWrong sl_X9_isWrong rfl (by decide) hM.kX dX9_out_47 (by first | decide | exact Nat.le_of_ble_eq_true rfl) (by decide) (by decide) (by decide) (by decide) (kB (fun μ5 hp5 => ?_) (fun μ5 hp5 => ?_)) kN
        · obtain ⟨hc, e9⟩ := hp5
          have hT := hT.sfi (Or.inr trivial) e9 (hT.1.w290 e9)
          have hM := hT.1
          refine h_if_eq (tgt := 55) C dX9_out_50 (by decide) (fun c6 => absurd c6 (by decide)) (fun c6 => ?_)
          refine h_iconst (v := 0) C dX9_out_53 (by decide) ?_
          refine h_iret C E dX9_out_54 (by decide) (by decide) ?_
          exact ⟨_, rfl, Or.inr ⟨by rw [show outC S x y q = 2 from (if_pos hx).trans ((if_pos hO).trans (if_neg hBt))]; decide, by rw [show outC S x y q = 2 from (if_pos hx).trans ((if_pos hO).trans (if_neg hBt))]; exact hT⟩⟩
        · obtain ⟨hc, e9⟩ := hp5
          exact absurd hc (by decide)
    · obtain ⟨rfl, hBo⟩ := hp2
      have hO : ¬ isO S (cl x) y := fun z => hBo ((out_b hou).mpr z)
      refine h_if_ne (tgt := 30) C dX9_out_23 (by decide) (fun c7 => absurd c7 (by decide)) (fun c7 => ?_)
      refine h_iconst (v := 1) C dX9_out_26 (by decide) ?_
      refine h_goto (tgt := 47) C dX9_out_27 (by decide) ?_
      refine h_callV1 (ci := 9) C (k_X9_isWrong Z.l Z.G (Q 0) _ hM.kX (1)) cw_X9_215 im_X9_isWrong sl_X9_isWrong rfl (by decide) hM.kX dX9_out_47 (by first | decide | exact Nat.le_of_ble_eq_true rfl) (by decide) (by decide) (by decide) (by decide) (kB (fun μ6 hp6 => ?_) (fun μ6 hp6 => ?_)) kN
      · obtain ⟨hc, e9⟩ := hp6
        have hT := hT.sfi (Or.inr trivial) e9 (hT.1.w290 e9)
        have hM := hT.1
        refine h_if_eq (tgt := 55) C dX9_out_50 (by decide) (fun c8 => absurd c8 (by decide)) (fun c8 => ?_)
        refine h_iconst (v := 0) C dX9_out_53 (by decide) ?_
        refine h_iret C E dX9_out_54 (by decide) (by decide) ?_
        exact ⟨_, rfl, Or.inr ⟨by rw [show outC S x y q = 1 from (if_pos hx).trans (if_neg hO)]; decide, by rw [show outC S x y q = 1 from (if_pos hx).trans (if_neg hO)]; exact hT⟩⟩
      · obtain ⟨hc, e9⟩ := hp6
        exact absurd hc (by decide)
  · obtain ⟨rfl, hx⟩ := hp1
    refine h_if_eq (tgt := 26) C dX9_out_5 (by decide) (fun c9 => ?_) (fun c9 => absurd (by decide) c9)
    refine h_iconst (v := 1) C dX9_out_26 (by decide) ?_
    refine h_goto (tgt := 47) C dX9_out_27 (by decide) ?_
    refine h_callV1 (ci := 9) C (k_X9_isWrong Z.l Z.G (Q 0) _ hM.kX (1)) cw_X9_215 im_X9_isWrong sl_X9_isWrong rfl (by decide) hM.kX dX9_out_47 (by first | decide | exact Nat.le_of_ble_eq_true rfl) (by decide) (by decide) (by decide) (by decide) (kB (fun μ7 hp7 => ?_) (fun μ7 hp7 => ?_)) kN
    · obtain ⟨hc, e9⟩ := hp7
      have hT := hT.sfi (Or.inr trivial) e9 (hT.1.w290 e9)
      have hM := hT.1
      refine h_if_eq (tgt := 55) C dX9_out_50 (by decide) (fun c10 => absurd c10 (by decide)) (fun c10 => ?_)
      refine h_iconst (v := 0) C dX9_out_53 (by decide) ?_
      refine h_iret C E dX9_out_54 (by decide) (by decide) ?_
      exact ⟨_, rfl, Or.inr ⟨by rw [show outC S x y q = 1 from if_neg hx]; decide, by rw [show outC S x y q = 1 from if_neg hx]; exact hT⟩⟩
    · obtain ⟨hc, e9⟩ := hp7
      exact absurd hc (by decide)

set_option maxRecDepth 100000 in
set_option maxHeartbeats 1000000 in
theorem bl_X9_mA {Z : Zx} {mc ms k n : Nat} {Q : Nat → Nat} {S : Sx} {t : Int32} {μ : Mem} {a j c : Nat} {u : Int64} (C : Cx Z RX9 cX9_meanAge 1 mc ms 23) (hM : MRq Q S (LXo S t) μ) (hk : k ≤ mc) (hn : n ≤ ms) (ha : a < 3) (hj : j < 3) (hself : S.ses a a 1 = none) (hc : c < 1000)
    (kk : ∀ (u9 : Int64) (c9 : Nat), (u9, nI c9) = MAs S a j (u, nI c) → c9 ≤ c + 1 → HW Z k n 16 [some (.ref (Q 0)), some (.long u9), none, some (.long (nI c9).toInt64), none, some (.int (nI a)), some (.int (nI (j + 1)))] [] μ) : HW Z k n 16 [some (.ref (Q 0)), some (.long u), none, some (.long (nI c).toInt64), none, some (.int (nI a)), some (.int (nI j))] [] μ := by
  refine h_iload_w C dX9_meanAge_16 rfl ?_
  refine h_iconst (v := 3) C dX9_meanAge_18 (by decide) ?_
  refine h_icmp_ge (tgt := 64) C dX9_meanAge_19 (by decide) (fun c1 => absurd c1 ((by exact nI_ge (b := 3) (by omega) (by decide)))) (fun c1 => ?_)
  refine h_iload_w C dX9_meanAge_22 rfl ?_
  refine h_iload_w C dX9_meanAge_24 rfl ?_
  refine h_icmp_eq (tgt := 58) C dX9_meanAge_26 (by decide) (fun cA => ?_) (fun cA => ?_)
  · have haj : j = a := (nI_eq (by omega) (by omega)).mp cA
    subst haj
    refine h_iinc_6 (q := 1) C dX9_meanAge_58 (by decide) ct_i ?_
    refine h_goto (tgt := 16) C dX9_meanAge_61 (by decide) ?_
    rw [nI_1]
    exact kk _ c (by unfold MAs; rw [hself]) (by omega)
  · refine h_al_g C dX9_meanAge_29 rfl rfl rfv_r ?_
    refine h_iload_w C dX9_meanAge_30 rfl ?_
    refine h_iload_w C dX9_meanAge_32 rfl ?_
    refine h_iconst (v := 1) C dX9_meanAge_34 (by decide) ?_
    refine h_callV3 (ci := 9) C (k_X9_isThere Z.l Z.G Q S _ _ hM _ ha _ rfl _ hj _ rfl 1 (by decide) 1 rfl) cw_X9_166 im_X9_isThere sl_X9_isThere rfl (by decide) hM.kX dX9_meanAge_35 (by first | decide | exact Nat.le_of_ble_eq_true rfl) (by decide) (by decide) (by omega) (by omega) (kB (fun μ1 hp1 => ?_) (fun μ1 hp1 => ?_)) kN
    · obtain ⟨rfl, r, hr⟩ := hp1
      refine h_if_eq (tgt := 58) C dX9_meanAge_38 (by decide) (fun c3 => absurd c3 (by decide)) (fun c3 => ?_)
      refine h_lload_g C dX9_meanAge_41 rfl rfl ?_
      refine h_al_g C dX9_meanAge_42 rfl rfl rfv_r ?_
      refine h_iload_w C dX9_meanAge_43 rfl ?_
      refine h_iload_w C dX9_meanAge_45 rfl ?_
      refine h_iconst (v := 1) C dX9_meanAge_47 (by decide) ?_
      refine h_callV3 (ci := 9) C (k_X9_age Z.l Z.G Q S _ _ hM _ ha _ rfl _ hj _ rfl 1 (by decide) 1 rfl r hr) cw_X9_170 im_X9_age sl_X9_age rfl (by decide) hM.kX dX9_meanAge_48 (by first | decide | exact Nat.le_of_ble_eq_true rfl) (by decide) (by decide) (by omega) (by omega) (kI fun r2 μ2 hp2 => ?_) kN
      obtain ⟨rfl, rfl⟩ := hp2
      refine h_i2l C dX9_meanAge_51 ?_
      refine h_ladd C dX9_meanAge_52 ?_
      refine h_lst_1 C dX9_meanAge_53 ct_r ?_
      refine h_lload_g C dX9_meanAge_54 rfl rfl ?_
      refine h_lconst (v := 1) C dX9_meanAge_55 (by decide) ?_
      refine h_ladd C dX9_meanAge_56 ?_
      refine h_lst_3 C dX9_meanAge_57 ct_n ?_
      refine h_iinc_6 (q := 1) C dX9_meanAge_58 (by decide) ct_i ?_
      refine h_goto (tgt := 16) C dX9_meanAge_61 (by decide) ?_
      rw [nI_1, cnt_s hc]
      exact kk _ (c + 1) (by unfold MAs; rw [hr]; show (_, nI (c + 1)) = (_, nI c + 1); rw [nI_1]) (by omega)
    · obtain ⟨rfl, hr⟩ := hp1
      refine h_if_eq (tgt := 58) C dX9_meanAge_38 (by decide) (fun c4 => ?_) (fun c4 => absurd (by decide) c4)
      refine h_iinc_6 (q := 1) C dX9_meanAge_58 (by decide) ct_i ?_
      refine h_goto (tgt := 16) C dX9_meanAge_61 (by decide) ?_
      rw [nI_1]
      exact kk _ c (by unfold MAs; rw [hr]) (by omega)

set_option maxRecDepth 100000 in
set_option maxHeartbeats 1000000 in
theorem bl_X9_mB {Z : Zx} {mc ms k n : Nat} {Q : Nat → Nat} {μ : Mem} {a c : Nat} {u : Int64} (C : Cx Z RX9 cX9_meanAge 1 mc ms 23) (kk : ∀ z6 : Option Value, HW Z k n 7 [some (.ref (Q 0)), some (.long u), none, some (.long (nI c).toInt64), none, some (.int (nI (a + 1))), z6] [] μ) : HW Z k n 16 [some (.ref (Q 0)), some (.long u), none, some (.long (nI c).toInt64), none, some (.int (nI a)), some (.int (nI 3))] [] μ := by
  refine h_iload_w C dX9_meanAge_16 rfl ?_
  refine h_iconst (v := 3) C dX9_meanAge_18 (by decide) ?_
  refine h_icmp_ge (tgt := 64) C dX9_meanAge_19 (by decide) (fun c1 => ?_) (fun c1 => absurd (by decide) c1)
  refine h_iinc_5 (q := 1) C dX9_meanAge_64 (by decide) ct_n ?_
  refine h_goto (tgt := 7) C dX9_meanAge_67 (by decide) ?_
  rw [nI_1]
  exact kk _

set_option maxRecDepth 100000 in
set_option maxHeartbeats 1000000 in
theorem bl_X9_mC {Z : Zx} {mc ms k n : Nat} {Q : Nat → Nat} {S : Sx} {t : Int32} {μ : Mem} {a c : Nat} {u : Int64} (C : Cx Z RX9 cX9_meanAge 1 mc ms 23) (hM : MRq Q S (LXo S t) μ) (hk : k ≤ mc) (hn : n ≤ ms) (ha : a < 3) (hself : S.ses a a 1 = none) (hc : c < 900)
    (kk : ∀ (u9 : Int64) (c9 : Nat) (z6 : Option Value), (u9, nI c9) = MAe S a (u, nI c) → c9 ≤ c + 3 → HW Z k n 7 [some (.ref (Q 0)), some (.long u9), none, some (.long (nI c9).toInt64), none, some (.int (nI (a + 1))), z6] [] μ) : ∀ z6 : Option Value, HW Z k n 7 [some (.ref (Q 0)), some (.long u), none, some (.long (nI c).toInt64), none, some (.int (nI a)), z6] [] μ := by
  intro z6
  have kk := bl_X9_mA C hM hk hn ha (j := 0) (by decide) hself (u := u) (c := c) (by omega) (fun u1 c1 e1 h1 => bl_X9_mA C hM hk hn ha (j := 1) (by decide) hself (by omega) (fun u2 c2 e2 h2 => bl_X9_mA C hM hk hn ha (j := 2) (by decide) hself (by omega) (fun u3 c3 e3 h3 => bl_X9_mB C (fun z6 => kk u3 c3 z6 (by unfold MAe; rw [e3, e2, e1]) (by omega)))))
  refine h_iload_w C dX9_meanAge_7 rfl ?_
  refine h_iconst (v := 3) C dX9_meanAge_9 (by decide) ?_
  refine h_icmp_ge (tgt := 70) C dX9_meanAge_10 (by decide) (fun c1 => absurd c1 ((by exact nI_ge (b := 3) (by omega) (by decide)))) (fun c1 => ?_)
  refine h_iconst (v := 0) C dX9_meanAge_13 (by decide) ?_
  refine h_ist_6 C dX9_meanAge_14 ct_i ?_
  exact kk

set_option maxRecDepth 100000 in
set_option maxHeartbeats 1000000 in
theorem bl_X9_mD {Z : Zx} {mc ms : Nat} {Post : Option Value → Mem → Prop} {PostX : String → Mem → Prop} {Q : Nat → Nat} {S : Sx} {μ : Mem} {c : Nat} {u : Int64} (C : Cx Z RX9 cX9_meanAge 1 mc ms 23) (E : Rt Z mc ms (some .double) Post PostX) (he : (u, nI c) = MAe S 2 (MAe S 1 (MAe S 0 (0, 0)))) (hP : ∀ v, v = MEA S → Post (some (.double v)) μ) : ∀ z6 : Option Value, HW Z 0 0 7 [some (.ref (Q 0)), some (.long u), none, some (.long (nI c).toInt64), none, some (.int (nI 3)), z6] [] μ := by
  intro z6
  refine h_iload_w C dX9_meanAge_7 rfl ?_
  refine h_iconst (v := 3) C dX9_meanAge_9 (by decide) ?_
  refine h_icmp_ge (tgt := 70) C dX9_meanAge_10 (by decide) (fun c1 => ?_) (fun c1 => absurd (by decide) c1)
  refine h_lload_g C dX9_meanAge_70 rfl rfl ?_
  refine h_lconst (v := 0) C dX9_meanAge_71 (by decide) ?_
  refine h_lcmp C dX9_meanAge_72 ?_
  refine h_if_ne (tgt := 80) C dX9_meanAge_73 (by decide) (fun cA => ?_) (fun cA => ?_)
  · have hcz : ¬ nI c = 0 := fun z => cA (by rw [z]; decide)
    refine h_lload_g C dX9_meanAge_80 rfl rfl ?_
    refine h_l2d C dX9_meanAge_81 ?_
    refine h_lload_g C dX9_meanAge_82 rfl rfl ?_
    refine h_l2d C dX9_meanAge_83 ?_
    rw [l2d_i]
    refine h_ddiv C dX9_meanAge_84 (vf64_i _ _ hcz) ?_
    refine h_dret C E dX9_meanAge_85 (Nat.zero_le _) (Nat.zero_le _) ?_
    exact hP _ (by unfold MEA; rw [← he]; exact (if_neg hcz).symm)
  · have hcz : nI c = 0 := by
      have h9 : (nI c).toInt64 = 0 := (lg_cmp_eq _ _).mp cA
      have h8 := congrArg Int64.toInt h9
      rw [Int32.toInt_toInt64] at h8
      exact Int32.toInt_inj.mp h8
    refine h_dconst0 C dX9_meanAge_76 ?_
    refine h_goto (tgt := 85) C dX9_meanAge_77 (by decide) ?_
    refine h_dret C E dX9_meanAge_85 (Nat.zero_le _) (Nat.zero_le _) ?_
    exact hP _ (by unfold MEA; rw [← he]; exact (if_pos hcz).symm)

set_option maxRecDepth 100000 in
set_option maxHeartbeats 1000000 in
theorem k_X9_meanAge (l : Launch) (G : Gx) (Q : Nat → Nat) (S : Sx) (t : Int32) (μ : Mem) (hM : MRq Q S (LXo S t) μ) (hW : okW S) : Kon l yX9_meanAge cX9_meanAge 7 (some .double) 1 0 0 23 G [.ref (Q 0)] μ (pD fun v μ' => μ = μ' ∧ v = MEA S) noX := by
  refine Kon.ofG (by decide +kernel) (Nat.le_of_ble_eq_true rfl) (Nat.le_of_ble_eq_true rfl) (fun Z hZG C E NT MT => ?_)
  subst hZG
  have C : Cx Z RX9 cX9_meanAge 1 0 0 23 := C
  show HW Z 0 0 0 [some (.ref (Q 0)), none, none, none, none, none, none] [] μ
  have hself : ∀ a, a < 3 → S.ses a a 1 = none := fun a ha => hW.2.2.2.2.2.2.1 a 1 ha (by decide)
  refine h_lconst (v := 0) C dX9_meanAge_0 (by decide) ?_
  refine h_lst_1 C dX9_meanAge_1 ct_r ?_
  refine h_lconst (v := 0) C dX9_meanAge_2 (by decide) ?_
  refine h_lst_3 C dX9_meanAge_3 ct_n ?_
  refine h_iconst (v := 0) C dX9_meanAge_4 (by decide) ?_
  refine h_ist_5 C dX9_meanAge_5 ct_n ?_
  exact bl_X9_mC C hM (Nat.zero_le _) (Nat.zero_le _) (a := 0) (c := 0) (by decide) (hself 0 (by decide)) (by decide) (fun u1 c1 z1 e1 h1 => bl_X9_mC C hM (Nat.zero_le _) (Nat.zero_le _) (a := 1) (by decide) (hself 1 (by decide)) (by omega) (fun u2 c2 z2 e2 h2 => bl_X9_mC C hM (Nat.zero_le _) (Nat.zero_le _) (a := 2) (by decide) (hself 2 (by decide)) (by omega) (fun u3 c3 z3 e3 h3 => bl_X9_mD C E (by rw [e3, e2, e1]; rfl) (fun v hv => ⟨v, rfl, rfl, hv⟩) z3) z2) z1) none

end
