section
abbrev okT (S : Sx) : Prop := 0 ≤ (S.sc 0).toInt ∧ (S.sc 0).toInt ≤ 500000000
def passC (S : Sx) (x : Int32) : Int32 := if inR x 1 60 then (if (S.sc 0).toInt + x.toInt ≤ 500000000 then 0 else 2) else 1
def freeA (S : Sx) (e : Nat) (y : Int32) : Prop := ∀ i, i < 3 → i = e ∨ ¬ S.ef 0 i = y
def movC (S : Sx) (x y : Int32) : Int32 := if isE x then (if inR y 1 99 then (if (0 = cl x ∨ ¬ S.ef 0 0 = y) ∧ (1 = cl x ∨ ¬ S.ef 0 1 = y) ∧ (2 = cl x ∨ ¬ S.ef 0 2 = y) then 0 else 2) else 2) else 1
theorem FWA_some {S : Sx} {x : Int32} {e : Nat} (h : FWA S x = some e) : e < 3 ∧ S.ef 0 e = x ∧ ∀ i, i < e → ¬ S.ef 0 i = x := by
  unfold FWA at h
  by_cases c0 : S.ef 0 0 = x
  · rw [if_pos c0] at h; cases h; exact ⟨by decide, c0, fun i hi => absurd hi (Nat.not_lt_zero _)⟩
  · rw [if_neg c0] at h
    by_cases c1 : S.ef 0 1 = x
    · rw [if_pos c1] at h; cases h; exact ⟨by decide, c1, fun i hi => by
        have h0 : i = 0 := by omega
        rw [h0]; exact c0⟩
    · rw [if_neg c1] at h
      by_cases c2 : S.ef 0 2 = x
      · rw [if_pos c2] at h; cases h; exact ⟨by decide, c2, fun i hi => by
          have : i = 0 ∨ i = 1 := by omega
          rcases this with rfl | rfl
          · exact c0
          · exact c1⟩
      · rw [if_neg c2] at h; cases h
theorem FWA_none {S : Sx} {x : Int32} (h : FWA S x = none) : ∀ i, i < 3 → ¬ S.ef 0 i = x := by
  unfold FWA at h
  by_cases c0 : S.ef 0 0 = x
  · rw [if_pos c0] at h; cases h
  · rw [if_neg c0] at h
    by_cases c1 : S.ef 0 1 = x
    · rw [if_pos c1] at h; cases h
    · rw [if_neg c1] at h
      by_cases c2 : S.ef 0 2 = x
      · rw [if_pos c2] at h; cases h
      · intro i hi
        have : i = 0 ∨ i = 1 ∨ i = 2 := by omega
        rcases this with rfl | rfl | rfl
        · exact c0
        · exact c1
        · exact c2
set_option maxRecDepth 100000 in
set_option maxHeartbeats 4000000 in
theorem k_X8_pass (l : Launch) (G : Gx) (P : Nat → Nat) (S : Sx) (μ : Mem) (hC : CRep G P S μ) (x : Int32) (hT : okT S) : Kon l yX8_pass cX8_pass 2 (some .int) 6 1 6 82 G [.ref (P 0), .int x] μ (pI fun v μ' => passC S x = 0 ∧ CTo G P μ (S.sSc 0 (S.sc 0 + x)) μ' ∧ v = S.sc 0 + x) (PX2 xIAE xISE (passC S x) μ) := by
  refine Kon.ofG (by decide +kernel) (Nat.le_of_ble_eq_true rfl) (Nat.le_of_ble_eq_true rfl) (fun Z hZG C E NT MT => ?_)
  subst hZG
  have C : Cx Z RX8 cX8_pass 6 1 6 82 := C
  show HW Z 0 0 0 [some (.ref (P 0)), some (.int x)] [] μ
  refine h_iload_g C dX8_pass_0 rfl rfl ?_
  refine h_iconst (v := 1) C dX8_pass_1 (by decide) ?_
  refine h_icmp_lt (tgt := 11) C dX8_pass_2 (by decide) (fun c1 => ?_) (fun c1 => ?_)
  · exact h_throw C E NT (by decide +kernel) xNames_fit kl_X8_39 xini_IAE xs_41 xat_IAE dX8_pass_11 dX8_pass_14 dX8_pass_15 dX8_pass_17 dX8_pass_20 (by decide) (by decide) (by decide) (by decide) (by decide) (by decide) ⟨rfl, Or.inl ⟨rfl, if_neg fun h => by simp only [Int32.lt_iff_toInt_lt, Int32.le_iff_toInt_le, tl_m10000, tl_m1000, tl_m500, tl_m7, tl_m6, tl_m5, tl_m4, tl_m3, tl_m2, tl_m1, tl_0, tl_1, tl_2, tl_3, tl_4, tl_5, tl_6, tl_7, tl_8, tl_9, tl_10, tl_11, tl_15, tl_16, tl_20, tl_30, tl_40, tl_60, tl_99, tl_100, tl_211, tl_255, tl_307, tl_500, tl_1018, tl_2038, tl_2039, tl_9999, tl_10000, tl_65280, tl_65520, tl_65521, tl_1000000, tl_500000000] at c1; have h9 := h; simp only [inR, tl_1, tl_60] at h9; omega⟩⟩
  · refine h_iload_g C dX8_pass_5 rfl rfl ?_
    refine h_bipush (v := 60) C dX8_pass_6 (by decide) ?_
    refine h_icmp_le (tgt := 21) C dX8_pass_8 (by decide) (fun c2 => ?_) (fun c2 => ?_)
    · have hr : inR x 1 60 := by
        simp only [Int32.lt_iff_toInt_lt, Int32.le_iff_toInt_le, tl_m10000, tl_m1000, tl_m500, tl_m7, tl_m6, tl_m5, tl_m4, tl_m3, tl_m2, tl_m1, tl_0, tl_1, tl_2, tl_3, tl_4, tl_5, tl_6, tl_7, tl_8, tl_9, tl_10, tl_11, tl_15, tl_16, tl_20, tl_30, tl_40, tl_60, tl_99, tl_100, tl_211, tl_255, tl_307, tl_500, tl_1018, tl_2038, tl_2039, tl_9999, tl_10000, tl_65280, tl_65520, tl_65521, tl_1000000, tl_500000000] at c1 c2
        exact ⟨by show (1 : Int32).toInt ≤ _; rw [tl_1]; omega, by show _ ≤ (60 : Int32).toInt; rw [tl_60]; omega⟩
      have hr2 := hr
      simp only [inR, Int32.lt_iff_toInt_lt, Int32.le_iff_toInt_le, tl_m10000, tl_m1000, tl_m500, tl_m7, tl_m6, tl_m5, tl_m4, tl_m3, tl_m2, tl_m1, tl_0, tl_1, tl_2, tl_3, tl_4, tl_5, tl_6, tl_7, tl_8, tl_9, tl_10, tl_11, tl_15, tl_16, tl_20, tl_30, tl_40, tl_60, tl_99, tl_100, tl_211, tl_255, tl_307, tl_500, tl_1018, tl_2038, tl_2039, tl_9999, tl_10000, tl_65280, tl_65520, tl_65521, tl_1000000, tl_500000000] at hr2
      have e3 : (500000000 - x : Int32).toInt = 500000000 - x.toInt := by rw [fb_subI (by rw [tl_500000000]; omega) (by rw [tl_500000000]; omega), tl_500000000]
      refine h_al_g C dX8_pass_21 rfl rfl rfv_r ?_
      refine gf_X8_26 C dX8_pass_22 (CRep.kX hC) (CRep.f259 hC) ?_
      refine h_ldc C kc_X8_46 dX8_pass_25 ?_
      refine h_iload_g C dX8_pass_27 rfl rfl ?_
      refine h_isub C dX8_pass_28 ?_
      refine h_icmp_le (tgt := 42) C dX8_pass_29 (by decide) (fun c3 => ?_) (fun c3 => ?_)
      · rw [Int32.le_iff_toInt_le, e3] at c3
        refine h_al_g C dX8_pass_42 rfl rfl rfv_r ?_
        refine h_dup C dX8_pass_43 rfl ?_
        refine gf_X8_26 C dX8_pass_44 (CRep.kX hC) (CRep.f259 hC) ?_
        refine h_iload_g C dX8_pass_47 rfl rfl ?_
        refine h_iadd C dX8_pass_48 ?_
        refine pf_X8_26 C dX8_pass_49 (CRep.kX hC) ?_
        have hTo := CTo.s259 hC (S.sc 0 + x)
        refine h_al_g C dX8_pass_52 rfl rfl rfv_r ?_
        refine gf_X8_26 C dX8_pass_53 (CRep.kX hTo.1) ((CRep.f259 hTo.1).trans sc_at) ?_
        refine h_iret C E dX8_pass_56 (by decide) (by decide) ?_
        exact ⟨_, rfl, (if_pos hr).trans (if_pos (by omega)), hTo, rfl⟩
      · rw [Int32.le_iff_toInt_le, e3] at c3
        exact h_throw C E NT (by decide +kernel) xNames_fit kl_X8_47 xini_ISE xs_49 xat_ISE dX8_pass_32 dX8_pass_35 dX8_pass_36 dX8_pass_38 dX8_pass_41 (by decide) (by decide) (by decide) (by decide) (by decide) (by decide) ⟨rfl, Or.inr ⟨rfl, (if_pos hr).trans (if_neg (by omega))⟩⟩
    · exact h_throw C E NT (by decide +kernel) xNames_fit kl_X8_39 xini_IAE xs_41 xat_IAE dX8_pass_11 dX8_pass_14 dX8_pass_15 dX8_pass_17 dX8_pass_20 (by decide) (by decide) (by decide) (by decide) (by decide) (by decide) ⟨rfl, Or.inl ⟨rfl, if_neg fun h => by simp only [Int32.lt_iff_toInt_lt, Int32.le_iff_toInt_le, tl_m10000, tl_m1000, tl_m500, tl_m7, tl_m6, tl_m5, tl_m4, tl_m3, tl_m2, tl_m1, tl_0, tl_1, tl_2, tl_3, tl_4, tl_5, tl_6, tl_7, tl_8, tl_9, tl_10, tl_11, tl_15, tl_16, tl_20, tl_30, tl_40, tl_60, tl_99, tl_100, tl_211, tl_255, tl_307, tl_500, tl_1018, tl_2038, tl_2039, tl_9999, tl_10000, tl_65280, tl_65520, tl_65521, tl_1000000, tl_500000000] at c2; have h9 := h; simp only [inR, tl_1, tl_60] at h9; omega⟩⟩

set_option maxRecDepth 100000 in
set_option maxHeartbeats 4000000 in
theorem k_X8_load (l : Launch) (G : Gx) (P : Nat → Nat) (S : Sx) (μ : Mem) (hC : CRep G P S μ) (x z : Int32) (hz : z = 0 ∨ z = 1) (hB : ∀ e, e < 3 → S.ef 1 e = 0 ∨ S.ef 1 e = 1) : Kon l yX8_load cX8_load 5 (some .boolean) 7 1 6 103 G [.ref (P 0), .int x, .int z] μ (pI fun v μ' => endC x = 0 ∧ CTo G P μ (S.sEf 1 (cl x) z) μ' ∧ v = S.ef 1 (cl x)) (PX1 xIOB (endC x) μ) := by
  refine Kon.ofG (by decide +kernel) (Nat.le_of_ble_eq_true rfl) (Nat.le_of_ble_eq_true rfl) (fun Z hZG C E NT MT => ?_)
  subst hZG
  have C : Cx Z RX8 cX8_load 7 1 6 103 := C
  show HW Z 0 0 0 [some (.ref (P 0)), some (.int x), some (.int z), none, none] [] μ
  refine h_al_g C dX8_load_0 rfl rfl rfv_r ?_
  refine h_iload_g C dX8_load_1 rfl rfl ?_
  refine h_callV1 (ci := 8) C (k_X8_endAt Z.l Z.G P S _ hC x) cw_X8_52 im_X8_endAt sl_X8_endAt rfl (by decide) (CRep.kX hC) dX8_load_2 (by first | decide | exact Nat.le_of_ble_eq_true rfl) (by decide) (by decide) (by decide) (by decide) (kA fun r1 μ1 hp1 => ?_) (fun X9 μ9 hx9 => ?_)
  · obtain ⟨rfl, hx, rfl⟩ := hp1
    have he := hx.lt
    refine h_ast_3 C dX8_load_5 ct_i rfv_r ?_
    refine h_al_g C dX8_load_6 rfl rfl rfv_r ?_
    refine gf_X8_68 C dX8_load_7 (CRep.kE hC (by assumption)) (CRep.f38 hC (by assumption)) ?_
    refine h_ist_4 C dX8_load_10 ct_r ?_
    refine h_al_g C dX8_load_12 rfl rfl rfv_r ?_
    refine h_iload_g C dX8_load_13 rfl rfl ?_
    refine pf_X8_68 C dX8_load_14 (CRep.kE hC (by assumption)) hz ?_
    have hTo := CTo.s38 hC he z
    refine h_iload_w C dX8_load_17 rfl ?_
    refine h_zret C E dX8_load_19 (by decide) (by decide) (hB _ he) ?_
    exact ⟨_, rfl, if_pos hx, hTo, rfl⟩
  · exact hx_out C E NT (by decide) (by decide) ⟨hx9.2.1, hx9.1, if_neg hx9.2.2⟩

set_option maxRecDepth 100000 in
set_option maxHeartbeats 4000000 in
theorem k_X8_move (l : Launch) (G : Gx) (P : Nat → Nat) (S : Sx) (μ : Mem) (hC : CRep G P S μ) (x y : Int32) (hD : ∀ i j, i < 3 → j < 3 → S.ef 0 i = S.ef 0 j → i = j) : Kon l yX8_move cX8_move 6 (some .int) 7 3 18 104 G [.ref (P 0), .int x, .int y] μ (pI fun v μ' => movC S x y = 0 ∧ CTo G P μ (S.sEf 0 (cl x) y) μ' ∧ v = S.ef 0 (cl x)) (PX2 xIOB xIAE (movC S x y) μ) := by
  refine Kon.ofG (by decide +kernel) (Nat.le_of_ble_eq_true rfl) (Nat.le_of_ble_eq_true rfl) (fun Z hZG C E NT MT => ?_)
  subst hZG
  have C : Cx Z RX8 cX8_move 7 3 18 104 := C
  show HW Z 0 0 0 [some (.ref (P 0)), some (.int x), some (.int y), none, none, none] [] μ
  refine h_al_g C dX8_move_0 rfl rfl rfv_r ?_
  refine h_iload_g C dX8_move_1 rfl rfl ?_
  refine h_callV1 (ci := 8) C (k_X8_endAt Z.l Z.G P S _ hC x) cw_X8_52 im_X8_endAt sl_X8_endAt rfl (by decide) (CRep.kX hC) dX8_move_2 (by first | decide | exact Nat.le_of_ble_eq_true rfl) (by decide) (by decide) (by decide) (by decide) (kA fun r1 μ1 hp1 => ?_) (fun X9 μ9 hx9 => ?_)
  · obtain ⟨rfl, hx, rfl⟩ := hp1
    have he := hx.lt
    refine h_ast_3 C dX8_move_5 ct_i rfv_r ?_
    refine h_iload_g C dX8_move_6 rfl rfl ?_
    refine h_iconst (v := 1) C dX8_move_7 (by decide) ?_
    refine h_bipush (v := 99) C dX8_move_8 (by decide) ?_
    refine h_callS3 C (k_X8_checkRange Z.l Z.G (y) (1) (99) _) cw_X8_56 st_X8_checkRange dX8_move_10 (by first | decide | exact Nat.le_of_ble_eq_true rfl) (by decide) (by decide) (by decide) (by decide) (kV fun μ2 hp2 => ?_) (fun X9 μ9 hx9 => ?_)
    · obtain ⟨rfl, hr⟩ := hp2
      refine h_al_g C dX8_move_13 rfl rfl rfv_r ?_
      refine h_iload_g C dX8_move_14 rfl rfl ?_
      refine h_callV1 (ci := 8) C (k_X8_endWithAddress Z.l Z.G P S _ hC y) cw_X8_60 im_X8_endWithAddress sl_X8_endWithAddress rfl (by decide) (CRep.kX hC) dX8_move_15 (by first | decide | exact Nat.le_of_ble_eq_true rfl) (by decide) (by decide) (by decide) (by decide) (kO (fun μ3 hp3 => ?_) (fun r3 μ3 hp3 => ?_)) kN
      · obtain ⟨rfl, hF⟩ := hp3
        have hall : ∀ i, i < 3 → i = cl x ∨ ¬ S.ef 0 i = y := fun i hi => Or.inr (FWA_none hF i hi)
        refine h_ast_4 C dX8_move_18 ct_r rfv_n ?_
        refine h_al_w (j := 0) C dX8_move_20 rfl rfv_n ?_
        refine h_ifnull_n (tgt := 41) C dX8_move_22 (by decide) ?_
        have hfr : (0 = cl x ∨ ¬ S.ef 0 0 = y) ∧ (1 = cl x ∨ ¬ S.ef 0 1 = y) ∧ (2 = cl x ∨ ¬ S.ef 0 2 = y) := ⟨hall 0 (by decide), hall 1 (by decide), hall 2 (by decide)⟩
        refine h_al_g C dX8_move_41 rfl rfl rfv_r ?_
        refine gf_X8_65 C dX8_move_42 (CRep.kE hC (by assumption)) (CRep.f37 hC (by assumption)) ?_
        refine h_ist_5 C dX8_move_45 ct_u ?_
        refine h_al_g C dX8_move_47 rfl rfl rfv_r ?_
        refine h_iload_g C dX8_move_48 rfl rfl ?_
        refine pf_X8_65 C dX8_move_49 (CRep.kE hC (by assumption)) ?_
        have hTo := CTo.s37 hC he y
        refine h_iload_w C dX8_move_52 rfl ?_
        refine h_iret C E dX8_move_54 (by decide) (by decide) ?_
        exact ⟨_, rfl, (if_pos hx).trans ((if_pos hr).trans (if_pos hfr)), hTo, rfl⟩
      · obtain ⟨rfl, e1, he1, hF, rfl⟩ := hp3
        obtain ⟨_, hF2, hF3⟩ := FWA_some hF
        refine h_ast_4 C dX8_move_18 ct_r rfv_r ?_
        refine h_al_w (j := 0) C dX8_move_20 rfl rfv_r ?_
        refine h_ifnull_r C dX8_move_22 ?_
        refine h_al_w (j := 0) C dX8_move_25 rfl rfv_r ?_
        refine h_al_g C dX8_move_27 rfl rfl rfv_r ?_
        refine (h_acmp_eq (rx := (some _)) (ry := (some _)) (tgt := 41) C dX8_move_28 (by decide) (fun c1 => ?_) (fun c1 => ?_))
        · have ee : e1 = cl x := by
            have := hC.1.inj (i := 4 + e1) (j := 4 + cl x) (by omega) (by omega)
            exact Decidable.byContradiction fun z => this (by omega) (Option.some.inj c1)
          have hall : ∀ i, i < 3 → i = cl x ∨ ¬ S.ef 0 i = y := fun i hi => (Decidable.em (i = cl x)).imp id (fun z w => z (hD i (cl x) hi he (by rw [w, ← hF2, ee])))
          have hfr : (0 = cl x ∨ ¬ S.ef 0 0 = y) ∧ (1 = cl x ∨ ¬ S.ef 0 1 = y) ∧ (2 = cl x ∨ ¬ S.ef 0 2 = y) := ⟨hall 0 (by decide), hall 1 (by decide), hall 2 (by decide)⟩
          refine h_al_g C dX8_move_41 rfl rfl rfv_r ?_
          refine gf_X8_65 C dX8_move_42 (CRep.kE hC (by assumption)) (CRep.f37 hC (by assumption)) ?_
          refine h_ist_5 C dX8_move_45 ct_r ?_
          refine h_al_g C dX8_move_47 rfl rfl rfv_r ?_
          refine h_iload_g C dX8_move_48 rfl rfl ?_
          refine pf_X8_65 C dX8_move_49 (CRep.kE hC (by assumption)) ?_
          have hTo := CTo.s37 hC he y
          refine h_iload_w C dX8_move_52 rfl ?_
          refine h_iret C E dX8_move_54 (by decide) (by decide) ?_
          exact ⟨_, rfl, (if_pos hx).trans ((if_pos hr).trans (if_pos hfr)), hTo, rfl⟩
        · exact h_throw C E NT (by decide +kernel) xNames_fit kl_X8_39 xini_IAE xs_63 xat_IAE dX8_move_31 dX8_move_34 dX8_move_35 dX8_move_37 dX8_move_40 (by decide) (by decide) (by decide) (by decide) (by decide) (by decide) ⟨rfl, Or.inr ⟨rfl, (if_pos hx).trans ((if_pos hr).trans (if_neg fun z => by
      have hne : ¬ e1 = cl x := fun w => c1 (by rw [w])
      have h9 : e1 = 0 ∨ e1 = 1 ∨ e1 = 2 := by omega
      rcases h9 with rfl | rfl | rfl
      · exact z.1.elim hne (fun k => k hF2)
      · exact z.2.1.elim hne (fun k => k hF2)
      · exact z.2.2.elim hne (fun k => k hF2)))⟩⟩
    · exact hx_out C E NT (by decide) (by decide) ⟨hx9.2.1, Or.inr ⟨hx9.1, (if_pos hx).trans (if_neg hx9.2.2)⟩⟩
  · exact hx_out C E NT (by decide) (by decide) ⟨hx9.2.1, Or.inl ⟨hx9.1, if_neg hx9.2.2⟩⟩

set_option maxRecDepth 100000 in
set_option maxHeartbeats 4000000 in
theorem k_X8_lose (l : Launch) (G : Gx) (P : Nat → Nat) (S : Sx) (μ : Mem) (hC : CRep G P S μ) (x : Int32) : Kon l yX8_lose cX8_lose 2 (some .int) 7 1 6 103 G [.ref (P 0), .int x] μ (pI fun v μ' => letC S x = 0 ∧ CTo G P μ (S.sNt (S.nt.eraseIdx (cl x))) μ' ∧ v = nI (S.nt.eraseIdx (cl x)).length) (PX1 xIOB (letC S x) μ) := by
  refine Kon.ofG (by decide +kernel) (Nat.le_of_ble_eq_true rfl) (Nat.le_of_ble_eq_true rfl) (fun Z hZG C E NT MT => ?_)
  subst hZG
  have C : Cx Z RX8 cX8_lose 7 1 6 103 := C
  show HW Z 0 0 0 [some (.ref (P 0)), some (.int x)] [] μ
  obtain ⟨xs, hx, hnd, hR⟩ := hC.nt
  have hlen := hR.1
  have hmx := hx.2.1
  refine h_al_g C dX8_lose_0 rfl rfl rfv_r ?_
  refine h_iload_g C dX8_lose_1 rfl rfl ?_
  refine h_callV1 (ci := 8) C (k_X8_letterAt Z.l Z.G P S _ hC xs hx hR x) cw_X8_161 im_X8_letterAt sl_X8_letterAt rfl (by decide) (CRep.kX hC) dX8_lose_2 (by first | decide | exact Nat.le_of_ble_eq_true rfl) (by decide) (by decide) (by decide) (by decide) (kA fun r1 μ1 hp1 => ?_) (fun X9 μ9 hx9 => ?_)
  · obtain ⟨rfl, hL, r, hxi, hri, hl⟩ := hp1
    have hk : KLET % 32 = 4 := by decide
    have eL := LTR_eq hri
    refine h_pop C dX8_lose_5 rfl ?_
    refine h_al_g C dX8_lose_6 rfl rfl rfv_r ?_
    refine gs_X8_18 C dX8_lose_7 (CRep.kX hC) (CRep.f257 hC) ?_
    refine h_iload_g C dX8_lose_10 rfl rfl ?_
    refine h_callV1 (ci := 0) C (k_Jx4a65c_remove_915e3 Z.l Z.G _ xs x (cl x) _ _ hx (cl_nI hL.1) hxi) cw_X8_112 im_Jx4a65c_remove_915e3 sl_Jx4a65c_remove_915e3 rfl (by decide) hx.1 dX8_lose_11 (by first | decide | exact Nat.le_of_ble_eq_true rfl) (by decide) (by decide) (by decide) (by decide) (kA fun r2 μ2 hp2 => ?_) kN
    obtain ⟨rfl, hl2, hf2⟩ := hp2
    have hCn := CRep.rmNt hC hnd hR (cl x) hl2 hf2
    have hTo : CTo Z.G P μ (S.sNt (S.nt.eraseIdx (cl x))) μ2 := ⟨hCn, hf2.S (LW_isC hC (by decide))⟩
    refine h_pop C dX8_lose_14 rfl ?_
    refine h_al_g C dX8_lose_15 rfl rfl rfv_r ?_
    refine gs_X8_18 C dX8_lose_16 (CRep.kX hCn) (CRep.f257 hCn) ?_
    refine h_callV0 (ci := 0) (a_ := .null) C (k_Jx4a65c_size_8abf5 Z.l Z.G _ _ _ hl2) cw_X8_86 im_Jx4a65c_size_8abf5 sl_Jx4a65c_size_8abf5 rfl (by decide) hl2.1 dX8_lose_19 (by first | decide | exact Nat.le_of_ble_eq_true rfl) (by decide) (by decide) (by decide) (by decide) (kI fun r3 μ3 hp3 => ?_) kN
    obtain ⟨rfl, rfl⟩ := hp3
    refine h_iret C E dX8_lose_22 (by decide) (by decide) ?_
    exact ⟨_, rfl, if_pos hL, hTo, by rw [List.length_eraseIdx, List.length_eraseIdx, hlen]⟩
  · exact hx_out C E NT (by decide) (by decide) ⟨hx9.2.1, hx9.1, if_neg hx9.2.2⟩

set_option maxRecDepth 100000 in
set_option maxHeartbeats 4000000 in
theorem k_X8_later (l : Launch) (G : Gx) (P : Nat → Nat) (S : Sx) (μ : Mem) (hC : CRep G P S μ) (x : Int32) : Kon l yX8_later cX8_later 3 (some .int) 8 2 1006 191 G [.ref (P 0), .int x] μ (pI fun v μ' => letC S x = 0 ∧ CTo G P μ (S.sNt (S.nt.eraseIdx (cl x) ++ [LTR S (cl x)])) μ' ∧ v = nI S.nt.length - 1) (PX1 xIOB (letC S x) μ) := by
  refine Kon.ofG (by decide +kernel) (Nat.le_of_ble_eq_true rfl) (Nat.le_of_ble_eq_true rfl) (fun Z hZG C E NT MT => ?_)
  subst hZG
  have C : Cx Z RX8 cX8_later 8 2 1006 191 := C
  show HW Z 0 0 0 [some (.ref (P 0)), some (.int x), none] [] μ
  obtain ⟨xs, hx, hnd, hR⟩ := hC.nt
  have hlen := hR.1
  have hmx := hx.2.1
  refine h_al_g C dX8_later_0 rfl rfl rfv_r ?_
  refine h_iload_g C dX8_later_1 rfl rfl ?_
  refine h_callV1 (ci := 8) C (k_X8_letterAt Z.l Z.G P S _ hC xs hx hR x) cw_X8_161 im_X8_letterAt sl_X8_letterAt rfl (by decide) (CRep.kX hC) dX8_later_2 (by first | decide | exact Nat.le_of_ble_eq_true rfl) (by decide) (by decide) (by decide) (by decide) (kA fun r1 μ1 hp1 => ?_) (fun X9 μ9 hx9 => ?_)
  · obtain ⟨rfl, hL, r, hxi, hri, hl⟩ := hp1
    have hk : KLET % 32 = 4 := by decide
    have eL := LTR_eq hri
    refine h_ast_2 C dX8_later_5 ct_i rfv_r ?_
    refine h_al_g C dX8_later_6 rfl rfl rfv_r ?_
    refine gs_X8_18 C dX8_later_7 (CRep.kX hC) (CRep.f257 hC) ?_
    refine h_iload_g C dX8_later_10 rfl rfl ?_
    refine h_callV1 (ci := 0) C (k_Jx4a65c_remove_915e3 Z.l Z.G _ xs x (cl x) _ _ hx (cl_nI hL.1) hxi) cw_X8_112 im_Jx4a65c_remove_915e3 sl_Jx4a65c_remove_915e3 rfl (by decide) hx.1 dX8_later_11 (by first | decide | exact Nat.le_of_ble_eq_true rfl) (by decide) (by decide) (by decide) (by decide) (kA fun r2 μ1 hp2 => ?_) kN
    obtain ⟨rfl, hl2, hf2⟩ := hp2
    have hCn := CRep.rmNt hC hnd hR (cl x) hl2 hf2
    have hTo : CTo Z.G P μ (S.sNt (S.nt.eraseIdx (cl x))) μ1 := ⟨hCn, hf2.S (LW_isC hC (by decide))⟩
    have hil : cl x < xs.length := (List.getElem?_eq_some_iff.mp hxi).1
    have hle : (xs.eraseIdx (cl x)).length < 600 := by rw [List.length_eraseIdx]; split <;> omega
    have nF : ∀ k, k ≠ 0 → 34 < k / 32 → k / 32 < 1000 → ¬ LW μ (P 2) k := (hC.lw (j0 := 2) (by decide) (by omega) hf2).2.2.2.2.2.1
    have nG : ∀ q, ¬ LW μ (P 2) (FM q) := (hC.lw (j0 := 2) (by decide) (by omega) hf2).2.2.2.2.2.2
    have hlm := hl.kept hf2 (by decide) (nF _ (by decide) (by decide) (by decide)) (nG _)
    have hR2 := hCn.nt
    have hxs2 : LR (LeAt μ1 KLET) (xs.eraseIdx (cl x)) (S.nt.eraseIdx (cl x)) := (hR.imp fun p _ r hp => hp.kept hf2 (by decide) (nF _ (by decide) (by decide) (by decide)) (nG _)).erase (cl x)
    refine h_pop C dX8_later_14 rfl ?_
    refine h_al_g C dX8_later_15 rfl rfl rfv_r ?_
    refine gs_X8_18 C dX8_later_16 (CRep.kX hCn) (CRep.f257 hCn) ?_
    refine h_al_g C dX8_later_19 rfl rfl rfv_r ?_
    refine h_callV1 (ci := 0) C (k_Jx4a65c_add_9ea2d Z.l Z.G _ _ _ _ hl2 hle (Or.inl (by rw [hlm.1]; decide))) cw_X8_103 im_Jx4a65c_add_9ea2d sl_Jx4a65c_add_9ea2d rfl (by decide) hl2.1 dX8_later_20 (by first | decide | exact Nat.le_of_ble_eq_true rfl) (by decide) (by decide) (by decide) (by decide) (kI fun r3 μ2 hp3 => ?_) kN
    obtain ⟨hl3, hf3⟩ := hp3
    have hCn2 := CRep.addNt hCn (nodup_erase hnd _) hxs2 hlm (nodup_gone hnd hxi) hl3 hf3
    have hTo2 : CTo Z.G P μ (S.sNt (S.nt.eraseIdx (cl x) ++ [LTR S (cl x)])) μ2 := by rw [eL]; exact hTo.tr (S1 := S.sNt (S.nt.eraseIdx (cl x))) ⟨hCn2, hf3.S (LW_isC hCn (by decide))⟩
    refine h_pop C dX8_later_23 rfl ?_
    refine h_al_g C dX8_later_24 rfl rfl rfv_r ?_
    refine gs_X8_18 C dX8_later_25 (CRep.kX hCn2) (CRep.f257 hCn2) ?_
    refine h_callV0 (ci := 0) (a_ := .null) C (k_Jx4a65c_size_8abf5 Z.l Z.G _ _ _ hl3) cw_X8_86 im_Jx4a65c_size_8abf5 sl_Jx4a65c_size_8abf5 rfl (by decide) hl3.1 dX8_later_28 (by first | decide | exact Nat.le_of_ble_eq_true rfl) (by decide) (by decide) (by decide) (by decide) (kI fun r4 μ2 hp4 => ?_) kN
    obtain ⟨rfl, rfl⟩ := hp4
    refine h_iconst (v := 1) C dX8_later_31 (by decide) ?_
    refine h_isub C dX8_later_32 ?_
    refine h_iret C E dX8_later_33 (by decide) (by decide) ?_
    exact ⟨_, rfl, if_pos hL, hTo2, by rw [List.length_append, List.length_eraseIdx, if_pos hil, show xs.length - 1 + [_].length = S.nt.length by rw [← hlen]; show xs.length - 1 + 1 = _; omega]⟩
  · exact hx_out C E NT (by decide) (by decide) ⟨hx9.2.1, hx9.1, if_neg hx9.2.2⟩

def rerC (S : Sx) (x y : Int32) : Int32 := if isL S x then (if inR y 1 99 then 0 else 2) else 1
set_option maxRecDepth 100000 in
set_option maxHeartbeats 4000000 in
theorem k_X8_reroute (l : Launch) (G : Gx) (P : Nat → Nat) (S : Sx) (μ : Mem) (hC : CRep G P S μ) (x y : Int32) : Kon l yX8_reroute cX8_reroute 5 (some .int) 7 2 12 104 G [.ref (P 0), .int x, .int y] μ (pI fun v μ' => rerC S x y = 0 ∧ CTo G P μ (S.sNt (S.nt.set (cl x) (u1 (LTR S (cl x)) 0 y))) μ' ∧ v = LTR S (cl x) 0) (PX2 xIOB xIAE (rerC S x y) μ) := by
  refine Kon.ofG (by decide +kernel) (Nat.le_of_ble_eq_true rfl) (Nat.le_of_ble_eq_true rfl) (fun Z hZG C E NT MT => ?_)
  subst hZG
  have C : Cx Z RX8 cX8_reroute 7 2 12 104 := C
  show HW Z 0 0 0 [some (.ref (P 0)), some (.int x), some (.int y), none, none] [] μ
  obtain ⟨xs, hx, hnd, hR⟩ := hC.nt
  have hlen := hR.1
  have hmx := hx.2.1
  refine h_al_g C dX8_reroute_0 rfl rfl rfv_r ?_
  refine h_iload_g C dX8_reroute_1 rfl rfl ?_
  refine h_callV1 (ci := 8) C (k_X8_letterAt Z.l Z.G P S _ hC xs hx hR x) cw_X8_161 im_X8_letterAt sl_X8_letterAt rfl (by decide) (CRep.kX hC) dX8_reroute_2 (by first | decide | exact Nat.le_of_ble_eq_true rfl) (by decide) (by decide) (by decide) (by decide) (kA fun r1 μ1 hp1 => ?_) (fun X9 μ9 hx9 => ?_)
  · obtain ⟨rfl, hL, r, hxi, hri, hl⟩ := hp1
    have hk : KLET % 32 = 4 := by decide
    have eL := LTR_eq hri
    obtain ⟨fa, hfa1, hfa2, -⟩ := hl.2.2.2.2.2.2.2.2
    refine h_ast_3 C dX8_reroute_5 ct_i rfv_r ?_
    refine h_iload_g C dX8_reroute_6 rfl rfl ?_
    refine h_iconst (v := 1) C dX8_reroute_7 (by decide) ?_
    refine h_bipush (v := 99) C dX8_reroute_8 (by decide) ?_
    refine h_callS3 C (k_X8_checkRange Z.l Z.G (y) (1) (99) _) cw_X8_56 st_X8_checkRange dX8_reroute_10 (by first | decide | exact Nat.le_of_ble_eq_true rfl) (by decide) (by decide) (by decide) (by decide) (kV fun μ2 hp2 => ?_) (fun X9 μ9 hx9 => ?_)
    · obtain ⟨rfl, hr⟩ := hp2
      refine h_al_g C dX8_reroute_13 rfl rfl rfv_r ?_
      refine gf_X8_214 C dX8_reroute_14 (LeAt.k hl hk) (LeAt.f100 hl) ?_
      refine h_ist_4 C dX8_reroute_17 ct_r ?_
      refine h_al_g C dX8_reroute_19 rfl rfl rfv_r ?_
      refine h_iload_g C dX8_reroute_20 rfl rfl ?_
      refine pf_X8_214 C dX8_reroute_21 (LeAt.k hl hk) ?_
      have hTo : CTo Z.G P μ (S.sNt (S.nt.set (cl x) (u1 (LTR S (cl x)) 0 y))) _ := ⟨CRep.setNt hC hx hnd hR hxi hfa2 (fun q h1 h2 => same_sfi h1) rfl rfl (by rw [eL]; exact hl.s100 y), FrS.sfi (by rw [hl.1]; exact ⟨by decide, Or.inl (by decide)⟩)⟩
      refine h_iload_w C dX8_reroute_24 rfl ?_
      refine h_iret C E dX8_reroute_26 (by decide) (by decide) ?_
      exact ⟨_, rfl, (if_pos hL).trans (if_pos hr), hTo, by rw [eL]⟩
    · exact hx_out C E NT (by decide) (by decide) ⟨hx9.2.1, Or.inr ⟨hx9.1, (if_pos hL).trans (if_neg hx9.2.2)⟩⟩
  · exact hx_out C E NT (by decide) (by decide) ⟨hx9.2.1, Or.inl ⟨hx9.1, if_neg hx9.2.2⟩⟩

end
