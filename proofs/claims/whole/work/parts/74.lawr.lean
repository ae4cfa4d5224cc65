section
abbrev KLO : Nat := 13 + 32 * 900
abbrev KSC : Nat := 11 + 32 * 901
theorem KLO_nC : ¬ isC KLO := by unfold isC; decide
theorem KSC_nC : ¬ isC KSC := by unfold isC; decide
/-- what a small method of the law leaves: code 0 and the answer in o, or the exception's place and all as it was -/
def wrp (code : Int32) (R : Int64 → Mem → Prop) (o : Nat) (μ : Mem) (k : Int32) (μ' : Mem) : Prop := (code = 0 ∧ k = 0 ∧ ∃ w μ1, R w μ1 ∧ μ' = μ1.sel o 0 w) ∨ (¬ code = 0 ∧ k = code ∧ μ' = μ)
set_option maxRecDepth 100000 in
set_option maxHeartbeats 1000000 in
theorem k_L_pass (l : Launch) (G : Gx) (P : Nat → Nat) (S : Sx) (μ : Mem) (hC : CRep G P S μ) (x : Int32) (hT : okT S) (o : Nat) (ho : μ.kd o = KLO) (hol : μ.ln o = 1) : KonH l yL_pass cL_pass 4 (some .int) [(0, 9, 12, 13), (0, 9, 15, 15)] 7 1 6 103 G [.ref (P 0), .int x, .ref o] μ (pI fun c9 μ9 => wrp (passC S x) (fun w9 μ1 => ∃ v9 : Int32, w9 = v9.toInt64 ∧ passC S x = 0 ∧ CTo G P μ (S.sSc 0 (S.sc 0 + x)) μ1 ∧ v9 = S.sc 0 + x) o μ c9 μ9) := by
  refine KonH.of (by decide +kernel) (Nat.le_of_ble_eq_true rfl) (Nat.le_of_ble_eq_true rfl) (fun Z hZG C E NN TT => ?_)
  subst hZG
  have C : Cx Z RL cL_pass 7 1 6 103 := C
  show HW Z 0 0 0 [some (.ref (P 0)), some (.int x), some (.ref o), none] [] μ
  refine h_al_g C dL_pass_0 rfl rfl rfv_r ?_
  refine h_iconst (v := 0) C dL_pass_1 (by decide) ?_
  refine h_al_g C dL_pass_2 rfl rfl rfv_r ?_
  refine h_iload_g C dL_pass_3 rfl rfl ?_
  refine h_callV1 (ci := 8) C (k_X8_pass Z.l Z.G P S _ hC x hT) cw_L_7 im_X8_pass sl_X8_pass rfl (by decide) (CRep.kX hC) dL_pass_4 (by first | decide | exact Nat.le_of_ble_eq_true rfl) (by decide) (by decide) (by decide) (by decide) (kI fun r1 μ1 hp1 => ?_) (fun X9 μ9 hx9 => ?_)
  · have hA := hp1
    have hFr : FrS isC μ μ1 := by
      first
        | exact hA.2.1 ▸ FrS.rf
        | exact hA.2.1.2
        | exact hA.2.2.2
        | exact hA.2.2 ▸ FrS.rf
        | (obtain ⟨-, S9, -, h⟩ := hA; exact h.2)
        | (rcases hA with ⟨-, ⟨-, -, h⟩ | ⟨-, -, h⟩⟩
           · exact h ▸ FrS.rf
           · exact h.2)
    have sO := (hFr o).1 (by rw [ho]; decide) (by rw [ho]; exact KLO_nC)
    have ho1 : μ1.kd o = KLO := sO.1.trans ho
    have hol1 : μ1.ln o = 1 := sO.2.2.2.2.1.trans hol
    refine h_i2l C dL_pass_7 ?_
    refine h_last C dL_pass_8 (by rw [ho1]; decide) (inb hol1 (vp_in_nI (n := 0) (by decide) (by decide))) ?_
    refine h_goto (tgt := 18) C dL_pass_9 (by decide) ?_
    refine h_iconst (v := 0) C dL_pass_18 (by decide) ?_
    refine h_iret C E dL_pass_19 (by decide) (by decide) ?_
    exact ⟨_, rfl, Or.inl ⟨hA.1, rfl, _, _, ⟨_, rfl, hA⟩, rfl⟩⟩
  · obtain ⟨rfl, hx8⟩ := hx9
    rcases hx8 with ⟨rfl, hc9⟩ | ⟨rfl, hc9⟩
    · refine h_catch C NN TT [] (0, 9, 12, 13) [(0, 9, 15, 15)] rfl (fun _ h => absurd h List.not_mem_nil) (by decide) (by decide) lkx_IAE cst_IAE (fun q => ?_)
      refine h_ast_3 C dL_pass_12 ct_r rfv_r ?_
      refine h_iconst (v := 1) C dL_pass_13 (by decide) ?_
      refine h_iret C E dL_pass_14 (by decide) (by decide) ?_
      exact ⟨_, rfl, Or.inr ⟨by rw [hc9]; decide, hc9.symm, rfl⟩⟩
    · refine h_catch C NN TT [(0, 9, 12, 13)] (0, 9, 15, 15) [] rfl (List.forall_mem_cons.mpr ⟨⟨by decide, xIAE, lkx_IAE, List.mem_of_getElem? (i := 0) rfl⟩, (fun _ h => absurd h List.not_mem_nil)⟩) (by decide) (by decide) lkx_ISE cst_ISE (fun q => ?_)
      refine h_ast_3 C dL_pass_15 ct_r rfv_r ?_
      refine h_iconst (v := 2) C dL_pass_16 (by decide) ?_
      refine h_iret C E dL_pass_17 (by decide) (by decide) ?_
      exact ⟨_, rfl, Or.inr ⟨by rw [hc9]; decide, hc9.symm, rfl⟩⟩

set_option maxRecDepth 100000 in
set_option maxHeartbeats 1000000 in
theorem k_L_move (l : Launch) (G : Gx) (P : Nat → Nat) (S : Sx) (μ : Mem) (hC : CRep G P S μ) (x y : Int32) (hD : ∀ i j, i < 3 → j < 3 → S.ef 0 i = S.ef 0 j → i = j) (o : Nat) (ho : μ.kd o = KLO) (hol : μ.ln o = 1) : KonH l yL_move cL_move 5 (some .int) [(0, 10, 13, 21), (0, 10, 17, 13)] 8 3 18 129 G [.ref (P 0), .int x, .int y, .ref o] μ (pI fun c9 μ9 => wrp (movC S x y) (fun w9 μ1 => ∃ v9 : Int32, w9 = v9.toInt64 ∧ movC S x y = 0 ∧ CTo G P μ (S.sEf 0 (cl x) y) μ1 ∧ v9 = S.ef 0 (cl x)) o μ c9 μ9) := by
  refine KonH.of (by decide +kernel) (Nat.le_of_ble_eq_true rfl) (Nat.le_of_ble_eq_true rfl) (fun Z hZG C E NN TT => ?_)
  subst hZG
  have C : Cx Z RL cL_move 8 3 18 129 := C
  show HW Z 0 0 0 [some (.ref (P 0)), some (.int x), some (.int y), some (.ref o), none] [] μ
  refine h_al_g C dL_move_0 rfl rfl rfv_r ?_
  refine h_iconst (v := 0) C dL_move_1 (by decide) ?_
  refine h_al_g C dL_move_2 rfl rfl rfv_r ?_
  refine h_iload_g C dL_move_3 rfl rfl ?_
  refine h_iload_g C dL_move_4 rfl rfl ?_
  refine h_callV2 (ci := 8) C (k_X8_move Z.l Z.G P S _ hC x y hD) cw_L_17 im_X8_move sl_X8_move rfl (by decide) (CRep.kX hC) dL_move_5 (by first | decide | exact Nat.le_of_ble_eq_true rfl) (by decide) (by decide) (by decide) (by decide) (kI fun r1 μ1 hp1 => ?_) (fun X9 μ9 hx9 => ?_)
  · have hA := hp1
    have hFr : FrS isC μ μ1 := by
      first
        | exact hA.2.1 ▸ FrS.rf
        | exact hA.2.1.2
        | exact hA.2.2.2
        | exact hA.2.2 ▸ FrS.rf
        | (obtain ⟨-, S9, -, h⟩ := hA; exact h.2)
        | (rcases hA with ⟨-, ⟨-, -, h⟩ | ⟨-, -, h⟩⟩
           · exact h ▸ FrS.rf
           · exact h.2)
    have sO := (hFr o).1 (by rw [ho]; decide) (by rw [ho]; exact KLO_nC)
    have ho1 : μ1.kd o = KLO := sO.1.trans ho
    have hol1 : μ1.ln o = 1 := sO.2.2.2.2.1.trans hol
    refine h_i2l C dL_move_8 ?_
    refine h_last C dL_move_9 (by rw [ho1]; decide) (inb hol1 (vp_in_nI (n := 0) (by decide) (by decide))) ?_
    refine h_goto (tgt := 21) C dL_move_10 (by decide) ?_
    refine h_iconst (v := 0) C dL_move_21 (by decide) ?_
    refine h_iret C E dL_move_22 (by decide) (by decide) ?_
    exact ⟨_, rfl, Or.inl ⟨hA.1, rfl, _, _, ⟨_, rfl, hA⟩, rfl⟩⟩
  · obtain ⟨rfl, hx8⟩ := hx9
    rcases hx8 with ⟨rfl, hc9⟩ | ⟨rfl, hc9⟩
    · refine h_catch C NN TT [] (0, 10, 13, 21) [(0, 10, 17, 13)] rfl (fun _ h => absurd h List.not_mem_nil) (by decide) (by decide) lkx_IOB cst_IOB (fun q => ?_)
      refine h_ast_4 C dL_move_13 ct_r rfv_r ?_
      refine h_iconst (v := 1) C dL_move_15 (by decide) ?_
      refine h_iret C E dL_move_16 (by decide) (by decide) ?_
      exact ⟨_, rfl, Or.inr ⟨by rw [hc9]; decide, hc9.symm, rfl⟩⟩
    · refine h_catch C NN TT [(0, 10, 13, 21)] (0, 10, 17, 13) [] rfl (List.forall_mem_cons.mpr ⟨⟨by decide, xIOB, lkx_IOB, List.mem_of_getElem? (i := 6) rfl⟩, (fun _ h => absurd h List.not_mem_nil)⟩) (by decide) (by decide) lkx_IAE cst_IAE (fun q => ?_)
      refine h_ast_4 C dL_move_17 ct_r rfv_r ?_
      refine h_iconst (v := 2) C dL_move_19 (by decide) ?_
      refine h_iret C E dL_move_20 (by decide) (by decide) ?_
      exact ⟨_, rfl, Or.inr ⟨by rw [hc9]; decide, hc9.symm, rfl⟩⟩

set_option maxRecDepth 100000 in
set_option maxHeartbeats 1000000 in
theorem k_L_load (l : Launch) (G : Gx) (P : Nat → Nat) (S : Sx) (μ : Mem) (hC : CRep G P S μ) (x z : Int32) (hz : z = 0 ∨ z = 1) (hB : ∀ e, e < 3 → S.ef 1 e = 0 ∨ S.ef 1 e = 1) (o : Nat) (ho : μ.kd o = KLO) (hol : μ.ln o = 1) : KonH l yL_load cL_load 5 (some .int) [(0, 17, 20, 21)] 8 1 6 127 G [.ref (P 0), .int x, .int z, .ref o] μ (pI fun c9 μ9 => wrp (endC x) (fun w9 μ1 => ∃ v9 : Int32, w9 = (if v9 = 0 then 0 else 1) ∧ endC x = 0 ∧ CTo G P μ (S.sEf 1 (cl x) z) μ1 ∧ v9 = S.ef 1 (cl x)) o μ c9 μ9) := by
  refine KonH.of (by decide +kernel) (Nat.le_of_ble_eq_true rfl) (Nat.le_of_ble_eq_true rfl) (fun Z hZG C E NN TT => ?_)
  subst hZG
  have C : Cx Z RL cL_load 8 1 6 127 := C
  show HW Z 0 0 0 [some (.ref (P 0)), some (.int x), some (.int z), some (.ref o), none] [] μ
  refine h_al_g C dL_load_0 rfl rfl rfv_r ?_
  refine h_iconst (v := 0) C dL_load_1 (by decide) ?_
  refine h_al_g C dL_load_2 rfl rfl rfv_r ?_
  refine h_iload_g C dL_load_3 rfl rfl ?_
  refine h_iload_g C dL_load_4 rfl rfl ?_
  refine h_callV2 (ci := 8) C (k_X8_load Z.l Z.G P S _ hC x z hz hB) cw_L_23 im_X8_load sl_X8_load rfl (by decide) (CRep.kX hC) dL_load_5 (by first | decide | exact Nat.le_of_ble_eq_true rfl) (by decide) (by decide) (by decide) (by decide) (kI fun r1 μ1 hp1 => ?_) (fun X9 μ9 hx9 => ?_)
  · have hA := hp1
    have hFr : FrS isC μ μ1 := by
      first
        | exact hA.2.1 ▸ FrS.rf
        | exact hA.2.1.2
        | exact hA.2.2.2
        | exact hA.2.2 ▸ FrS.rf
        | (obtain ⟨-, S9, -, h⟩ := hA; exact h.2)
        | (rcases hA with ⟨-, ⟨-, -, h⟩ | ⟨-, -, h⟩⟩
           · exact h ▸ FrS.rf
           · exact h.2)
    have sO := (hFr o).1 (by rw [ho]; decide) (by rw [ho]; exact KLO_nC)
    have ho1 : μ1.kd o = KLO := sO.1.trans ho
    have hol1 : μ1.ln o = 1 := sO.2.2.2.2.1.trans hol
    refine h_if_eq (tgt := 15) C dL_load_8 (by decide) (fun c0 => ?_) (fun c0 => ?_)
    · refine h_lconst (v := 0) C dL_load_15 (by decide) ?_
      refine h_last C dL_load_16 (by rw [ho1]; decide) (inb hol1 (vp_in_nI (n := 0) (by decide) (by decide))) ?_
      refine h_goto (tgt := 24) C dL_load_17 (by decide) ?_
      refine h_iconst (v := 0) C dL_load_24 (by decide) ?_
      refine h_iret C E dL_load_25 (by decide) (by decide) ?_
      exact ⟨_, rfl, Or.inl ⟨hA.1, rfl, _, _, ⟨_, (if_pos c0).symm, hA⟩, rfl⟩⟩
    · refine h_lconst (v := 1) C dL_load_11 (by decide) ?_
      refine h_goto (tgt := 16) C dL_load_12 (by decide) ?_
      refine h_last C dL_load_16 (by rw [ho1]; decide) (inb hol1 (vp_in_nI (n := 0) (by decide) (by decide))) ?_
      refine h_goto (tgt := 24) C dL_load_17 (by decide) ?_
      refine h_iconst (v := 0) C dL_load_24 (by decide) ?_
      refine h_iret C E dL_load_25 (by decide) (by decide) ?_
      exact ⟨_, rfl, Or.inl ⟨hA.1, rfl, _, _, ⟨_, (if_neg c0).symm, hA⟩, rfl⟩⟩
  · obtain ⟨rfl, rfl, hc9⟩ := hx9
    · refine h_catch C NN TT [] (0, 17, 20, 21) [] rfl (fun _ h => absurd h List.not_mem_nil) (by decide) (by decide) lkx_IOB cst_IOB (fun q => ?_)
      refine h_ast_4 C dL_load_20 ct_r rfv_r ?_
      refine h_iconst (v := 1) C dL_load_22 (by decide) ?_
      refine h_iret C E dL_load_23 (by decide) (by decide) ?_
      exact ⟨_, rfl, Or.inr ⟨by rw [hc9]; decide, hc9.symm, rfl⟩⟩

set_option maxRecDepth 100000 in
set_option maxHeartbeats 1000000 in
theorem k_L_allow (l : Launch) (G : Gx) (P : Nat → Nat) (S : Sx) (μ : Mem) (hC : CRep G P S μ) (x y p b : Int32) (o : Nat) (ho : μ.kd o = KLO) (hol : μ.ln o = 1) : KonH l yL_allow cL_allow 7 (some .int) [(0, 14, 17, 21), (0, 14, 21, 13), (0, 14, 25, 15)] 9 7 1033 218 G [.ref (P 0), .int x, .int y, .int p, .int b, .ref o] μ (pI fun c9 μ9 => wrp (allC S x y p b) (fun w9 μ1 => ∃ v9 : Int32, w9 = v9.toInt64 ∧ allC S x y p b = 0 ∧ CTo G P μ (S.sRt (cl x) (ALR (S.rt (cl x)) (TOPB p b) b y)) μ1 ∧ v9 = nI (ALR (S.rt (cl x)) (TOPB p b) b y).length) o μ c9 μ9) := by
  refine KonH.of (by decide +kernel) (Nat.le_of_ble_eq_true rfl) (Nat.le_of_ble_eq_true rfl) (fun Z hZG C E NN TT => ?_)
  subst hZG
  have C : Cx Z RL cL_allow 9 7 1033 218 := C
  show HW Z 0 0 0 [some (.ref (P 0)), some (.int x), some (.int y), some (.int p), some (.int b), some (.ref o), none] [] μ
  refine h_al_w (j := 0) C dL_allow_0 rfl rfv_r ?_
  refine h_iconst (v := 0) C dL_allow_2 (by decide) ?_
  refine h_al_g C dL_allow_3 rfl rfl rfv_r ?_
  refine h_iload_g C dL_allow_4 rfl rfl ?_
  refine h_iload_g C dL_allow_5 rfl rfl ?_
  refine h_iload_g C dL_allow_6 rfl rfl ?_
  refine h_iload_w C dL_allow_7 rfl ?_
  refine h_callV4 (ci := 8) C (k_X8_allow Z.l Z.G P S _ hC x y p b) cw_L_27 im_X8_allow sl_X8_allow rfl (by decide) (CRep.kX hC) dL_allow_9 (by first | decide | exact Nat.le_of_ble_eq_true rfl) (by decide) (by decide) (by decide) (by decide) (kI fun r1 μ1 hp1 => ?_) (fun X9 μ9 hx9 => ?_)
  · have hA := hp1
    have hFr : FrS isC μ μ1 := by
      first
        | exact hA.2.1 ▸ FrS.rf
        | exact hA.2.1.2
        | exact hA.2.2.2
        | exact hA.2.2 ▸ FrS.rf
        | (obtain ⟨-, S9, -, h⟩ := hA; exact h.2)
        | (rcases hA with ⟨-, ⟨-, -, h⟩ | ⟨-, -, h⟩⟩
           · exact h ▸ FrS.rf
           · exact h.2)
    have sO := (hFr o).1 (by rw [ho]; decide) (by rw [ho]; exact KLO_nC)
    have ho1 : μ1.kd o = KLO := sO.1.trans ho
    have hol1 : μ1.ln o = 1 := sO.2.2.2.2.1.trans hol
    refine h_i2l C dL_allow_12 ?_
    refine h_last C dL_allow_13 (by rw [ho1]; decide) (inb hol1 (vp_in_nI (n := 0) (by decide) (by decide))) ?_
    refine h_goto (tgt := 29) C dL_allow_14 (by decide) ?_
    refine h_iconst (v := 0) C dL_allow_29 (by decide) ?_
    refine h_iret C E dL_allow_30 (by decide) (by decide) ?_
    exact ⟨_, rfl, Or.inl ⟨hA.1, rfl, _, _, ⟨_, rfl, hA⟩, rfl⟩⟩
  · obtain ⟨rfl, hx8⟩ := hx9
    rcases hx8 with ⟨rfl, hc9⟩ | ⟨rfl, hc9⟩ | ⟨rfl, hc9⟩
    · refine h_catch C NN TT [] (0, 14, 17, 21) [(0, 14, 21, 13), (0, 14, 25, 15)] rfl (fun _ h => absurd h List.not_mem_nil) (by decide) (by decide) lkx_IOB cst_IOB (fun q => ?_)
      refine h_ast_6 C dL_allow_17 ct_r rfv_r ?_
      refine h_iconst (v := 1) C dL_allow_19 (by decide) ?_
      refine h_iret C E dL_allow_20 (by decide) (by decide) ?_
      exact ⟨_, rfl, Or.inr ⟨by rw [hc9]; decide, hc9.symm, rfl⟩⟩
    · refine h_catch C NN TT [(0, 14, 17, 21)] (0, 14, 21, 13) [(0, 14, 25, 15)] rfl (List.forall_mem_cons.mpr ⟨⟨by decide, xIOB, lkx_IOB, List.mem_of_getElem? (i := 6) rfl⟩, (fun _ h => absurd h List.not_mem_nil)⟩) (by decide) (by decide) lkx_IAE cst_IAE (fun q => ?_)
      refine h_ast_6 C dL_allow_21 ct_r rfv_r ?_
      refine h_iconst (v := 2) C dL_allow_23 (by decide) ?_
      refine h_iret C E dL_allow_24 (by decide) (by decide) ?_
      exact ⟨_, rfl, Or.inr ⟨by rw [hc9]; decide, hc9.symm, rfl⟩⟩
    · refine h_catch C NN TT [(0, 14, 17, 21), (0, 14, 21, 13)] (0, 14, 25, 15) [] rfl (List.forall_mem_cons.mpr ⟨⟨by decide, xIOB, lkx_IOB, List.mem_of_getElem? (i := 7) rfl⟩, (List.forall_mem_cons.mpr ⟨⟨by decide, xIAE, lkx_IAE, List.mem_of_getElem? (i := 0) rfl⟩, (fun _ h => absurd h List.not_mem_nil)⟩)⟩) (by decide) (by decide) lkx_ISE cst_ISE (fun q => ?_)
      refine h_ast_6 C dL_allow_25 ct_r rfv_r ?_
      refine h_iconst (v := 3) C dL_allow_27 (by decide) ?_
      refine h_iret C E dL_allow_28 (by decide) (by decide) ?_
      exact ⟨_, rfl, Or.inr ⟨by rw [hc9]; decide, hc9.symm, rfl⟩⟩

set_option maxRecDepth 100000 in
set_option maxHeartbeats 1000000 in
theorem k_L_forbid (l : Launch) (G : Gx) (P : Nat → Nat) (S : Sx) (μ : Mem) (hC : CRep G P S μ) (x p b : Int32) (o : Nat) (ho : μ.kd o = KLO) (hol : μ.ln o = 1) : KonH l yL_forbid cL_forbid 6 (some .int) [(0, 12, 15, 21), (0, 12, 19, 13), (0, 12, 23, 35)] 8 4 24 129 G [.ref (P 0), .int x, .int p, .int b, .ref o] μ (pI fun c9 μ9 => wrp (forC S x p b) (fun w9 μ1 => ∃ v9 : Int32, w9 = v9.toInt64 ∧ forC S x p b = 0 ∧ CTo G P μ (S.sRt (cl x) (FOR (S.rt (cl x)) (TOPB p b) b)) μ1 ∧ v9 = nI (FOR (S.rt (cl x)) (TOPB p b) b).length) o μ c9 μ9) := by
  refine KonH.of (by decide +kernel) (Nat.le_of_ble_eq_true rfl) (Nat.le_of_ble_eq_true rfl) (fun Z hZG C E NN TT => ?_)
  subst hZG
  have C : Cx Z RL cL_forbid 8 4 24 129 := C
  show HW Z 0 0 0 [some (.ref (P 0)), some (.int x), some (.int p), some (.int b), some (.ref o), none] [] μ
  refine h_al_w (j := 0) C dL_forbid_0 rfl rfv_r ?_
  refine h_iconst (v := 0) C dL_forbid_2 (by decide) ?_
  refine h_al_g C dL_forbid_3 rfl rfl rfv_r ?_
  refine h_iload_g C dL_forbid_4 rfl rfl ?_
  refine h_iload_g C dL_forbid_5 rfl rfl ?_
  refine h_iload_g C dL_forbid_6 rfl rfl ?_
  refine h_callV3 (ci := 8) C (k_X8_forbid Z.l Z.G P S _ hC x p b) cw_L_31 im_X8_forbid sl_X8_forbid rfl (by decide) (CRep.kX hC) dL_forbid_7 (by first | decide | exact Nat.le_of_ble_eq_true rfl) (by decide) (by decide) (by decide) (by decide) (kI fun r1 μ1 hp1 => ?_) (fun X9 μ9 hx9 => ?_)
  · have hA := hp1
    have hFr : FrS isC μ μ1 := by
      first
        | exact hA.2.1 ▸ FrS.rf
        | exact hA.2.1.2
        | exact hA.2.2.2
        | exact hA.2.2 ▸ FrS.rf
        | (obtain ⟨-, S9, -, h⟩ := hA; exact h.2)
        | (rcases hA with ⟨-, ⟨-, -, h⟩ | ⟨-, -, h⟩⟩
           · exact h ▸ FrS.rf
           · exact h.2)
    have sO := (hFr o).1 (by rw [ho]; decide) (by rw [ho]; exact KLO_nC)
    have ho1 : μ1.kd o = KLO := sO.1.trans ho
    have hol1 : μ1.ln o = 1 := sO.2.2.2.2.1.trans hol
    refine h_i2l C dL_forbid_10 ?_
    refine h_last C dL_forbid_11 (by rw [ho1]; decide) (inb hol1 (vp_in_nI (n := 0) (by decide) (by decide))) ?_
    refine h_goto (tgt := 27) C dL_forbid_12 (by decide) ?_
    refine h_iconst (v := 0) C dL_forbid_27 (by decide) ?_
    refine h_iret C E dL_forbid_28 (by decide) (by decide) ?_
    exact ⟨_, rfl, Or.inl ⟨hA.1, rfl, _, _, ⟨_, rfl, hA⟩, rfl⟩⟩
  · obtain ⟨rfl, hx8⟩ := hx9
    rcases hx8 with ⟨rfl, hc9⟩ | ⟨rfl, hc9⟩ | ⟨rfl, hc9⟩
    · refine h_catch C NN TT [] (0, 12, 15, 21) [(0, 12, 19, 13), (0, 12, 23, 35)] rfl (fun _ h => absurd h List.not_mem_nil) (by decide) (by decide) lkx_IOB cst_IOB (fun q => ?_)
      refine h_ast_5 C dL_forbid_15 ct_r rfv_r ?_
      refine h_iconst (v := 1) C dL_forbid_17 (by decide) ?_
      refine h_iret C E dL_forbid_18 (by decide) (by decide) ?_
      exact ⟨_, rfl, Or.inr ⟨by rw [hc9]; decide, hc9.symm, rfl⟩⟩
    · refine h_catch C NN TT [(0, 12, 15, 21)] (0, 12, 19, 13) [(0, 12, 23, 35)] rfl (List.forall_mem_cons.mpr ⟨⟨by decide, xIOB, lkx_IOB, List.mem_of_getElem? (i := 6) rfl⟩, (fun _ h => absurd h List.not_mem_nil)⟩) (by decide) (by decide) lkx_IAE cst_IAE (fun q => ?_)
      refine h_ast_5 C dL_forbid_19 ct_r rfv_r ?_
      refine h_iconst (v := 2) C dL_forbid_21 (by decide) ?_
      refine h_iret C E dL_forbid_22 (by decide) (by decide) ?_
      exact ⟨_, rfl, Or.inr ⟨by rw [hc9]; decide, hc9.symm, rfl⟩⟩
    · refine h_catch C NN TT [(0, 12, 15, 21), (0, 12, 19, 13)] (0, 12, 23, 35) [] rfl (List.forall_mem_cons.mpr ⟨⟨by decide, xIOB, lkx_IOB, List.mem_of_getElem? (i := 8) rfl⟩, (List.forall_mem_cons.mpr ⟨⟨by decide, xIAE, lkx_IAE, List.mem_of_getElem? (i := 2) rfl⟩, (fun _ h => absurd h List.not_mem_nil)⟩)⟩) (by decide) (by decide) lkx_NSE cst_NSE (fun q => ?_)
      refine h_ast_5 C dL_forbid_23 ct_r rfv_r ?_
      refine h_iconst (v := 3) C dL_forbid_25 (by decide) ?_
      refine h_iret C E dL_forbid_26 (by decide) (by decide) ?_
      exact ⟨_, rfl, Or.inr ⟨by rw [hc9]; decide, hc9.symm, rfl⟩⟩

set_option maxRecDepth 100000 in
set_option maxHeartbeats 1000000 in
theorem k_L_send (l : Launch) (G : Gx) (P : Nat → Nat) (S : Sx) (μ : Mem) (hC : CRep G P S μ) (x s0 d l0 : Int32) (hok : okS S) (o : Nat) (ho : μ.kd o = KLO) (hol : μ.ln o = 1) : KonH l yL_send cL_send 7 (some .int) [(0, 14, 17, 21), (0, 14, 21, 13)] 12 11 2056 287 G [.ref (P 0), .int x, .int s0, .int d, .int l0, .ref o] μ (pI fun c9 μ9 => wrp (sndC x s0 d l0) (fun w9 μ1 => ∃ v9 : Int32, w9 = v9.toInt64 ∧ sndC x s0 d l0 = 0 ∧ ((¬ isE (GVN d (S.rt (cl x)) (-1) (-1)) ∧ v9 = -1 ∧ μ = μ1) ∨ (isE (GVN d (S.rt (cl x)) (-1) (-1)) ∧ v9 = (SND S (cl x) (cl (GVN d (S.rt (cl x)) (-1) (-1))) s0 d l0).1 ∧ CTo G P μ (SND S (cl x) (cl (GVN d (S.rt (cl x)) (-1) (-1))) s0 d l0).2 μ1))) o μ c9 μ9) := by
  refine KonH.of (by decide +kernel) (Nat.le_of_ble_eq_true rfl) (Nat.le_of_ble_eq_true rfl) (fun Z hZG C E NN TT => ?_)
  subst hZG
  have C : Cx Z RL cL_send 12 11 2056 287 := C
  show HW Z 0 0 0 [some (.ref (P 0)), some (.int x), some (.int s0), some (.int d), some (.int l0), some (.ref o), none] [] μ
  refine h_al_w (j := 0) C dL_send_0 rfl rfv_r ?_
  refine h_iconst (v := 0) C dL_send_2 (by decide) ?_
  refine h_al_g C dL_send_3 rfl rfl rfv_r ?_
  refine h_iload_g C dL_send_4 rfl rfl ?_
  refine h_iload_g C dL_send_5 rfl rfl ?_
  refine h_iload_g C dL_send_6 rfl rfl ?_
  refine h_iload_w C dL_send_7 rfl ?_
  refine h_callV4 (ci := 8) C (k_X8_send Z.l Z.G P S _ hC x s0 d l0 hok) cw_L_37 im_X8_send sl_X8_send rfl (by decide) (CRep.kX hC) dL_send_9 (by first | decide | exact Nat.le_of_ble_eq_true rfl) (by decide) (by decide) (by decide) (by decide) (kI fun r1 μ1 hp1 => ?_) (fun X9 μ9 hx9 => ?_)
  · have hA := hp1
    have hFr : FrS isC μ μ1 := by
      first
        | exact hA.2.1 ▸ FrS.rf
        | exact hA.2.1.2
        | exact hA.2.2.2
        | exact hA.2.2 ▸ FrS.rf
        | (obtain ⟨-, S9, -, h⟩ := hA; exact h.2)
        | (rcases hA with ⟨-, ⟨-, -, h⟩ | ⟨-, -, h⟩⟩
           · exact h ▸ FrS.rf
           · exact h.2)
    have sO := (hFr o).1 (by rw [ho]; decide) (by rw [ho]; exact KLO_nC)
    have ho1 : μ1.kd o = KLO := sO.1.trans ho
    have hol1 : μ1.ln o = 1 := sO.2.2.2.2.1.trans hol
    refine h_i2l C dL_send_12 ?_
    refine h_last C dL_send_13 (by rw [ho1]; decide) (inb hol1 (vp_in_nI (n := 0) (by decide) (by decide))) ?_
    refine h_goto (tgt := 25) C dL_send_14 (by decide) ?_
    refine h_iconst (v := 0) C dL_send_25 (by decide) ?_
    refine h_iret C E dL_send_26 (by decide) (by decide) ?_
    exact ⟨_, rfl, Or.inl ⟨hA.1, rfl, _, _, ⟨_, rfl, hA⟩, rfl⟩⟩
  · obtain ⟨rfl, hx8⟩ := hx9
    rcases hx8 with ⟨rfl, hc9⟩ | ⟨rfl, hc9⟩
    · refine h_catch C NN TT [] (0, 14, 17, 21) [(0, 14, 21, 13)] rfl (fun _ h => absurd h List.not_mem_nil) (by decide) (by decide) lkx_IOB cst_IOB (fun q => ?_)
      refine h_ast_6 C dL_send_17 ct_r rfv_r ?_
      refine h_iconst (v := 1) C dL_send_19 (by decide) ?_
      refine h_iret C E dL_send_20 (by decide) (by decide) ?_
      exact ⟨_, rfl, Or.inr ⟨by rw [hc9]; decide, hc9.symm, rfl⟩⟩
    · refine h_catch C NN TT [(0, 14, 17, 21)] (0, 14, 21, 13) [] rfl (List.forall_mem_cons.mpr ⟨⟨by decide, xIOB, lkx_IOB, List.mem_of_getElem? (i := 6) rfl⟩, (fun _ h => absurd h List.not_mem_nil)⟩) (by decide) (by decide) lkx_IAE cst_IAE (fun q => ?_)
      refine h_ast_6 C dL_send_21 ct_r rfv_r ?_
      refine h_iconst (v := 2) C dL_send_23 (by decide) ?_
      refine h_iret C E dL_send_24 (by decide) (by decide) ?_
      exact ⟨_, rfl, Or.inr ⟨by rw [hc9]; decide, hc9.symm, rfl⟩⟩

set_option maxRecDepth 100000 in
set_option maxHeartbeats 1000000 in
theorem k_L_keep (l : Launch) (G : Gx) (P : Nat → Nat) (S : Sx) (μ : Mem) (hC : CRep G P S μ) (x y : Int32) (hok : okS S) (o : Nat) (ho : μ.kd o = KLO) (hol : μ.ln o = 1) : KonH l yL_keep cL_keep 5 (some .int) [(0, 17, 20, 21), (0, 17, 24, 13)] 11 6 1032 263 G [.ref (P 0), .int x, .int y, .ref o] μ (pI fun c9 μ9 => wrp (pairC x y) (fun w9 μ1 => (w9 = 1 ∧ pairC x y = 0 ∧ ∃ r, USE S (cl x) (cl y) = some r ∧ CTo G P μ (DATS S (cl x) (cl y) r (-1) (-1) (-1)) μ1) ∨ (w9 = 0 ∧ pairC x y = 0 ∧ USE S (cl x) (cl y) = none ∧ μ = μ1)) o μ c9 μ9) := by
  refine KonH.of (by decide +kernel) (Nat.le_of_ble_eq_true rfl) (Nat.le_of_ble_eq_true rfl) (fun Z hZG C E NN TT => ?_)
  subst hZG
  have C : Cx Z RL cL_keep 11 6 1032 263 := C
  show HW Z 0 0 0 [some (.ref (P 0)), some (.int x), some (.int y), some (.ref o), none] [] μ
  refine h_al_g C dL_keep_0 rfl rfl rfv_r ?_
  refine h_iconst (v := 0) C dL_keep_1 (by decide) ?_
  refine h_al_g C dL_keep_2 rfl rfl rfv_r ?_
  refine h_iload_g C dL_keep_3 rfl rfl ?_
  refine h_iload_g C dL_keep_4 rfl rfl ?_
  refine h_callV2 (ci := 8) C (k_X8_keep Z.l Z.G P S _ hC x y hok) cw_L_40 im_X8_keep sl_X8_keep rfl (by decide) (CRep.kX hC) dL_keep_5 (by first | decide | exact Nat.le_of_ble_eq_true rfl) (by decide) (by decide) (by decide) (by decide) (kB (fun μ1 hp1 => ?_) (fun μ1 hp1 => ?_)) (fun X9 μ9 hx9 => ?_)
  · have hA := hp1
    have hFr : FrS isC μ μ1 := by
      first
        | exact hA.2.1 ▸ FrS.rf
        | exact hA.2.1.2
        | exact hA.2.2.2
        | exact hA.2.2 ▸ FrS.rf
        | (obtain ⟨-, S9, -, h⟩ := hA; exact h.2)
        | (rcases hA with ⟨-, ⟨-, -, h⟩ | ⟨-, -, h⟩⟩
           · exact h ▸ FrS.rf
           · exact h.2)
    have sO := (hFr o).1 (by rw [ho]; decide) (by rw [ho]; exact KLO_nC)
    have ho1 : μ1.kd o = KLO := sO.1.trans ho
    have hol1 : μ1.ln o = 1 := sO.2.2.2.2.1.trans hol
    refine h_if_eq (tgt := 15) C dL_keep_8 (by decide) (fun c1 => absurd c1 (by decide)) (fun c1 => ?_)
    refine h_lconst (v := 1) C dL_keep_11 (by decide) ?_
    refine h_goto (tgt := 16) C dL_keep_12 (by decide) ?_
    refine h_last C dL_keep_16 (by rw [ho1]; decide) (inb hol1 (vp_in_nI (n := 0) (by decide) (by decide))) ?_
    refine h_goto (tgt := 28) C dL_keep_17 (by decide) ?_
    refine h_iconst (v := 0) C dL_keep_28 (by decide) ?_
    refine h_iret C E dL_keep_29 (by decide) (by decide) ?_
    exact ⟨_, rfl, Or.inl ⟨hA.1, rfl, _, _, Or.inl ⟨rfl, hA⟩, rfl⟩⟩
  · have hA := hp1
    have hFr : FrS isC μ μ1 := by
      first
        | exact hA.2.1 ▸ FrS.rf
        | exact hA.2.1.2
        | exact hA.2.2.2
        | exact hA.2.2 ▸ FrS.rf
        | (obtain ⟨-, S9, -, h⟩ := hA; exact h.2)
        | (rcases hA with ⟨-, ⟨-, -, h⟩ | ⟨-, -, h⟩⟩
           · exact h ▸ FrS.rf
           · exact h.2)
    have sO := (hFr o).1 (by rw [ho]; decide) (by rw [ho]; exact KLO_nC)
    have ho1 : μ1.kd o = KLO := sO.1.trans ho
    have hol1 : μ1.ln o = 1 := sO.2.2.2.2.1.trans hol
    refine h_if_eq (tgt := 15) C dL_keep_8 (by decide) (fun c2 => ?_) (fun c2 => absurd (by decide) c2)
    refine h_lconst (v := 0) C dL_keep_15 (by decide) ?_
    refine h_last C dL_keep_16 (by rw [ho1]; decide) (inb hol1 (vp_in_nI (n := 0) (by decide) (by decide))) ?_
    refine h_goto (tgt := 28) C dL_keep_17 (by decide) ?_
    refine h_iconst (v := 0) C dL_keep_28 (by decide) ?_
    refine h_iret C E dL_keep_29 (by decide) (by decide) ?_
    exact ⟨_, rfl, Or.inl ⟨hA.1, rfl, _, _, Or.inr ⟨rfl, hA⟩, rfl⟩⟩
  · obtain ⟨rfl, hx8⟩ := hx9
    rcases hx8 with ⟨rfl, hc9⟩ | ⟨rfl, hc9⟩
    · refine h_catch C NN TT [] (0, 17, 20, 21) [(0, 17, 24, 13)] rfl (fun _ h => absurd h List.not_mem_nil) (by decide) (by decide) lkx_IOB cst_IOB (fun q => ?_)
      refine h_ast_4 C dL_keep_20 ct_r rfv_r ?_
      refine h_iconst (v := 1) C dL_keep_22 (by decide) ?_
      refine h_iret C E dL_keep_23 (by decide) (by decide) ?_
      exact ⟨_, rfl, Or.inr ⟨by rw [hc9]; decide, hc9.symm, rfl⟩⟩
    · refine h_catch C NN TT [(0, 17, 20, 21)] (0, 17, 24, 13) [] rfl (List.forall_mem_cons.mpr ⟨⟨by decide, xIOB, lkx_IOB, List.mem_of_getElem? (i := 6) rfl⟩, (fun _ h => absurd h List.not_mem_nil)⟩) (by decide) (by decide) lkx_IAE cst_IAE (fun q => ?_)
      refine h_ast_4 C dL_keep_24 ct_r rfv_r ?_
      refine h_iconst (v := 2) C dL_keep_26 (by decide) ?_
      refine h_iret C E dL_keep_27 (by decide) (by decide) ?_
      exact ⟨_, rfl, Or.inr ⟨by rw [hc9]; decide, hc9.symm, rfl⟩⟩

set_option maxRecDepth 100000 in
set_option maxHeartbeats 1000000 in
theorem k_L_greet (l : Launch) (G : Gx) (P : Nat → Nat) (S : Sx) (μ : Mem) (hC : CRep G P S μ) (x y : Int32) (hok : okS S) (o : Nat) (ho : μ.kd o = KLO) (hol : μ.ln o = 1) : KonH l yL_greet cL_greet 5 (some .int) [(0, 10, 13, 21), (0, 10, 17, 13), (0, 10, 21, 15)] 11 7 1036 261 G [.ref (P 0), .int x, .int y, .ref o] μ (pI fun c9 μ9 => wrp (greC S x y) (fun w9 μ1 => ∃ v9 : Int32, w9 = v9.toInt64 ∧ greC S x y = 0 ∧ v9 = HNUM S ∧ CTo G P μ (HELS S (cl x) (cl y)) μ1) o μ c9 μ9) := by
  refine KonH.of (by decide +kernel) (Nat.le_of_ble_eq_true rfl) (Nat.le_of_ble_eq_true rfl) (fun Z hZG C E NN TT => ?_)
  subst hZG
  have C : Cx Z RL cL_greet 11 7 1036 261 := C
  show HW Z 0 0 0 [some (.ref (P 0)), some (.int x), some (.int y), some (.ref o), none] [] μ
  refine h_al_g C dL_greet_0 rfl rfl rfv_r ?_
  refine h_iconst (v := 0) C dL_greet_1 (by decide) ?_
  refine h_al_g C dL_greet_2 rfl rfl rfv_r ?_
  refine h_iload_g C dL_greet_3 rfl rfl ?_
  refine h_iload_g C dL_greet_4 rfl rfl ?_
  refine h_callV2 (ci := 8) C (k_X8_greet Z.l Z.G P S _ hC x y hok) cw_L_44 im_X8_greet sl_X8_greet rfl (by decide) (CRep.kX hC) dL_greet_5 (by first | decide | exact Nat.le_of_ble_eq_true rfl) (by decide) (by decide) (by decide) (by decide) (kI fun r1 μ1 hp1 => ?_) (fun X9 μ9 hx9 => ?_)
  · have hA := hp1
    have hFr : FrS isC μ μ1 := by
      first
        | exact hA.2.1 ▸ FrS.rf
        | exact hA.2.1.2
        | exact hA.2.2.2
        | exact hA.2.2 ▸ FrS.rf
        | (obtain ⟨-, S9, -, h⟩ := hA; exact h.2)
        | (rcases hA with ⟨-, ⟨-, -, h⟩ | ⟨-, -, h⟩⟩
           · exact h ▸ FrS.rf
           · exact h.2)
    have sO := (hFr o).1 (by rw [ho]; decide) (by rw [ho]; exact KLO_nC)
    have ho1 : μ1.kd o = KLO := sO.1.trans ho
    have hol1 : μ1.ln o = 1 := sO.2.2.2.2.1.trans hol
    refine h_i2l C dL_greet_8 ?_
    refine h_last C dL_greet_9 (by rw [ho1]; decide) (inb hol1 (vp_in_nI (n := 0) (by decide) (by decide))) ?_
    refine h_goto (tgt := 25) C dL_greet_10 (by decide) ?_
    refine h_iconst (v := 0) C dL_greet_25 (by decide) ?_
    refine h_iret C E dL_greet_26 (by decide) (by decide) ?_
    exact ⟨_, rfl, Or.inl ⟨hA.1, rfl, _, _, ⟨_, rfl, hA⟩, rfl⟩⟩
  · obtain ⟨rfl, hx8⟩ := hx9
    rcases hx8 with ⟨rfl, hc9⟩ | ⟨rfl, hc9⟩ | ⟨rfl, hc9⟩
    · refine h_catch C NN TT [] (0, 10, 13, 21) [(0, 10, 17, 13), (0, 10, 21, 15)] rfl (fun _ h => absurd h List.not_mem_nil) (by decide) (by decide) lkx_IOB cst_IOB (fun q => ?_)
      refine h_ast_4 C dL_greet_13 ct_r rfv_r ?_
      refine h_iconst (v := 1) C dL_greet_15 (by decide) ?_
      refine h_iret C E dL_greet_16 (by decide) (by decide) ?_
      exact ⟨_, rfl, Or.inr ⟨by rw [hc9]; decide, hc9.symm, rfl⟩⟩
    · refine h_catch C NN TT [(0, 10, 13, 21)] (0, 10, 17, 13) [(0, 10, 21, 15)] rfl (List.forall_mem_cons.mpr ⟨⟨by decide, xIOB, lkx_IOB, List.mem_of_getElem? (i := 6) rfl⟩, (fun _ h => absurd h List.not_mem_nil)⟩) (by decide) (by decide) lkx_IAE cst_IAE (fun q => ?_)
      refine h_ast_4 C dL_greet_17 ct_r rfv_r ?_
      refine h_iconst (v := 2) C dL_greet_19 (by decide) ?_
      refine h_iret C E dL_greet_20 (by decide) (by decide) ?_
      exact ⟨_, rfl, Or.inr ⟨by rw [hc9]; decide, hc9.symm, rfl⟩⟩
    · refine h_catch C NN TT [(0, 10, 13, 21), (0, 10, 17, 13)] (0, 10, 21, 15) [] rfl (List.forall_mem_cons.mpr ⟨⟨by decide, xIOB, lkx_IOB, List.mem_of_getElem? (i := 7) rfl⟩, (List.forall_mem_cons.mpr ⟨⟨by decide, xIAE, lkx_IAE, List.mem_of_getElem? (i := 0) rfl⟩, (fun _ h => absurd h List.not_mem_nil)⟩)⟩) (by decide) (by decide) lkx_ISE cst_ISE (fun q => ?_)
      refine h_ast_4 C dL_greet_21 ct_r rfv_r ?_
      refine h_iconst (v := 3) C dL_greet_23 (by decide) ?_
      refine h_iret C E dL_greet_24 (by decide) (by decide) ?_
      exact ⟨_, rfl, Or.inr ⟨by rw [hc9]; decide, hc9.symm, rfl⟩⟩

set_option maxRecDepth 100000 in
set_option maxHeartbeats 1000000 in
theorem k_L_deliver (l : Launch) (G : Gx) (P : Nat → Nat) (S : Sx) (μ : Mem) (hC : CRep G P S μ) (x : Int32) (hok : okS S) (o : Nat) (ho : μ.kd o = KLO) (hol : μ.ln o = 1) : KonH l yL_deliver cL_deliver 4 (some .int) [(0, 9, 12, 21)] 13 15 5066 318 G [.ref (P 0), .int x, .ref o] μ (pI fun c9 μ9 => wrp (letC S x) (fun w9 μ1 => ∃ v9 : Int32, w9 = v9.toInt64 ∧ letC S x = 0 ∧ ∃ S9, GOT (S.sNt (S.nt.eraseIdx (cl x))) (LTR S (cl x)) v9 S9 ∧ CTo G P μ (DLF S9 v9) μ1) o μ c9 μ9) := by
  refine KonH.of (by decide +kernel) (Nat.le_of_ble_eq_true rfl) (Nat.le_of_ble_eq_true rfl) (fun Z hZG C E NN TT => ?_)
  subst hZG
  have C : Cx Z RL cL_deliver 13 15 5066 318 := C
  show HW Z 0 0 0 [some (.ref (P 0)), some (.int x), some (.ref o), none] [] μ
  refine h_al_g C dL_deliver_0 rfl rfl rfv_r ?_
  refine h_iconst (v := 0) C dL_deliver_1 (by decide) ?_
  refine h_al_g C dL_deliver_2 rfl rfl rfv_r ?_
  refine h_iload_g C dL_deliver_3 rfl rfl ?_
  refine h_callV1 (ci := 8) C (k_X8_deliver Z.l Z.G P S _ hC x hok) cw_L_47 im_X8_deliver sl_X8_deliver rfl (by decide) (CRep.kX hC) dL_deliver_4 (by first | decide | exact Nat.le_of_ble_eq_true rfl) (by decide) (by decide) (by decide) (by decide) (kI fun r1 μ1 hp1 => ?_) (fun X9 μ9 hx9 => ?_)
  · have hA := hp1
    have hFr : FrS isC μ μ1 := by
      first
        | exact hA.2.1 ▸ FrS.rf
        | exact hA.2.1.2
        | exact hA.2.2.2
        | exact hA.2.2 ▸ FrS.rf
        | (obtain ⟨-, S9, -, h⟩ := hA; exact h.2)
        | (rcases hA with ⟨-, ⟨-, -, h⟩ | ⟨-, -, h⟩⟩
           · exact h ▸ FrS.rf
           · exact h.2)
    have sO := (hFr o).1 (by rw [ho]; decide) (by rw [ho]; exact KLO_nC)
    have ho1 : μ1.kd o = KLO := sO.1.trans ho
    have hol1 : μ1.ln o = 1 := sO.2.2.2.2.1.trans hol
    refine h_i2l C dL_deliver_7 ?_
    refine h_last C dL_deliver_8 (by rw [ho1]; decide) (inb hol1 (vp_in_nI (n := 0) (by decide) (by decide))) ?_
    refine h_goto (tgt := 15) C dL_deliver_9 (by decide) ?_
    refine h_iconst (v := 0) C dL_deliver_15 (by decide) ?_
    refine h_iret C E dL_deliver_16 (by decide) (by decide) ?_
    exact ⟨_, rfl, Or.inl ⟨hA.1, rfl, _, _, ⟨_, rfl, hA⟩, rfl⟩⟩
  · obtain ⟨rfl, rfl, hc9⟩ := hx9
    · refine h_catch C NN TT [] (0, 9, 12, 21) [] rfl (fun _ h => absurd h List.not_mem_nil) (by decide) (by decide) lkx_IOB cst_IOB (fun q => ?_)
      refine h_ast_3 C dL_deliver_12 ct_r rfv_r ?_
      refine h_iconst (v := 1) C dL_deliver_13 (by decide) ?_
      refine h_iret C E dL_deliver_14 (by decide) (by decide) ?_
      exact ⟨_, rfl, Or.inr ⟨by rw [hc9]; decide, hc9.symm, rfl⟩⟩

set_option maxRecDepth 100000 in
set_option maxHeartbeats 1000000 in
theorem k_L_lose (l : Launch) (G : Gx) (P : Nat → Nat) (S : Sx) (μ : Mem) (hC : CRep G P S μ) (x : Int32) (o : Nat) (ho : μ.kd o = KLO) (hol : μ.ln o = 1) : KonH l yL_lose cL_lose 4 (some .int) [(0, 9, 12, 21)] 8 1 6 124 G [.ref (P 0), .int x, .ref o] μ (pI fun c9 μ9 => wrp (letC S x) (fun w9 μ1 => ∃ v9 : Int32, w9 = v9.toInt64 ∧ letC S x = 0 ∧ CTo G P μ (S.sNt (S.nt.eraseIdx (cl x))) μ1 ∧ v9 = nI (S.nt.eraseIdx (cl x)).length) o μ c9 μ9) := by
  refine KonH.of (by decide +kernel) (Nat.le_of_ble_eq_true rfl) (Nat.le_of_ble_eq_true rfl) (fun Z hZG C E NN TT => ?_)
  subst hZG
  have C : Cx Z RL cL_lose 8 1 6 124 := C
  show HW Z 0 0 0 [some (.ref (P 0)), some (.int x), some (.ref o), none] [] μ
  refine h_al_g C dL_lose_0 rfl rfl rfv_r ?_
  refine h_iconst (v := 0) C dL_lose_1 (by decide) ?_
  refine h_al_g C dL_lose_2 rfl rfl rfv_r ?_
  refine h_iload_g C dL_lose_3 rfl rfl ?_
  refine h_callV1 (ci := 8) C (k_X8_lose Z.l Z.G P S _ hC x) cw_L_50 im_X8_lose sl_X8_lose rfl (by decide) (CRep.kX hC) dL_lose_4 (by first | decide | exact Nat.le_of_ble_eq_true rfl) (by decide) (by decide) (by decide) (by decide) (kI fun r1 μ1 hp1 => ?_) (fun X9 μ9 hx9 => ?_)
  · have hA := hp1
    have hFr : FrS isC μ μ1 := by
      first
        | exact hA.2.1 ▸ FrS.rf
        | exact hA.2.1.2
        | exact hA.2.2.2
        | exact hA.2.2 ▸ FrS.rf
        | (obtain ⟨-, S9, -, h⟩ := hA; exact h.2)
        | (rcases hA with ⟨-, ⟨-, -, h⟩ | ⟨-, -, h⟩⟩
           · exact h ▸ FrS.rf
           · exact h.2)
    have sO := (hFr o).1 (by rw [ho]; decide) (by rw [ho]; exact KLO_nC)
    have ho1 : μ1.kd o = KLO := sO.1.trans ho
    have hol1 : μ1.ln o = 1 := sO.2.2.2.2.1.trans hol
    refine h_i2l C dL_lose_7 ?_
    refine h_last C dL_lose_8 (by rw [ho1]; decide) (inb hol1 (vp_in_nI (n := 0) (by decide) (by decide))) ?_
    refine h_goto (tgt := 15) C dL_lose_9 (by decide) ?_
    refine h_iconst (v := 0) C dL_lose_15 (by decide) ?_
    refine h_iret C E dL_lose_16 (by decide) (by decide) ?_
    exact ⟨_, rfl, Or.inl ⟨hA.1, rfl, _, _, ⟨_, rfl, hA⟩, rfl⟩⟩
  · obtain ⟨rfl, rfl, hc9⟩ := hx9
    · refine h_catch C NN TT [] (0, 9, 12, 21) [] rfl (fun _ h => absurd h List.not_mem_nil) (by decide) (by decide) lkx_IOB cst_IOB (fun q => ?_)
      refine h_ast_3 C dL_lose_12 ct_r rfv_r ?_
      refine h_iconst (v := 1) C dL_lose_13 (by decide) ?_
      refine h_iret C E dL_lose_14 (by decide) (by decide) ?_
      exact ⟨_, rfl, Or.inr ⟨by rw [hc9]; decide, hc9.symm, rfl⟩⟩

set_option maxRecDepth 100000 in
set_option maxHeartbeats 1000000 in
theorem k_L_twice (l : Launch) (G : Gx) (P : Nat → Nat) (S : Sx) (μ : Mem) (hC : CRep G P S μ) (x : Int32) (o : Nat) (ho : μ.kd o = KLO) (hol : μ.ln o = 1) : KonH l yL_twice cL_twice 4 (some .int) [(0, 9, 12, 21), (0, 9, 15, 15)] 9 4 1020 213 G [.ref (P 0), .int x, .ref o] μ (pI fun c9 μ9 => wrp (twiC S x) (fun w9 μ1 => ∃ v9 : Int32, w9 = v9.toInt64 ∧ twiC S x = 0 ∧ CTo G P μ (S.sNt (S.nt ++ [LTR S (cl x)])) μ1 ∧ v9 = nI (S.nt.length + 1)) o μ c9 μ9) := by
  refine KonH.of (by decide +kernel) (Nat.le_of_ble_eq_true rfl) (Nat.le_of_ble_eq_true rfl) (fun Z hZG C E NN TT => ?_)
  subst hZG
  have C : Cx Z RL cL_twice 9 4 1020 213 := C
  show HW Z 0 0 0 [some (.ref (P 0)), some (.int x), some (.ref o), none] [] μ
  refine h_al_g C dL_twice_0 rfl rfl rfv_r ?_
  refine h_iconst (v := 0) C dL_twice_1 (by decide) ?_
  refine h_al_g C dL_twice_2 rfl rfl rfv_r ?_
  refine h_iload_g C dL_twice_3 rfl rfl ?_
  refine h_callV1 (ci := 8) C (k_X8_twice Z.l Z.G P S _ hC x) cw_L_53 im_X8_twice sl_X8_twice rfl (by decide) (CRep.kX hC) dL_twice_4 (by first | decide | exact Nat.le_of_ble_eq_true rfl) (by decide) (by decide) (by decide) (by decide) (kI fun r1 μ1 hp1 => ?_) (fun X9 μ9 hx9 => ?_)
  · have hA := hp1
    have hFr : FrS isC μ μ1 := by
      first
        | exact hA.2.1 ▸ FrS.rf
        | exact hA.2.1.2
        | exact hA.2.2.2
        | exact hA.2.2 ▸ FrS.rf
        | (obtain ⟨-, S9, -, h⟩ := hA; exact h.2)
        | (rcases hA with ⟨-, ⟨-, -, h⟩ | ⟨-, -, h⟩⟩
           · exact h ▸ FrS.rf
           · exact h.2)
    have sO := (hFr o).1 (by rw [ho]; decide) (by rw [ho]; exact KLO_nC)
    have ho1 : μ1.kd o = KLO := sO.1.trans ho
    have hol1 : μ1.ln o = 1 := sO.2.2.2.2.1.trans hol
    refine h_i2l C dL_twice_7 ?_
    refine h_last C dL_twice_8 (by rw [ho1]; decide) (inb hol1 (vp_in_nI (n := 0) (by decide) (by decide))) ?_
    refine h_goto (tgt := 18) C dL_twice_9 (by decide) ?_
    refine h_iconst (v := 0) C dL_twice_18 (by decide) ?_
    refine h_iret C E dL_twice_19 (by decide) (by decide) ?_
    exact ⟨_, rfl, Or.inl ⟨hA.1, rfl, _, _, ⟨_, rfl, hA⟩, rfl⟩⟩
  · obtain ⟨rfl, hx8⟩ := hx9
    rcases hx8 with ⟨rfl, hc9⟩ | ⟨rfl, hc9⟩
    · refine h_catch C NN TT [] (0, 9, 12, 21) [(0, 9, 15, 15)] rfl (fun _ h => absurd h List.not_mem_nil) (by decide) (by decide) lkx_IOB cst_IOB (fun q => ?_)
      refine h_ast_3 C dL_twice_12 ct_r rfv_r ?_
      refine h_iconst (v := 1) C dL_twice_13 (by decide) ?_
      refine h_iret C E dL_twice_14 (by decide) (by decide) ?_
      exact ⟨_, rfl, Or.inr ⟨by rw [hc9]; decide, hc9.symm, rfl⟩⟩
    · refine h_catch C NN TT [(0, 9, 12, 21)] (0, 9, 15, 15) [] rfl (List.forall_mem_cons.mpr ⟨⟨by decide, xIOB, lkx_IOB, List.mem_of_getElem? (i := 7) rfl⟩, (fun _ h => absurd h List.not_mem_nil)⟩) (by decide) (by decide) lkx_ISE cst_ISE (fun q => ?_)
      refine h_ast_3 C dL_twice_15 ct_r rfv_r ?_
      refine h_iconst (v := 2) C dL_twice_16 (by decide) ?_
      refine h_iret C E dL_twice_17 (by decide) (by decide) ?_
      exact ⟨_, rfl, Or.inr ⟨by rw [hc9]; decide, hc9.symm, rfl⟩⟩

set_option maxRecDepth 100000 in
set_option maxHeartbeats 1000000 in
theorem k_L_turn (l : Launch) (G : Gx) (P : Nat → Nat) (S : Sx) (μ : Mem) (hC : CRep G P S μ) (x f z : Int32) (hsent : ∀ g ∈ S.nt, okSent g) (o : Nat) (ho : μ.kd o = KLO) (hol : μ.ln o = 1) : KonH l yL_turn cL_turn 6 (some .int) [(0, 12, 15, 21), (0, 12, 19, 13), (0, 12, 23, 15)] 8 3 18 129 G [.ref (P 0), .int x, .int f, .int z, .ref o] μ (pI fun c9 μ9 => wrp (trnC S x f z) (fun w9 μ1 => ∃ v9 : Int32, w9 = v9.toInt64 ∧ trnC S x f z = 0 ∧ CTo G P μ (S.sNt (S.nt.set (cl x) (TRN (LTR S (cl x)) f z))) μ1 ∧ v9 = LTR S (cl x) (3 + cl f) + z) o μ c9 μ9) := by
  refine KonH.of (by decide +kernel) (Nat.le_of_ble_eq_true rfl) (Nat.le_of_ble_eq_true rfl) (fun Z hZG C E NN TT => ?_)
  subst hZG
  have C : Cx Z RL cL_turn 8 3 18 129 := C
  show HW Z 0 0 0 [some (.ref (P 0)), some (.int x), some (.int f), some (.int z), some (.ref o), none] [] μ
  refine h_al_w (j := 0) C dL_turn_0 rfl rfv_r ?_
  refine h_iconst (v := 0) C dL_turn_2 (by decide) ?_
  refine h_al_g C dL_turn_3 rfl rfl rfv_r ?_
  refine h_iload_g C dL_turn_4 rfl rfl ?_
  refine h_iload_g C dL_turn_5 rfl rfl ?_
  refine h_iload_g C dL_turn_6 rfl rfl ?_
  refine h_callV3 (ci := 8) C (k_X8_turn Z.l Z.G P S _ hC x f z hsent) cw_L_56 im_X8_turn sl_X8_turn rfl (by decide) (CRep.kX hC) dL_turn_7 (by first | decide | exact Nat.le_of_ble_eq_true rfl) (by decide) (by decide) (by decide) (by decide) (kI fun r1 μ1 hp1 => ?_) (fun X9 μ9 hx9 => ?_)
  · have hA := hp1
    have hFr : FrS isC μ μ1 := by
      first
        | exact hA.2.1 ▸ FrS.rf
        | exact hA.2.1.2
        | exact hA.2.2.2
        | exact hA.2.2 ▸ FrS.rf
        | (obtain ⟨-, S9, -, h⟩ := hA; exact h.2)
        | (rcases hA with ⟨-, ⟨-, -, h⟩ | ⟨-, -, h⟩⟩
           · exact h ▸ FrS.rf
           · exact h.2)
    have sO := (hFr o).1 (by rw [ho]; decide) (by rw [ho]; exact KLO_nC)
    have ho1 : μ1.kd o = KLO := sO.1.trans ho
    have hol1 : μ1.ln o = 1 := sO.2.2.2.2.1.trans hol
    refine h_i2l C dL_turn_10 ?_
    refine h_last C dL_turn_11 (by rw [ho1]; decide) (inb hol1 (vp_in_nI (n := 0) (by decide) (by decide))) ?_
    refine h_goto (tgt := 27) C dL_turn_12 (by decide) ?_
    refine h_iconst (v := 0) C dL_turn_27 (by decide) ?_
    refine h_iret C E dL_turn_28 (by decide) (by decide) ?_
    exact ⟨_, rfl, Or.inl ⟨hA.1, rfl, _, _, ⟨_, rfl, hA⟩, rfl⟩⟩
  · obtain ⟨rfl, hx8⟩ := hx9
    rcases hx8 with ⟨rfl, hc9⟩ | ⟨rfl, hc9⟩ | ⟨rfl, hc9⟩
    · refine h_catch C NN TT [] (0, 12, 15, 21) [(0, 12, 19, 13), (0, 12, 23, 15)] rfl (fun _ h => absurd h List.not_mem_nil) (by decide) (by decide) lkx_IOB cst_IOB (fun q => ?_)
      refine h_ast_5 C dL_turn_15 ct_r rfv_r ?_
      refine h_iconst (v := 1) C dL_turn_17 (by decide) ?_
      refine h_iret C E dL_turn_18 (by decide) (by decide) ?_
      exact ⟨_, rfl, Or.inr ⟨by rw [hc9]; decide, hc9.symm, rfl⟩⟩
    · refine h_catch C NN TT [(0, 12, 15, 21)] (0, 12, 19, 13) [(0, 12, 23, 15)] rfl (List.forall_mem_cons.mpr ⟨⟨by decide, xIOB, lkx_IOB, List.mem_of_getElem? (i := 6) rfl⟩, (fun _ h => absurd h List.not_mem_nil)⟩) (by decide) (by decide) lkx_IAE cst_IAE (fun q => ?_)
      refine h_ast_5 C dL_turn_19 ct_r rfv_r ?_
      refine h_iconst (v := 2) C dL_turn_21 (by decide) ?_
      refine h_iret C E dL_turn_22 (by decide) (by decide) ?_
      exact ⟨_, rfl, Or.inr ⟨by rw [hc9]; decide, hc9.symm, rfl⟩⟩
    · refine h_catch C NN TT [(0, 12, 15, 21), (0, 12, 19, 13)] (0, 12, 23, 15) [] rfl (List.forall_mem_cons.mpr ⟨⟨by decide, xIOB, lkx_IOB, List.mem_of_getElem? (i := 7) rfl⟩, (List.forall_mem_cons.mpr ⟨⟨by decide, xIAE, lkx_IAE, List.mem_of_getElem? (i := 0) rfl⟩, (fun _ h => absurd h List.not_mem_nil)⟩)⟩) (by decide) (by decide) lkx_ISE cst_ISE (fun q => ?_)
      refine h_ast_5 C dL_turn_23 ct_r rfv_r ?_
      refine h_iconst (v := 3) C dL_turn_25 (by decide) ?_
      refine h_iret C E dL_turn_26 (by decide) (by decide) ?_
      exact ⟨_, rfl, Or.inr ⟨by rw [hc9]; decide, hc9.symm, rfl⟩⟩

set_option maxRecDepth 100000 in
set_option maxHeartbeats 1000000 in
theorem k_L_reroute (l : Launch) (G : Gx) (P : Nat → Nat) (S : Sx) (μ : Mem) (hC : CRep G P S μ) (x y : Int32) (o : Nat) (ho : μ.kd o = KLO) (hol : μ.ln o = 1) : KonH l yL_reroute cL_reroute 5 (some .int) [(0, 10, 13, 21), (0, 10, 17, 13)] 8 2 12 128 G [.ref (P 0), .int x, .int y, .ref o] μ (pI fun c9 μ9 => wrp (rerC S x y) (fun w9 μ1 => ∃ v9 : Int32, w9 = v9.toInt64 ∧ rerC S x y = 0 ∧ CTo G P μ (S.sNt (S.nt.set (cl x) (u1 (LTR S (cl x)) 0 y))) μ1 ∧ v9 = LTR S (cl x) 0) o μ c9 μ9) := by
  refine KonH.of (by decide +kernel) (Nat.le_of_ble_eq_true rfl) (Nat.le_of_ble_eq_true rfl) (fun Z hZG C E NN TT => ?_)
  subst hZG
  have C : Cx Z RL cL_reroute 8 2 12 128 := C
  show HW Z 0 0 0 [some (.ref (P 0)), some (.int x), some (.int y), some (.ref o), none] [] μ
  refine h_al_g C dL_reroute_0 rfl rfl rfv_r ?_
  refine h_iconst (v := 0) C dL_reroute_1 (by decide) ?_
  refine h_al_g C dL_reroute_2 rfl rfl rfv_r ?_
  refine h_iload_g C dL_reroute_3 rfl rfl ?_
  refine h_iload_g C dL_reroute_4 rfl rfl ?_
  refine h_callV2 (ci := 8) C (k_X8_reroute Z.l Z.G P S _ hC x y) cw_L_59 im_X8_reroute sl_X8_reroute rfl (by decide) (CRep.kX hC) dL_reroute_5 (by first | decide | exact Nat.le_of_ble_eq_true rfl) (by decide) (by decide) (by decide) (by decide) (kI fun r1 μ1 hp1 => ?_) (fun X9 μ9 hx9 => ?_)
  · have hA := hp1
    have hFr : FrS isC μ μ1 := by
      first
        | exact hA.2.1 ▸ FrS.rf
        | exact hA.2.1.2
        | exact hA.2.2.2
        | exact hA.2.2 ▸ FrS.rf
        | (obtain ⟨-, S9, -, h⟩ := hA; exact h.2)
        | (rcases hA with ⟨-, ⟨-, -, h⟩ | ⟨-, -, h⟩⟩
           · exact h ▸ FrS.rf
           · exact h.2)
    have sO := (hFr o).1 (by rw [ho]; decide) (by rw [ho]; exact KLO_nC)
    have ho1 : μ1.kd o = KLO := sO.1.trans ho
    have hol1 : μ1.ln o = 1 := sO.2.2.2.2.1.trans hol
    refine h_i2l C dL_reroute_8 ?_
    refine h_last C dL_reroute_9 (by rw [ho1]; decide) (inb hol1 (vp_in_nI (n := 0) (by decide) (by decide))) ?_
    refine h_goto (tgt := 21) C dL_reroute_10 (by decide) ?_
    refine h_iconst (v := 0) C dL_reroute_21 (by decide) ?_
    refine h_iret C E dL_reroute_22 (by decide) (by decide) ?_
    exact ⟨_, rfl, Or.inl ⟨hA.1, rfl, _, _, ⟨_, rfl, hA⟩, rfl⟩⟩
  · obtain ⟨rfl, hx8⟩ := hx9
    rcases hx8 with ⟨rfl, hc9⟩ | ⟨rfl, hc9⟩
    · refine h_catch C NN TT [] (0, 10, 13, 21) [(0, 10, 17, 13)] rfl (fun _ h => absurd h List.not_mem_nil) (by decide) (by decide) lkx_IOB cst_IOB (fun q => ?_)
      refine h_ast_4 C dL_reroute_13 ct_r rfv_r ?_
      refine h_iconst (v := 1) C dL_reroute_15 (by decide) ?_
      refine h_iret C E dL_reroute_16 (by decide) (by decide) ?_
      exact ⟨_, rfl, Or.inr ⟨by rw [hc9]; decide, hc9.symm, rfl⟩⟩
    · refine h_catch C NN TT [(0, 10, 13, 21)] (0, 10, 17, 13) [] rfl (List.forall_mem_cons.mpr ⟨⟨by decide, xIOB, lkx_IOB, List.mem_of_getElem? (i := 6) rfl⟩, (fun _ h => absurd h List.not_mem_nil)⟩) (by decide) (by decide) lkx_IAE cst_IAE (fun q => ?_)
      refine h_ast_4 C dL_reroute_17 ct_r rfv_r ?_
      refine h_iconst (v := 2) C dL_reroute_19 (by decide) ?_
      refine h_iret C E dL_reroute_20 (by decide) (by decide) ?_
      exact ⟨_, rfl, Or.inr ⟨by rw [hc9]; decide, hc9.symm, rfl⟩⟩

set_option maxRecDepth 100000 in
set_option maxHeartbeats 1000000 in
theorem k_L_later (l : Launch) (G : Gx) (P : Nat → Nat) (S : Sx) (μ : Mem) (hC : CRep G P S μ) (x : Int32) (o : Nat) (ho : μ.kd o = KLO) (hol : μ.ln o = 1) : KonH l yL_later cL_later 4 (some .int) [(0, 9, 12, 21)] 9 2 1006 213 G [.ref (P 0), .int x, .ref o] μ (pI fun c9 μ9 => wrp (letC S x) (fun w9 μ1 => ∃ v9 : Int32, w9 = v9.toInt64 ∧ letC S x = 0 ∧ CTo G P μ (S.sNt (S.nt.eraseIdx (cl x) ++ [LTR S (cl x)])) μ1 ∧ v9 = nI S.nt.length - 1) o μ c9 μ9) := by
  refine KonH.of (by decide +kernel) (Nat.le_of_ble_eq_true rfl) (Nat.le_of_ble_eq_true rfl) (fun Z hZG C E NN TT => ?_)
  subst hZG
  have C : Cx Z RL cL_later 9 2 1006 213 := C
  show HW Z 0 0 0 [some (.ref (P 0)), some (.int x), some (.ref o), none] [] μ
  refine h_al_g C dL_later_0 rfl rfl rfv_r ?_
  refine h_iconst (v := 0) C dL_later_1 (by decide) ?_
  refine h_al_g C dL_later_2 rfl rfl rfv_r ?_
  refine h_iload_g C dL_later_3 rfl rfl ?_
  refine h_callV1 (ci := 8) C (k_X8_later Z.l Z.G P S _ hC x) cw_L_62 im_X8_later sl_X8_later rfl (by decide) (CRep.kX hC) dL_later_4 (by first | decide | exact Nat.le_of_ble_eq_true rfl) (by decide) (by decide) (by decide) (by decide) (kI fun r1 μ1 hp1 => ?_) (fun X9 μ9 hx9 => ?_)
  · have hA := hp1
    have hFr : FrS isC μ μ1 := by
      first
        | exact hA.2.1 ▸ FrS.rf
        | exact hA.2.1.2
        | exact hA.2.2.2
        | exact hA.2.2 ▸ FrS.rf
        | (obtain ⟨-, S9, -, h⟩ := hA; exact h.2)
        | (rcases hA with ⟨-, ⟨-, -, h⟩ | ⟨-, -, h⟩⟩
           · exact h ▸ FrS.rf
           · exact h.2)
    have sO := (hFr o).1 (by rw [ho]; decide) (by rw [ho]; exact KLO_nC)
    have ho1 : μ1.kd o = KLO := sO.1.trans ho
    have hol1 : μ1.ln o = 1 := sO.2.2.2.2.1.trans hol
    refine h_i2l C dL_later_7 ?_
    refine h_last C dL_later_8 (by rw [ho1]; decide) (inb hol1 (vp_in_nI (n := 0) (by decide) (by decide))) ?_
    refine h_goto (tgt := 15) C dL_later_9 (by decide) ?_
    refine h_iconst (v := 0) C dL_later_15 (by decide) ?_
    refine h_iret C E dL_later_16 (by decide) (by decide) ?_
    exact ⟨_, rfl, Or.inl ⟨hA.1, rfl, _, _, ⟨_, rfl, hA⟩, rfl⟩⟩
  · obtain ⟨rfl, rfl, hc9⟩ := hx9
    · refine h_catch C NN TT [] (0, 9, 12, 21) [] rfl (fun _ h => absurd h List.not_mem_nil) (by decide) (by decide) lkx_IOB cst_IOB (fun q => ?_)
      refine h_ast_3 C dL_later_12 ct_r rfv_r ?_
      refine h_iconst (v := 1) C dL_later_13 (by decide) ?_
      refine h_iret C E dL_later_14 (by decide) (by decide) ?_
      exact ⟨_, rfl, Or.inr ⟨by rw [hc9]; decide, hc9.symm, rfl⟩⟩

set_option maxRecDepth 100000 in
set_option maxHeartbeats 1000000 in
theorem k_L_letter (l : Launch) (G : Gx) (P : Nat → Nat) (S : Sx) (μ : Mem) (hC : CRep G P S μ) (x y : Int32) (o : Nat) (ho : μ.kd o = KLO) (hol : μ.ln o = 1) : KonH l yL_letter cL_letter 5 (some .int) [(0, 10, 13, 21), (0, 10, 17, 13)] 8 2 12 127 G [.ref (P 0), .int x, .int y, .ref o] μ (pI fun c9 μ9 => wrp (lttC S x y) (fun w9 μ1 => ∃ v9 : Int32, w9 = v9.toInt64 ∧ lttC S x y = 0 ∧ μ = μ1 ∧ v9 = LTR S (cl x) (cl y)) o μ c9 μ9) := by
  refine KonH.of (by decide +kernel) (Nat.le_of_ble_eq_true rfl) (Nat.le_of_ble_eq_true rfl) (fun Z hZG C E NN TT => ?_)
  subst hZG
  have C : Cx Z RL cL_letter 8 2 12 127 := C
  show HW Z 0 0 0 [some (.ref (P 0)), some (.int x), some (.int y), some (.ref o), none] [] μ
  refine h_al_g C dL_letter_0 rfl rfl rfv_r ?_
  refine h_iconst (v := 0) C dL_letter_1 (by decide) ?_
  refine h_al_g C dL_letter_2 rfl rfl rfv_r ?_
  refine h_iload_g C dL_letter_3 rfl rfl ?_
  refine h_iload_g C dL_letter_4 rfl rfl ?_
  refine h_callV2 (ci := 8) C (k_X8_letter Z.l Z.G P S _ hC x y) cw_L_65 im_X8_letter sl_X8_letter rfl (by decide) (CRep.kX hC) dL_letter_5 (by first | decide | exact Nat.le_of_ble_eq_true rfl) (by decide) (by decide) (by decide) (by decide) (kI fun r1 μ1 hp1 => ?_) (fun X9 μ9 hx9 => ?_)
  · have hA := hp1
    have hFr : FrS isC μ μ1 := by
      first
        | exact hA.2.1 ▸ FrS.rf
        | exact hA.2.1.2
        | exact hA.2.2.2
        | exact hA.2.2 ▸ FrS.rf
        | (obtain ⟨-, S9, -, h⟩ := hA; exact h.2)
        | (rcases hA with ⟨-, ⟨-, -, h⟩ | ⟨-, -, h⟩⟩
           · exact h ▸ FrS.rf
           · exact h.2)
    have sO := (hFr o).1 (by rw [ho]; decide) (by rw [ho]; exact KLO_nC)
    have ho1 : μ1.kd o = KLO := sO.1.trans ho
    have hol1 : μ1.ln o = 1 := sO.2.2.2.2.1.trans hol
    refine h_i2l C dL_letter_8 ?_
    refine h_last C dL_letter_9 (by rw [ho1]; decide) (inb hol1 (vp_in_nI (n := 0) (by decide) (by decide))) ?_
    refine h_goto (tgt := 21) C dL_letter_10 (by decide) ?_
    refine h_iconst (v := 0) C dL_letter_21 (by decide) ?_
    refine h_iret C E dL_letter_22 (by decide) (by decide) ?_
    exact ⟨_, rfl, Or.inl ⟨hA.1, rfl, _, _, ⟨_, rfl, hA⟩, rfl⟩⟩
  · obtain ⟨rfl, hx8⟩ := hx9
    rcases hx8 with ⟨rfl, hc9⟩ | ⟨rfl, hc9⟩
    · refine h_catch C NN TT [] (0, 10, 13, 21) [(0, 10, 17, 13)] rfl (fun _ h => absurd h List.not_mem_nil) (by decide) (by decide) lkx_IOB cst_IOB (fun q => ?_)
      refine h_ast_4 C dL_letter_13 ct_r rfv_r ?_
      refine h_iconst (v := 1) C dL_letter_15 (by decide) ?_
      refine h_iret C E dL_letter_16 (by decide) (by decide) ?_
      exact ⟨_, rfl, Or.inr ⟨by rw [hc9]; decide, hc9.symm, rfl⟩⟩
    · refine h_catch C NN TT [(0, 10, 13, 21)] (0, 10, 17, 13) [] rfl (List.forall_mem_cons.mpr ⟨⟨by decide, xIOB, lkx_IOB, List.mem_of_getElem? (i := 6) rfl⟩, (fun _ h => absurd h List.not_mem_nil)⟩) (by decide) (by decide) lkx_IAE cst_IAE (fun q => ?_)
      refine h_ast_4 C dL_letter_17 ct_r rfv_r ?_
      refine h_iconst (v := 2) C dL_letter_19 (by decide) ?_
      refine h_iret C E dL_letter_20 (by decide) (by decide) ?_
      exact ⟨_, rfl, Or.inr ⟨by rw [hc9]; decide, hc9.symm, rfl⟩⟩

set_option maxRecDepth 100000 in
set_option maxHeartbeats 1000000 in
theorem k_L_isTurned (l : Launch) (G : Gx) (P : Nat → Nat) (S : Sx) (μ : Mem) (hC : CRep G P S μ) (x : Int32) (o : Nat) (ho : μ.kd o = KLO) (hol : μ.ln o = 1) : KonH l yL_isTurned cL_isTurned 4 (some .int) [(0, 16, 19, 21)] 8 1 6 124 G [.ref (P 0), .int x, .ref o] μ (pI fun c9 μ9 => wrp (letC S x) (fun w9 μ1 => (w9 = 1 ∧ letC S x = 0 ∧ μ = μ1 ∧ DIF (LTR S (cl x))) ∨ (w9 = 0 ∧ letC S x = 0 ∧ μ = μ1 ∧ ¬ DIF (LTR S (cl x)))) o μ c9 μ9) := by
  refine KonH.of (by decide +kernel) (Nat.le_of_ble_eq_true rfl) (Nat.le_of_ble_eq_true rfl) (fun Z hZG C E NN TT => ?_)
  subst hZG
  have C : Cx Z RL cL_isTurned 8 1 6 124 := C
  show HW Z 0 0 0 [some (.ref (P 0)), some (.int x), some (.ref o), none] [] μ
  refine h_al_g C dL_isTurned_0 rfl rfl rfv_r ?_
  refine h_iconst (v := 0) C dL_isTurned_1 (by decide) ?_
  refine h_al_g C dL_isTurned_2 rfl rfl rfv_r ?_
  refine h_iload_g C dL_isTurned_3 rfl rfl ?_
  refine h_callV1 (ci := 8) C (k_X8_isTurned Z.l Z.G P S _ hC x) cw_L_68 im_X8_isTurned sl_X8_isTurned rfl (by decide) (CRep.kX hC) dL_isTurned_4 (by first | decide | exact Nat.le_of_ble_eq_true rfl) (by decide) (by decide) (by decide) (by decide) (kB (fun μ1 hp1 => ?_) (fun μ1 hp1 => ?_)) (fun X9 μ9 hx9 => ?_)
  · have hA := hp1
    have hFr : FrS isC μ μ1 := by
      first
        | exact hA.2.1 ▸ FrS.rf
        | exact hA.2.1.2
        | exact hA.2.2.2
        | exact hA.2.2 ▸ FrS.rf
        | (obtain ⟨-, S9, -, h⟩ := hA; exact h.2)
        | (rcases hA with ⟨-, ⟨-, -, h⟩ | ⟨-, -, h⟩⟩
           · exact h ▸ FrS.rf
           · exact h.2)
    have sO := (hFr o).1 (by rw [ho]; decide) (by rw [ho]; exact KLO_nC)
    have ho1 : μ1.kd o = KLO := sO.1.trans ho
    have hol1 : μ1.ln o = 1 := sO.2.2.2.2.1.trans hol
    refine h_if_eq (tgt := 14) C dL_isTurned_7 (by decide) (fun c1 => absurd c1 (by decide)) (fun c1 => ?_)
    refine h_lconst (v := 1) C dL_isTurned_10 (by decide) ?_
    refine h_goto (tgt := 15) C dL_isTurned_11 (by decide) ?_
    refine h_last C dL_isTurned_15 (by rw [ho1]; decide) (inb hol1 (vp_in_nI (n := 0) (by decide) (by decide))) ?_
    refine h_goto (tgt := 22) C dL_isTurned_16 (by decide) ?_
    refine h_iconst (v := 0) C dL_isTurned_22 (by decide) ?_
    refine h_iret C E dL_isTurned_23 (by decide) (by decide) ?_
    exact ⟨_, rfl, Or.inl ⟨hA.1, rfl, _, _, Or.inl ⟨rfl, hA⟩, rfl⟩⟩
  · have hA := hp1
    have hFr : FrS isC μ μ1 := by
      first
        | exact hA.2.1 ▸ FrS.rf
        | exact hA.2.1.2
        | exact hA.2.2.2
        | exact hA.2.2 ▸ FrS.rf
        | (obtain ⟨-, S9, -, h⟩ := hA; exact h.2)
        | (rcases hA with ⟨-, ⟨-, -, h⟩ | ⟨-, -, h⟩⟩
           · exact h ▸ FrS.rf
           · exact h.2)
    have sO := (hFr o).1 (by rw [ho]; decide) (by rw [ho]; exact KLO_nC)
    have ho1 : μ1.kd o = KLO := sO.1.trans ho
    have hol1 : μ1.ln o = 1 := sO.2.2.2.2.1.trans hol
    refine h_if_eq (tgt := 14) C dL_isTurned_7 (by decide) (fun c2 => ?_) (fun c2 => absurd (by decide) c2)
    refine h_lconst (v := 0) C dL_isTurned_14 (by decide) ?_
    refine h_last C dL_isTurned_15 (by rw [ho1]; decide) (inb hol1 (vp_in_nI (n := 0) (by decide) (by decide))) ?_
    refine h_goto (tgt := 22) C dL_isTurned_16 (by decide) ?_
    refine h_iconst (v := 0) C dL_isTurned_22 (by decide) ?_
    refine h_iret C E dL_isTurned_23 (by decide) (by decide) ?_
    exact ⟨_, rfl, Or.inl ⟨hA.1, rfl, _, _, Or.inr ⟨rfl, hA⟩, rfl⟩⟩
  · obtain ⟨rfl, rfl, hc9⟩ := hx9
    · refine h_catch C NN TT [] (0, 16, 19, 21) [] rfl (fun _ h => absurd h List.not_mem_nil) (by decide) (by decide) lkx_IOB cst_IOB (fun q => ?_)
      refine h_ast_3 C dL_isTurned_19 ct_r rfv_r ?_
      refine h_iconst (v := 1) C dL_isTurned_20 (by decide) ?_
      refine h_iret C E dL_isTurned_21 (by decide) (by decide) ?_
      exact ⟨_, rfl, Or.inr ⟨by rw [hc9]; decide, hc9.symm, rfl⟩⟩

set_option maxRecDepth 100000 in
set_option maxHeartbeats 1000000 in
theorem k_L_address (l : Launch) (G : Gx) (P : Nat → Nat) (S : Sx) (μ : Mem) (hC : CRep G P S μ) (x : Int32) (o : Nat) (ho : μ.kd o = KLO) (hol : μ.ln o = 1) : KonH l yL_address cL_address 4 (some .int) [(0, 9, 12, 21)] 8 1 6 124 G [.ref (P 0), .int x, .ref o] μ (pI fun c9 μ9 => wrp (endC x) (fun w9 μ1 => ∃ v9 : Int32, w9 = v9.toInt64 ∧ endC x = 0 ∧ μ = μ1 ∧ v9 = S.ef 0 (cl x)) o μ c9 μ9) := by
  refine KonH.of (by decide +kernel) (Nat.le_of_ble_eq_true rfl) (Nat.le_of_ble_eq_true rfl) (fun Z hZG C E NN TT => ?_)
  subst hZG
  have C : Cx Z RL cL_address 8 1 6 124 := C
  show HW Z 0 0 0 [some (.ref (P 0)), some (.int x), some (.ref o), none] [] μ
  refine h_al_g C dL_address_0 rfl rfl rfv_r ?_
  refine h_iconst (v := 0) C dL_address_1 (by decide) ?_
  refine h_al_g C dL_address_2 rfl rfl rfv_r ?_
  refine h_iload_g C dL_address_3 rfl rfl ?_
  refine h_callV1 (ci := 8) C (k_X8_address Z.l Z.G P S _ hC x) cw_L_72 im_X8_address sl_X8_address rfl (by decide) (CRep.kX hC) dL_address_4 (by first | decide | exact Nat.le_of_ble_eq_true rfl) (by decide) (by decide) (by decide) (by decide) (kI fun r1 μ1 hp1 => ?_) (fun X9 μ9 hx9 => ?_)
  · have hA := hp1
    have hFr : FrS isC μ μ1 := by
      first
        | exact hA.2.1 ▸ FrS.rf
        | exact hA.2.1.2
        | exact hA.2.2.2
        | exact hA.2.2 ▸ FrS.rf
        | (obtain ⟨-, S9, -, h⟩ := hA; exact h.2)
        | (rcases hA with ⟨-, ⟨-, -, h⟩ | ⟨-, -, h⟩⟩
           · exact h ▸ FrS.rf
           · exact h.2)
    have sO := (hFr o).1 (by rw [ho]; decide) (by rw [ho]; exact KLO_nC)
    have ho1 : μ1.kd o = KLO := sO.1.trans ho
    have hol1 : μ1.ln o = 1 := sO.2.2.2.2.1.trans hol
    refine h_i2l C dL_address_7 ?_
    refine h_last C dL_address_8 (by rw [ho1]; decide) (inb hol1 (vp_in_nI (n := 0) (by decide) (by decide))) ?_
    refine h_goto (tgt := 15) C dL_address_9 (by decide) ?_
    refine h_iconst (v := 0) C dL_address_15 (by decide) ?_
    refine h_iret C E dL_address_16 (by decide) (by decide) ?_
    exact ⟨_, rfl, Or.inl ⟨hA.1, rfl, _, _, ⟨_, rfl, hA⟩, rfl⟩⟩
  · obtain ⟨rfl, rfl, hc9⟩ := hx9
    · refine h_catch C NN TT [] (0, 9, 12, 21) [] rfl (fun _ h => absurd h List.not_mem_nil) (by decide) (by decide) lkx_IOB cst_IOB (fun q => ?_)
      refine h_ast_3 C dL_address_12 ct_r rfv_r ?_
      refine h_iconst (v := 1) C dL_address_13 (by decide) ?_
      refine h_iret C E dL_address_14 (by decide) (by decide) ?_
      exact ⟨_, rfl, Or.inr ⟨by rw [hc9]; decide, hc9.symm, rfl⟩⟩

set_option maxRecDepth 100000 in
set_option maxHeartbeats 1000000 in
theorem k_L_known (l : Launch) (G : Gx) (P : Nat → Nat) (S : Sx) (μ : Mem) (hC : CRep G P S μ) (x y : Int32) (o : Nat) (ho : μ.kd o = KLO) (hol : μ.ln o = 1) : KonH l yL_known cL_known 5 (some .int) [(0, 10, 13, 21), (0, 10, 17, 13)] 9 2 12 148 G [.ref (P 0), .int x, .int y, .ref o] μ (pI fun c9 μ9 => wrp (pairC x y) (fun w9 μ1 => ∃ v9 : Int32, w9 = v9.toInt64 ∧ pairC x y = 0 ∧ μ = μ1 ∧ v9 = S.lf 0 (cl x) (cl y)) o μ c9 μ9) := by
  refine KonH.of (by decide +kernel) (Nat.le_of_ble_eq_true rfl) (Nat.le_of_ble_eq_true rfl) (fun Z hZG C E NN TT => ?_)
  subst hZG
  have C : Cx Z RL cL_known 9 2 12 148 := C
  show HW Z 0 0 0 [some (.ref (P 0)), some (.int x), some (.int y), some (.ref o), none] [] μ
  refine h_al_g C dL_known_0 rfl rfl rfv_r ?_
  refine h_iconst (v := 0) C dL_known_1 (by decide) ?_
  refine h_al_g C dL_known_2 rfl rfl rfv_r ?_
  refine h_iload_g C dL_known_3 rfl rfl ?_
  refine h_iload_g C dL_known_4 rfl rfl ?_
  refine h_callV2 (ci := 8) C (k_X8_known Z.l Z.G P S _ hC x y) cw_L_75 im_X8_known sl_X8_known rfl (by decide) (CRep.kX hC) dL_known_5 (by first | decide | exact Nat.le_of_ble_eq_true rfl) (by decide) (by decide) (by decide) (by decide) (kI fun r1 μ1 hp1 => ?_) (fun X9 μ9 hx9 => ?_)
  · have hA := hp1
    have hFr : FrS isC μ μ1 := by
      first
        | exact hA.2.1 ▸ FrS.rf
        | exact hA.2.1.2
        | exact hA.2.2.2
        | exact hA.2.2 ▸ FrS.rf
        | (obtain ⟨-, S9, -, h⟩ := hA; exact h.2)
        | (rcases hA with ⟨-, ⟨-, -, h⟩ | ⟨-, -, h⟩⟩
           · exact h ▸ FrS.rf
           · exact h.2)
    have sO := (hFr o).1 (by rw [ho]; decide) (by rw [ho]; exact KLO_nC)
    have ho1 : μ1.kd o = KLO := sO.1.trans ho
    have hol1 : μ1.ln o = 1 := sO.2.2.2.2.1.trans hol
    refine h_i2l C dL_known_8 ?_
    refine h_last C dL_known_9 (by rw [ho1]; decide) (inb hol1 (vp_in_nI (n := 0) (by decide) (by decide))) ?_
    refine h_goto (tgt := 21) C dL_known_10 (by decide) ?_
    refine h_iconst (v := 0) C dL_known_21 (by decide) ?_
    refine h_iret C E dL_known_22 (by decide) (by decide) ?_
    exact ⟨_, rfl, Or.inl ⟨hA.1, rfl, _, _, ⟨_, rfl, hA⟩, rfl⟩⟩
  · obtain ⟨rfl, hx8⟩ := hx9
    rcases hx8 with ⟨rfl, hc9⟩ | ⟨rfl, hc9⟩
    · refine h_catch C NN TT [] (0, 10, 13, 21) [(0, 10, 17, 13)] rfl (fun _ h => absurd h List.not_mem_nil) (by decide) (by decide) lkx_IOB cst_IOB (fun q => ?_)
      refine h_ast_4 C dL_known_13 ct_r rfv_r ?_
      refine h_iconst (v := 1) C dL_known_15 (by decide) ?_
      refine h_iret C E dL_known_16 (by decide) (by decide) ?_
      exact ⟨_, rfl, Or.inr ⟨by rw [hc9]; decide, hc9.symm, rfl⟩⟩
    · refine h_catch C NN TT [(0, 10, 13, 21)] (0, 10, 17, 13) [] rfl (List.forall_mem_cons.mpr ⟨⟨by decide, xIOB, lkx_IOB, List.mem_of_getElem? (i := 6) rfl⟩, (fun _ h => absurd h List.not_mem_nil)⟩) (by decide) (by decide) lkx_IAE cst_IAE (fun q => ?_)
      refine h_ast_4 C dL_known_17 ct_r rfv_r ?_
      refine h_iconst (v := 2) C dL_known_19 (by decide) ?_
      refine h_iret C E dL_known_20 (by decide) (by decide) ?_
      exact ⟨_, rfl, Or.inr ⟨by rw [hc9]; decide, hc9.symm, rfl⟩⟩

set_option maxRecDepth 100000 in
set_option maxHeartbeats 1000000 in
theorem k_L_route (l : Launch) (G : Gx) (P : Nat → Nat) (S : Sx) (μ : Mem) (hC : CRep G P S μ) (x y : Int32) (o : Nat) (ho : μ.kd o = KLO) (hol : μ.ln o = 1) : KonH l yL_route cL_route 5 (some .int) [(0, 10, 13, 21), (0, 10, 17, 13)] 8 2 12 127 G [.ref (P 0), .int x, .int y, .ref o] μ (pI fun c9 μ9 => wrp (rouC x y) (fun w9 μ1 => ∃ v9 : Int32, w9 = v9.toInt64 ∧ rouC x y = 0 ∧ μ = μ1 ∧ v9 = GVN y (S.rt (cl x)) (-1) (-1)) o μ c9 μ9) := by
  refine KonH.of (by decide +kernel) (Nat.le_of_ble_eq_true rfl) (Nat.le_of_ble_eq_true rfl) (fun Z hZG C E NN TT => ?_)
  subst hZG
  have C : Cx Z RL cL_route 8 2 12 127 := C
  show HW Z 0 0 0 [some (.ref (P 0)), some (.int x), some (.int y), some (.ref o), none] [] μ
  refine h_al_g C dL_route_0 rfl rfl rfv_r ?_
  refine h_iconst (v := 0) C dL_route_1 (by decide) ?_
  refine h_al_g C dL_route_2 rfl rfl rfv_r ?_
  refine h_iload_g C dL_route_3 rfl rfl ?_
  refine h_iload_g C dL_route_4 rfl rfl ?_
  refine h_callV2 (ci := 8) C (k_X8_route Z.l Z.G P S _ hC x y) cw_L_78 im_X8_route sl_X8_route rfl (by decide) (CRep.kX hC) dL_route_5 (by first | decide | exact Nat.le_of_ble_eq_true rfl) (by decide) (by decide) (by decide) (by decide) (kI fun r1 μ1 hp1 => ?_) (fun X9 μ9 hx9 => ?_)
  · have hA := hp1
    have hFr : FrS isC μ μ1 := by
      first
        | exact hA.2.1 ▸ FrS.rf
        | exact hA.2.1.2
        | exact hA.2.2.2
        | exact hA.2.2 ▸ FrS.rf
        | (obtain ⟨-, S9, -, h⟩ := hA; exact h.2)
        | (rcases hA with ⟨-, ⟨-, -, h⟩ | ⟨-, -, h⟩⟩
           · exact h ▸ FrS.rf
           · exact h.2)
    have sO := (hFr o).1 (by rw [ho]; decide) (by rw [ho]; exact KLO_nC)
    have ho1 : μ1.kd o = KLO := sO.1.trans ho
    have hol1 : μ1.ln o = 1 := sO.2.2.2.2.1.trans hol
    refine h_i2l C dL_route_8 ?_
    refine h_last C dL_route_9 (by rw [ho1]; decide) (inb hol1 (vp_in_nI (n := 0) (by decide) (by decide))) ?_
    refine h_goto (tgt := 21) C dL_route_10 (by decide) ?_
    refine h_iconst (v := 0) C dL_route_21 (by decide) ?_
    refine h_iret C E dL_route_22 (by decide) (by decide) ?_
    exact ⟨_, rfl, Or.inl ⟨hA.1, rfl, _, _, ⟨_, rfl, hA⟩, rfl⟩⟩
  · obtain ⟨rfl, hx8⟩ := hx9
    rcases hx8 with ⟨rfl, hc9⟩ | ⟨rfl, hc9⟩
    · refine h_catch C NN TT [] (0, 10, 13, 21) [(0, 10, 17, 13)] rfl (fun _ h => absurd h List.not_mem_nil) (by decide) (by decide) lkx_IOB cst_IOB (fun q => ?_)
      refine h_ast_4 C dL_route_13 ct_r rfv_r ?_
      refine h_iconst (v := 1) C dL_route_15 (by decide) ?_
      refine h_iret C E dL_route_16 (by decide) (by decide) ?_
      exact ⟨_, rfl, Or.inr ⟨by rw [hc9]; decide, hc9.symm, rfl⟩⟩
    · refine h_catch C NN TT [(0, 10, 13, 21)] (0, 10, 17, 13) [] rfl (List.forall_mem_cons.mpr ⟨⟨by decide, xIOB, lkx_IOB, List.mem_of_getElem? (i := 6) rfl⟩, (fun _ h => absurd h List.not_mem_nil)⟩) (by decide) (by decide) lkx_IAE cst_IAE (fun q => ?_)
      refine h_ast_4 C dL_route_17 ct_r rfv_r ?_
      refine h_iconst (v := 2) C dL_route_19 (by decide) ?_
      refine h_iret C E dL_route_20 (by decide) (by decide) ?_
      exact ⟨_, rfl, Or.inr ⟨by rw [hc9]; decide, hc9.symm, rfl⟩⟩

set_option maxRecDepth 100000 in
set_option maxHeartbeats 1000000 in
theorem k_L_session (l : Launch) (G : Gx) (P : Nat → Nat) (S : Sx) (μ : Mem) (hC : CRep G P S μ) (x y w q : Int32) (o : Nat) (ho : μ.kd o = KLO) (hol : μ.ln o = 1) : KonH l yL_session cL_session 7 (some .int) [(0, 14, 17, 21), (0, 14, 21, 13), (0, 14, 25, 35)] 9 5 30 152 G [.ref (P 0), .int x, .int y, .int w, .int q, .ref o] μ (pI fun c9 μ9 => wrp (sesC S x y w q) (fun w9 μ1 => ∃ v9 : Int32, w9 = v9.toInt64 ∧ sesC S x y w q = 0 ∧ μ = μ1 ∧ v9 = SESv S (SESr S (cl x) (cl y) (cl w)) q) o μ c9 μ9) := by
  refine KonH.of (by decide +kernel) (Nat.le_of_ble_eq_true rfl) (Nat.le_of_ble_eq_true rfl) (fun Z hZG C E NN TT => ?_)
  subst hZG
  have C : Cx Z RL cL_session 9 5 30 152 := C
  show HW Z 0 0 0 [some (.ref (P 0)), some (.int x), some (.int y), some (.int w), some (.int q), some (.ref o), none] [] μ
  refine h_al_w (j := 0) C dL_session_0 rfl rfv_r ?_
  refine h_iconst (v := 0) C dL_session_2 (by decide) ?_
  refine h_al_g C dL_session_3 rfl rfl rfv_r ?_
  refine h_iload_g C dL_session_4 rfl rfl ?_
  refine h_iload_g C dL_session_5 rfl rfl ?_
  refine h_iload_g C dL_session_6 rfl rfl ?_
  refine h_iload_w C dL_session_7 rfl ?_
  refine h_callV4 (ci := 8) C (k_X8_session Z.l Z.G P S _ hC x y w q) cw_L_81 im_X8_session sl_X8_session rfl (by decide) (CRep.kX hC) dL_session_9 (by first | decide | exact Nat.le_of_ble_eq_true rfl) (by decide) (by decide) (by decide) (by decide) (kI fun r1 μ1 hp1 => ?_) (fun X9 μ9 hx9 => ?_)
  · have hA := hp1
    have hFr : FrS isC μ μ1 := by
      first
        | exact hA.2.1 ▸ FrS.rf
        | exact hA.2.1.2
        | exact hA.2.2.2
        | exact hA.2.2 ▸ FrS.rf
        | (obtain ⟨-, S9, -, h⟩ := hA; exact h.2)
        | (rcases hA with ⟨-, ⟨-, -, h⟩ | ⟨-, -, h⟩⟩
           · exact h ▸ FrS.rf
           · exact h.2)
    have sO := (hFr o).1 (by rw [ho]; decide) (by rw [ho]; exact KLO_nC)
    have ho1 : μ1.kd o = KLO := sO.1.trans ho
    have hol1 : μ1.ln o = 1 := sO.2.2.2.2.1.trans hol
    refine h_i2l C dL_session_12 ?_
    refine h_last C dL_session_13 (by rw [ho1]; decide) (inb hol1 (vp_in_nI (n := 0) (by decide) (by decide))) ?_
    refine h_goto (tgt := 29) C dL_session_14 (by decide) ?_
    refine h_iconst (v := 0) C dL_session_29 (by decide) ?_
    refine h_iret C E dL_session_30 (by decide) (by decide) ?_
    exact ⟨_, rfl, Or.inl ⟨hA.1, rfl, _, _, ⟨_, rfl, hA⟩, rfl⟩⟩
  · obtain ⟨rfl, hx8⟩ := hx9
    rcases hx8 with ⟨rfl, hc9⟩ | ⟨rfl, hc9⟩ | ⟨rfl, hc9⟩
    · refine h_catch C NN TT [] (0, 14, 17, 21) [(0, 14, 21, 13), (0, 14, 25, 35)] rfl (fun _ h => absurd h List.not_mem_nil) (by decide) (by decide) lkx_IOB cst_IOB (fun q => ?_)
      refine h_ast_6 C dL_session_17 ct_r rfv_r ?_
      refine h_iconst (v := 1) C dL_session_19 (by decide) ?_
      refine h_iret C E dL_session_20 (by decide) (by decide) ?_
      exact ⟨_, rfl, Or.inr ⟨by rw [hc9]; decide, hc9.symm, rfl⟩⟩
    · refine h_catch C NN TT [(0, 14, 17, 21)] (0, 14, 21, 13) [(0, 14, 25, 35)] rfl (List.forall_mem_cons.mpr ⟨⟨by decide, xIOB, lkx_IOB, List.mem_of_getElem? (i := 6) rfl⟩, (fun _ h => absurd h List.not_mem_nil)⟩) (by decide) (by decide) lkx_IAE cst_IAE (fun q => ?_)
      refine h_ast_6 C dL_session_21 ct_r rfv_r ?_
      refine h_iconst (v := 2) C dL_session_23 (by decide) ?_
      refine h_iret C E dL_session_24 (by decide) (by decide) ?_
      exact ⟨_, rfl, Or.inr ⟨by rw [hc9]; decide, hc9.symm, rfl⟩⟩
    · refine h_catch C NN TT [(0, 14, 17, 21), (0, 14, 21, 13)] (0, 14, 25, 35) [] rfl (List.forall_mem_cons.mpr ⟨⟨by decide, xIOB, lkx_IOB, List.mem_of_getElem? (i := 8) rfl⟩, (List.forall_mem_cons.mpr ⟨⟨by decide, xIAE, lkx_IAE, List.mem_of_getElem? (i := 2) rfl⟩, (fun _ h => absurd h List.not_mem_nil)⟩)⟩) (by decide) (by decide) lkx_NSE cst_NSE (fun q => ?_)
      refine h_ast_6 C dL_session_25 ct_r rfv_r ?_
      refine h_iconst (v := 3) C dL_session_27 (by decide) ?_
      refine h_iret C E dL_session_28 (by decide) (by decide) ?_
      exact ⟨_, rfl, Or.inr ⟨by rw [hc9]; decide, hc9.symm, rfl⟩⟩

set_option maxRecDepth 100000 in
set_option maxHeartbeats 1000000 in
theorem k_L_isUsable (l : Launch) (G : Gx) (P : Nat → Nat) (S : Sx) (μ : Mem) (hC : CRep G P S μ) (x y : Int32) (o : Nat) (ho : μ.kd o = KLO) (hol : μ.ln o = 1) : KonH l yL_isUsable cL_isUsable 5 (some .int) [(0, 17, 20, 21), (0, 17, 24, 13)] 9 2 12 148 G [.ref (P 0), .int x, .int y, .ref o] μ (pI fun c9 μ9 => wrp (pairC x y) (fun w9 μ1 => (w9 = 1 ∧ pairC x y = 0 ∧ μ = μ1 ∧ ∃ r, USE S (cl x) (cl y) = some r) ∨ (w9 = 0 ∧ pairC x y = 0 ∧ μ = μ1 ∧ USE S (cl x) (cl y) = none)) o μ c9 μ9) := by
  refine KonH.of (by decide +kernel) (Nat.le_of_ble_eq_true rfl) (Nat.le_of_ble_eq_true rfl) (fun Z hZG C E NN TT => ?_)
  subst hZG
  have C : Cx Z RL cL_isUsable 9 2 12 148 := C
  show HW Z 0 0 0 [some (.ref (P 0)), some (.int x), some (.int y), some (.ref o), none] [] μ
  refine h_al_g C dL_isUsable_0 rfl rfl rfv_r ?_
  refine h_iconst (v := 0) C dL_isUsable_1 (by decide) ?_
  refine h_al_g C dL_isUsable_2 rfl rfl rfv_r ?_
  refine h_iload_g C dL_isUsable_3 rfl rfl ?_
  refine h_iload_g C dL_isUsable_4 rfl rfl ?_
  refine h_callV2 (ci := 8) C (k_X8_isUsable Z.l Z.G P S _ hC x y) cw_L_84 im_X8_isUsable sl_X8_isUsable rfl (by decide) (CRep.kX hC) dL_isUsable_5 (by first | decide | exact Nat.le_of_ble_eq_true rfl) (by decide) (by decide) (by decide) (by decide) (kB (fun μ1 hp1 => ?_) (fun μ1 hp1 => ?_)) (fun X9 μ9 hx9 => ?_)
  · have hA := hp1
    have hFr : FrS isC μ μ1 := by
      first
        | exact hA.2.1 ▸ FrS.rf
        | exact hA.2.1.2
        | exact hA.2.2.2
        | exact hA.2.2 ▸ FrS.rf
        | (obtain ⟨-, S9, -, h⟩ := hA; exact h.2)
        | (rcases hA with ⟨-, ⟨-, -, h⟩ | ⟨-, -, h⟩⟩
           · exact h ▸ FrS.rf
           · exact h.2)
    have sO := (hFr o).1 (by rw [ho]; decide) (by rw [ho]; exact KLO_nC)
    have ho1 : μ1.kd o = KLO := sO.1.trans ho
    have hol1 : μ1.ln o = 1 := sO.2.2.2.2.1.trans hol
    refine h_if_eq (tgt := 15) C dL_isUsable_8 (by decide) (fun c1 => absurd c1 (by decide)) (fun c1 => ?_)
    refine h_lconst (v := 1) C dL_isUsable_11 (by decide) ?_
    refine h_goto (tgt := 16) C dL_isUsable_12 (by decide) ?_
    refine h_last C dL_isUsable_16 (by rw [ho1]; decide) (inb hol1 (vp_in_nI (n := 0) (by decide) (by decide))) ?_
    refine h_goto (tgt := 28) C dL_isUsable_17 (by decide) ?_
    refine h_iconst (v := 0) C dL_isUsable_28 (by decide) ?_
    refine h_iret C E dL_isUsable_29 (by decide) (by decide) ?_
    exact ⟨_, rfl, Or.inl ⟨hA.1, rfl, _, _, Or.inl ⟨rfl, hA⟩, rfl⟩⟩
  · have hA := hp1
    have hFr : FrS isC μ μ1 := by
      first
        | exact hA.2.1 ▸ FrS.rf
        | exact hA.2.1.2
        | exact hA.2.2.2
        | exact hA.2.2 ▸ FrS.rf
        | (obtain ⟨-, S9, -, h⟩ := hA; exact h.2)
        | (rcases hA with ⟨-, ⟨-, -, h⟩ | ⟨-, -, h⟩⟩
           · exact h ▸ FrS.rf
           · exact h.2)
    have sO := (hFr o).1 (by rw [ho]; decide) (by rw [ho]; exact KLO_nC)
    have ho1 : μ1.kd o = KLO := sO.1.trans ho
    have hol1 : μ1.ln o = 1 := sO.2.2.2.2.1.trans hol
    refine h_if_eq (tgt := 15) C dL_isUsable_8 (by decide) (fun c2 => ?_) (fun c2 => absurd (by decide) c2)
    refine h_lconst (v := 0) C dL_isUsable_15 (by decide) ?_
    refine h_last C dL_isUsable_16 (by rw [ho1]; decide) (inb hol1 (vp_in_nI (n := 0) (by decide) (by decide))) ?_
    refine h_goto (tgt := 28) C dL_isUsable_17 (by decide) ?_
    refine h_iconst (v := 0) C dL_isUsable_28 (by decide) ?_
    refine h_iret C E dL_isUsable_29 (by decide) (by decide) ?_
    exact ⟨_, rfl, Or.inl ⟨hA.1, rfl, _, _, Or.inr ⟨rfl, hA⟩, rfl⟩⟩
  · obtain ⟨rfl, hx8⟩ := hx9
    rcases hx8 with ⟨rfl, hc9⟩ | ⟨rfl, hc9⟩
    · refine h_catch C NN TT [] (0, 17, 20, 21) [(0, 17, 24, 13)] rfl (fun _ h => absurd h List.not_mem_nil) (by decide) (by decide) lkx_IOB cst_IOB (fun q => ?_)
      refine h_ast_4 C dL_isUsable_20 ct_r rfv_r ?_
      refine h_iconst (v := 1) C dL_isUsable_22 (by decide) ?_
      refine h_iret C E dL_isUsable_23 (by decide) (by decide) ?_
      exact ⟨_, rfl, Or.inr ⟨by rw [hc9]; decide, hc9.symm, rfl⟩⟩
    · refine h_catch C NN TT [(0, 17, 20, 21)] (0, 17, 24, 13) [] rfl (List.forall_mem_cons.mpr ⟨⟨by decide, xIOB, lkx_IOB, List.mem_of_getElem? (i := 6) rfl⟩, (fun _ h => absurd h List.not_mem_nil)⟩) (by decide) (by decide) lkx_IAE cst_IAE (fun q => ?_)
      refine h_ast_4 C dL_isUsable_24 ct_r rfv_r ?_
      refine h_iconst (v := 2) C dL_isUsable_26 (by decide) ?_
      refine h_iret C E dL_isUsable_27 (by decide) (by decide) ?_
      exact ⟨_, rfl, Or.inr ⟨by rw [hc9]; decide, hc9.symm, rfl⟩⟩

set_option maxRecDepth 100000 in
set_option maxHeartbeats 1000000 in
theorem k_L_flight (l : Launch) (G : Gx) (P : Nat → Nat) (S : Sx) (μ : Mem) (hC : CRep G P S μ) (x y : Int32) (o : Nat) (ho : μ.kd o = KLO) (hol : μ.ln o = 1) : KonH l yL_flight cL_flight 5 (some .int) [(0, 10, 13, 21), (0, 10, 17, 13)] 9 2 12 148 G [.ref (P 0), .int x, .int y, .ref o] μ (pI fun c9 μ9 => wrp (pairC x y) (fun w9 μ1 => ∃ v9 : Int32, w9 = v9.toInt64 ∧ pairC x y = 0 ∧ μ = μ1 ∧ v9 = FLX S (cl x) (cl y)) o μ c9 μ9) := by
  refine KonH.of (by decide +kernel) (Nat.le_of_ble_eq_true rfl) (Nat.le_of_ble_eq_true rfl) (fun Z hZG C E NN TT => ?_)
  subst hZG
  have C : Cx Z RL cL_flight 9 2 12 148 := C
  show HW Z 0 0 0 [some (.ref (P 0)), some (.int x), some (.int y), some (.ref o), none] [] μ
  refine h_al_g C dL_flight_0 rfl rfl rfv_r ?_
  refine h_iconst (v := 0) C dL_flight_1 (by decide) ?_
  refine h_al_g C dL_flight_2 rfl rfl rfv_r ?_
  refine h_iload_g C dL_flight_3 rfl rfl ?_
  refine h_iload_g C dL_flight_4 rfl rfl ?_
  refine h_callV2 (ci := 8) C (k_X8_flight Z.l Z.G P S _ hC x y) cw_L_87 im_X8_flight sl_X8_flight rfl (by decide) (CRep.kX hC) dL_flight_5 (by first | decide | exact Nat.le_of_ble_eq_true rfl) (by decide) (by decide) (by decide) (by decide) (kI fun r1 μ1 hp1 => ?_) (fun X9 μ9 hx9 => ?_)
  · have hA := hp1
    have hFr : FrS isC μ μ1 := by
      first
        | exact hA.2.1 ▸ FrS.rf
        | exact hA.2.1.2
        | exact hA.2.2.2
        | exact hA.2.2 ▸ FrS.rf
        | (obtain ⟨-, S9, -, h⟩ := hA; exact h.2)
        | (rcases hA with ⟨-, ⟨-, -, h⟩ | ⟨-, -, h⟩⟩
           · exact h ▸ FrS.rf
           · exact h.2)
    have sO := (hFr o).1 (by rw [ho]; decide) (by rw [ho]; exact KLO_nC)
    have ho1 : μ1.kd o = KLO := sO.1.trans ho
    have hol1 : μ1.ln o = 1 := sO.2.2.2.2.1.trans hol
    refine h_i2l C dL_flight_8 ?_
    refine h_last C dL_flight_9 (by rw [ho1]; decide) (inb hol1 (vp_in_nI (n := 0) (by decide) (by decide))) ?_
    refine h_goto (tgt := 21) C dL_flight_10 (by decide) ?_
    refine h_iconst (v := 0) C dL_flight_21 (by decide) ?_
    refine h_iret C E dL_flight_22 (by decide) (by decide) ?_
    exact ⟨_, rfl, Or.inl ⟨hA.1, rfl, _, _, ⟨_, rfl, hA⟩, rfl⟩⟩
  · obtain ⟨rfl, hx8⟩ := hx9
    rcases hx8 with ⟨rfl, hc9⟩ | ⟨rfl, hc9⟩
    · refine h_catch C NN TT [] (0, 10, 13, 21) [(0, 10, 17, 13)] rfl (fun _ h => absurd h List.not_mem_nil) (by decide) (by decide) lkx_IOB cst_IOB (fun q => ?_)
      refine h_ast_4 C dL_flight_13 ct_r rfv_r ?_
      refine h_iconst (v := 1) C dL_flight_15 (by decide) ?_
      refine h_iret C E dL_flight_16 (by decide) (by decide) ?_
      exact ⟨_, rfl, Or.inr ⟨by rw [hc9]; decide, hc9.symm, rfl⟩⟩
    · refine h_catch C NN TT [(0, 10, 13, 21)] (0, 10, 17, 13) [] rfl (List.forall_mem_cons.mpr ⟨⟨by decide, xIOB, lkx_IOB, List.mem_of_getElem? (i := 6) rfl⟩, (fun _ h => absurd h List.not_mem_nil)⟩) (by decide) (by decide) lkx_IAE cst_IAE (fun q => ?_)
      refine h_ast_4 C dL_flight_17 ct_r rfv_r ?_
      refine h_iconst (v := 2) C dL_flight_19 (by decide) ?_
      refine h_iret C E dL_flight_20 (by decide) (by decide) ?_
      exact ⟨_, rfl, Or.inr ⟨by rw [hc9]; decide, hc9.symm, rfl⟩⟩

set_option maxRecDepth 100000 in
set_option maxHeartbeats 1000000 in
theorem k_L_waiting (l : Launch) (G : Gx) (P : Nat → Nat) (S : Sx) (μ : Mem) (hC : CRep G P S μ) (x y : Int32) (o : Nat) (ho : μ.kd o = KLO) (hol : μ.ln o = 1) : KonH l yL_waiting cL_waiting 5 (some .int) [(0, 10, 13, 21), (0, 10, 17, 13)] 9 2 12 148 G [.ref (P 0), .int x, .int y, .ref o] μ (pI fun c9 μ9 => wrp (pairC x y) (fun w9 μ1 => ∃ v9 : Int32, w9 = v9.toInt64 ∧ pairC x y = 0 ∧ μ = μ1 ∧ v9 = nI (S.wt (cl x) (cl y)).length) o μ c9 μ9) := by
  refine KonH.of (by decide +kernel) (Nat.le_of_ble_eq_true rfl) (Nat.le_of_ble_eq_true rfl) (fun Z hZG C E NN TT => ?_)
  subst hZG
  have C : Cx Z RL cL_waiting 9 2 12 148 := C
  show HW Z 0 0 0 [some (.ref (P 0)), some (.int x), some (.int y), some (.ref o), none] [] μ
  refine h_al_g C dL_waiting_0 rfl rfl rfv_r ?_
  refine h_iconst (v := 0) C dL_waiting_1 (by decide) ?_
  refine h_al_g C dL_waiting_2 rfl rfl rfv_r ?_
  refine h_iload_g C dL_waiting_3 rfl rfl ?_
  refine h_iload_g C dL_waiting_4 rfl rfl ?_
  refine h_callV2 (ci := 8) C (k_X8_waiting Z.l Z.G P S _ hC x y) cw_L_90 im_X8_waiting sl_X8_waiting rfl (by decide) (CRep.kX hC) dL_waiting_5 (by first | decide | exact Nat.le_of_ble_eq_true rfl) (by decide) (by decide) (by decide) (by decide) (kI fun r1 μ1 hp1 => ?_) (fun X9 μ9 hx9 => ?_)
  · have hA := hp1
    have hFr : FrS isC μ μ1 := by
      first
        | exact hA.2.1 ▸ FrS.rf
        | exact hA.2.1.2
        | exact hA.2.2.2
        | exact hA.2.2 ▸ FrS.rf
        | (obtain ⟨-, S9, -, h⟩ := hA; exact h.2)
        | (rcases hA with ⟨-, ⟨-, -, h⟩ | ⟨-, -, h⟩⟩
           · exact h ▸ FrS.rf
           · exact h.2)
    have sO := (hFr o).1 (by rw [ho]; decide) (by rw [ho]; exact KLO_nC)
    have ho1 : μ1.kd o = KLO := sO.1.trans ho
    have hol1 : μ1.ln o = 1 := sO.2.2.2.2.1.trans hol
    refine h_i2l C dL_waiting_8 ?_
    refine h_last C dL_waiting_9 (by rw [ho1]; decide) (inb hol1 (vp_in_nI (n := 0) (by decide) (by decide))) ?_
    refine h_goto (tgt := 21) C dL_waiting_10 (by decide) ?_
    refine h_iconst (v := 0) C dL_waiting_21 (by decide) ?_
    refine h_iret C E dL_waiting_22 (by decide) (by decide) ?_
    exact ⟨_, rfl, Or.inl ⟨hA.1, rfl, _, _, ⟨_, rfl, hA⟩, rfl⟩⟩
  · obtain ⟨rfl, hx8⟩ := hx9
    rcases hx8 with ⟨rfl, hc9⟩ | ⟨rfl, hc9⟩
    · refine h_catch C NN TT [] (0, 10, 13, 21) [(0, 10, 17, 13)] rfl (fun _ h => absurd h List.not_mem_nil) (by decide) (by decide) lkx_IOB cst_IOB (fun q => ?_)
      refine h_ast_4 C dL_waiting_13 ct_r rfv_r ?_
      refine h_iconst (v := 1) C dL_waiting_15 (by decide) ?_
      refine h_iret C E dL_waiting_16 (by decide) (by decide) ?_
      exact ⟨_, rfl, Or.inr ⟨by rw [hc9]; decide, hc9.symm, rfl⟩⟩
    · refine h_catch C NN TT [(0, 10, 13, 21)] (0, 10, 17, 13) [] rfl (List.forall_mem_cons.mpr ⟨⟨by decide, xIOB, lkx_IOB, List.mem_of_getElem? (i := 6) rfl⟩, (fun _ h => absurd h List.not_mem_nil)⟩) (by decide) (by decide) lkx_IAE cst_IAE (fun q => ?_)
      refine h_ast_4 C dL_waiting_17 ct_r rfv_r ?_
      refine h_iconst (v := 2) C dL_waiting_19 (by decide) ?_
      refine h_iret C E dL_waiting_20 (by decide) (by decide) ?_
      exact ⟨_, rfl, Or.inr ⟨by rw [hc9]; decide, hc9.symm, rfl⟩⟩

set_option maxRecDepth 100000 in
set_option maxHeartbeats 1000000 in
theorem k_L_cookie (l : Launch) (G : Gx) (P : Nat → Nat) (S : Sx) (μ : Mem) (hC : CRep G P S μ) (x y : Int32) (o : Nat) (ho : μ.kd o = KLO) (hol : μ.ln o = 1) : KonH l yL_cookie cL_cookie 5 (some .int) [(0, 10, 13, 21), (0, 10, 17, 13)] 9 2 12 148 G [.ref (P 0), .int x, .int y, .ref o] μ (pI fun c9 μ9 => wrp (pairC x y) (fun w9 μ1 => ∃ v9 : Int32, w9 = v9.toInt64 ∧ pairC x y = 0 ∧ μ = μ1 ∧ v9 = YCK S (cl x) (cl y)) o μ c9 μ9) := by
  refine KonH.of (by decide +kernel) (Nat.le_of_ble_eq_true rfl) (Nat.le_of_ble_eq_true rfl) (fun Z hZG C E NN TT => ?_)
  subst hZG
  have C : Cx Z RL cL_cookie 9 2 12 148 := C
  show HW Z 0 0 0 [some (.ref (P 0)), some (.int x), some (.int y), some (.ref o), none] [] μ
  refine h_al_g C dL_cookie_0 rfl rfl rfv_r ?_
  refine h_iconst (v := 0) C dL_cookie_1 (by decide) ?_
  refine h_al_g C dL_cookie_2 rfl rfl rfv_r ?_
  refine h_iload_g C dL_cookie_3 rfl rfl ?_
  refine h_iload_g C dL_cookie_4 rfl rfl ?_
  refine h_callV2 (ci := 8) C (k_X8_cookie Z.l Z.G P S _ hC x y) cw_L_93 im_X8_cookie sl_X8_cookie rfl (by decide) (CRep.kX hC) dL_cookie_5 (by first | decide | exact Nat.le_of_ble_eq_true rfl) (by decide) (by decide) (by decide) (by decide) (kI fun r1 μ1 hp1 => ?_) (fun X9 μ9 hx9 => ?_)
  · have hA := hp1
    have hFr : FrS isC μ μ1 := by
      first
        | exact hA.2.1 ▸ FrS.rf
        | exact hA.2.1.2
        | exact hA.2.2.2
        | exact hA.2.2 ▸ FrS.rf
        | (obtain ⟨-, S9, -, h⟩ := hA; exact h.2)
        | (rcases hA with ⟨-, ⟨-, -, h⟩ | ⟨-, -, h⟩⟩
           · exact h ▸ FrS.rf
           · exact h.2)
    have sO := (hFr o).1 (by rw [ho]; decide) (by rw [ho]; exact KLO_nC)
    have ho1 : μ1.kd o = KLO := sO.1.trans ho
    have hol1 : μ1.ln o = 1 := sO.2.2.2.2.1.trans hol
    refine h_i2l C dL_cookie_8 ?_
    refine h_last C dL_cookie_9 (by rw [ho1]; decide) (inb hol1 (vp_in_nI (n := 0) (by decide) (by decide))) ?_
    refine h_goto (tgt := 21) C dL_cookie_10 (by decide) ?_
    refine h_iconst (v := 0) C dL_cookie_21 (by decide) ?_
    refine h_iret C E dL_cookie_22 (by decide) (by decide) ?_
    exact ⟨_, rfl, Or.inl ⟨hA.1, rfl, _, _, ⟨_, rfl, hA⟩, rfl⟩⟩
  · obtain ⟨rfl, hx8⟩ := hx9
    rcases hx8 with ⟨rfl, hc9⟩ | ⟨rfl, hc9⟩
    · refine h_catch C NN TT [] (0, 10, 13, 21) [(0, 10, 17, 13)] rfl (fun _ h => absurd h List.not_mem_nil) (by decide) (by decide) lkx_IOB cst_IOB (fun q => ?_)
      refine h_ast_4 C dL_cookie_13 ct_r rfv_r ?_
      refine h_iconst (v := 1) C dL_cookie_15 (by decide) ?_
      refine h_iret C E dL_cookie_16 (by decide) (by decide) ?_
      exact ⟨_, rfl, Or.inr ⟨by rw [hc9]; decide, hc9.symm, rfl⟩⟩
    · refine h_catch C NN TT [(0, 10, 13, 21)] (0, 10, 17, 13) [] rfl (List.forall_mem_cons.mpr ⟨⟨by decide, xIOB, lkx_IOB, List.mem_of_getElem? (i := 6) rfl⟩, (fun _ h => absurd h List.not_mem_nil)⟩) (by decide) (by decide) lkx_IAE cst_IAE (fun q => ?_)
      refine h_ast_4 C dL_cookie_17 ct_r rfv_r ?_
      refine h_iconst (v := 2) C dL_cookie_19 (by decide) ?_
      refine h_iret C E dL_cookie_20 (by decide) (by decide) ?_
      exact ⟨_, rfl, Or.inr ⟨by rw [hc9]; decide, hc9.symm, rfl⟩⟩

set_option maxRecDepth 100000 in
set_option maxHeartbeats 1000000 in
theorem k_L_stamp (l : Launch) (G : Gx) (P : Nat → Nat) (S : Sx) (μ : Mem) (hC : CRep G P S μ) (x y z : Int32) (o : Nat) (ho : μ.kd o = KLO) (hol : μ.ln o = 1) : KonH l yL_stamp cL_stamp 6 (some .int) [(0, 12, 15, 21), (0, 12, 19, 13)] 9 2 12 150 G [.ref (P 0), .int x, .int y, .int z, .ref o] μ (pI fun c9 μ9 => wrp (pairC x y) (fun w9 μ1 => ∃ v9 : Int32, w9 = v9.toInt64 ∧ pairC x y = 0 ∧ μ = μ1 ∧ v9 = if ¬ z = 0 then S.lf 2 (cl x) (cl y) else S.lf 1 (cl x) (cl y)) o μ c9 μ9) := by
  refine KonH.of (by decide +kernel) (Nat.le_of_ble_eq_true rfl) (Nat.le_of_ble_eq_true rfl) (fun Z hZG C E NN TT => ?_)
  subst hZG
  have C : Cx Z RL cL_stamp 9 2 12 150 := C
  show HW Z 0 0 0 [some (.ref (P 0)), some (.int x), some (.int y), some (.int z), some (.ref o), none] [] μ
  refine h_al_w (j := 0) C dL_stamp_0 rfl rfv_r ?_
  refine h_iconst (v := 0) C dL_stamp_2 (by decide) ?_
  refine h_al_g C dL_stamp_3 rfl rfl rfv_r ?_
  refine h_iload_g C dL_stamp_4 rfl rfl ?_
  refine h_iload_g C dL_stamp_5 rfl rfl ?_
  refine h_iload_g C dL_stamp_6 rfl rfl ?_
  refine h_callV3 (ci := 8) C (k_X8_stamp Z.l Z.G P S _ hC x y z) cw_L_96 im_X8_stamp sl_X8_stamp rfl (by decide) (CRep.kX hC) dL_stamp_7 (by first | decide | exact Nat.le_of_ble_eq_true rfl) (by decide) (by decide) (by decide) (by decide) (kI fun r1 μ1 hp1 => ?_) (fun X9 μ9 hx9 => ?_)
  · have hA := hp1
    have hFr : FrS isC μ μ1 := by
      first
        | exact hA.2.1 ▸ FrS.rf
        | exact hA.2.1.2
        | exact hA.2.2.2
        | exact hA.2.2 ▸ FrS.rf
        | (obtain ⟨-, S9, -, h⟩ := hA; exact h.2)
        | (rcases hA with ⟨-, ⟨-, -, h⟩ | ⟨-, -, h⟩⟩
           · exact h ▸ FrS.rf
           · exact h.2)
    have sO := (hFr o).1 (by rw [ho]; decide) (by rw [ho]; exact KLO_nC)
    have ho1 : μ1.kd o = KLO := sO.1.trans ho
    have hol1 : μ1.ln o = 1 := sO.2.2.2.2.1.trans hol
    refine h_i2l C dL_stamp_10 ?_
    refine h_last C dL_stamp_11 (by rw [ho1]; decide) (inb hol1 (vp_in_nI (n := 0) (by decide) (by decide))) ?_
    refine h_goto (tgt := 23) C dL_stamp_12 (by decide) ?_
    refine h_iconst (v := 0) C dL_stamp_23 (by decide) ?_
    refine h_iret C E dL_stamp_24 (by decide) (by decide) ?_
    exact ⟨_, rfl, Or.inl ⟨hA.1, rfl, _, _, ⟨_, rfl, hA⟩, rfl⟩⟩
  · obtain ⟨rfl, hx8⟩ := hx9
    rcases hx8 with ⟨rfl, hc9⟩ | ⟨rfl, hc9⟩
    · refine h_catch C NN TT [] (0, 12, 15, 21) [(0, 12, 19, 13)] rfl (fun _ h => absurd h List.not_mem_nil) (by decide) (by decide) lkx_IOB cst_IOB (fun q => ?_)
      refine h_ast_5 C dL_stamp_15 ct_r rfv_r ?_
      refine h_iconst (v := 1) C dL_stamp_17 (by decide) ?_
      refine h_iret C E dL_stamp_18 (by decide) (by decide) ?_
      exact ⟨_, rfl, Or.inr ⟨by rw [hc9]; decide, hc9.symm, rfl⟩⟩
    · refine h_catch C NN TT [(0, 12, 15, 21)] (0, 12, 19, 13) [] rfl (List.forall_mem_cons.mpr ⟨⟨by decide, xIOB, lkx_IOB, List.mem_of_getElem? (i := 6) rfl⟩, (fun _ h => absurd h List.not_mem_nil)⟩) (by decide) (by decide) lkx_IAE cst_IAE (fun q => ?_)
      refine h_ast_5 C dL_stamp_19 ct_r rfv_r ?_
      refine h_iconst (v := 2) C dL_stamp_21 (by decide) ?_
      refine h_iret C E dL_stamp_22 (by decide) (by decide) ?_
      exact ⟨_, rfl, Or.inr ⟨by rw [hc9]; decide, hc9.symm, rfl⟩⟩

set_option maxRecDepth 100000 in
set_option maxHeartbeats 1000000 in
theorem k_L_outs (l : Launch) (G : Gx) (P : Nat → Nat) (S : Sx) (μ : Mem) (hC : CRep G P S μ) (x : Int32) (o : Nat) (ho : μ.kd o = KLO) (hol : μ.ln o = 1) : KonH l yL_outs cL_outs 4 (some .int) [(0, 9, 12, 21)] 8 1 6 124 G [.ref (P 0), .int x, .ref o] μ (pI fun c9 μ9 => wrp (endC x) (fun w9 μ1 => ∃ v9 : Int32, w9 = v9.toInt64 ∧ endC x = 0 ∧ μ = μ1 ∧ v9 = nI (OUT (cl x) S.ou).length) o μ c9 μ9) := by
  refine KonH.of (by decide +kernel) (Nat.le_of_ble_eq_true rfl) (Nat.le_of_ble_eq_true rfl) (fun Z hZG C E NN TT => ?_)
  subst hZG
  have C : Cx Z RL cL_outs 8 1 6 124 := C
  show HW Z 0 0 0 [some (.ref (P 0)), some (.int x), some (.ref o), none] [] μ
  refine h_al_g C dL_outs_0 rfl rfl rfv_r ?_
  refine h_iconst (v := 0) C dL_outs_1 (by decide) ?_
  refine h_al_g C dL_outs_2 rfl rfl rfv_r ?_
  refine h_iload_g C dL_outs_3 rfl rfl ?_
  refine h_callV1 (ci := 8) C (k_X8_outs Z.l Z.G P S _ hC x) cw_L_100 im_X8_outs sl_X8_outs rfl (by decide) (CRep.kX hC) dL_outs_4 (by first | decide | exact Nat.le_of_ble_eq_true rfl) (by decide) (by decide) (by decide) (by decide) (kI fun r1 μ1 hp1 => ?_) (fun X9 μ9 hx9 => ?_)
  · have hA := hp1
    have hFr : FrS isC μ μ1 := by
      first
        | exact hA.2.1 ▸ FrS.rf
        | exact hA.2.1.2
        | exact hA.2.2.2
        | exact hA.2.2 ▸ FrS.rf
        | (obtain ⟨-, S9, -, h⟩ := hA; exact h.2)
        | (rcases hA with ⟨-, ⟨-, -, h⟩ | ⟨-, -, h⟩⟩
           · exact h ▸ FrS.rf
           · exact h.2)
    have sO := (hFr o).1 (by rw [ho]; decide) (by rw [ho]; exact KLO_nC)
    have ho1 : μ1.kd o = KLO := sO.1.trans ho
    have hol1 : μ1.ln o = 1 := sO.2.2.2.2.1.trans hol
    refine h_i2l C dL_outs_7 ?_
    refine h_last C dL_outs_8 (by rw [ho1]; decide) (inb hol1 (vp_in_nI (n := 0) (by decide) (by decide))) ?_
    refine h_goto (tgt := 15) C dL_outs_9 (by decide) ?_
    refine h_iconst (v := 0) C dL_outs_15 (by decide) ?_
    refine h_iret C E dL_outs_16 (by decide) (by decide) ?_
    exact ⟨_, rfl, Or.inl ⟨hA.1, rfl, _, _, ⟨_, rfl, hA⟩, rfl⟩⟩
  · obtain ⟨rfl, rfl, hc9⟩ := hx9
    · refine h_catch C NN TT [] (0, 9, 12, 21) [] rfl (fun _ h => absurd h List.not_mem_nil) (by decide) (by decide) lkx_IOB cst_IOB (fun q => ?_)
      refine h_ast_3 C dL_outs_12 ct_r rfv_r ?_
      refine h_iconst (v := 1) C dL_outs_13 (by decide) ?_
      refine h_iret C E dL_outs_14 (by decide) (by decide) ?_
      exact ⟨_, rfl, Or.inr ⟨by rw [hc9]; decide, hc9.symm, rfl⟩⟩

set_option maxRecDepth 100000 in
set_option maxHeartbeats 1000000 in
theorem k_L_out (l : Launch) (G : Gx) (P : Nat → Nat) (S : Sx) (μ : Mem) (hC : CRep G P S μ) (x y q : Int32) (o : Nat) (ho : μ.kd o = KLO) (hol : μ.ln o = 1) : KonH l yL_out cL_out 6 (some .int) [(0, 12, 15, 21), (0, 12, 19, 13)] 8 2 12 129 G [.ref (P 0), .int x, .int y, .int q, .ref o] μ (pI fun c9 μ9 => wrp (outC S x y q) (fun w9 μ1 => ∃ v9 : Int32, w9 = v9.toInt64 ∧ outC S x y q = 0 ∧ μ = μ1 ∧ v9 = OUTr S (cl x) (cl y) (1 + cl q)) o μ c9 μ9) := by
  refine KonH.of (by decide +kernel) (Nat.le_of_ble_eq_true rfl) (Nat.le_of_ble_eq_true rfl) (fun Z hZG C E NN TT => ?_)
  subst hZG
  have C : Cx Z RL cL_out 8 2 12 129 := C
  show HW Z 0 0 0 [some (.ref (P 0)), some (.int x), some (.int y), some (.int q), some (.ref o), none] [] μ
  refine h_al_w (j := 0) C dL_out_0 rfl rfv_r ?_
  refine h_iconst (v := 0) C dL_out_2 (by decide) ?_
  refine h_al_g C dL_out_3 rfl rfl rfv_r ?_
  refine h_iload_g C dL_out_4 rfl rfl ?_
  refine h_iload_g C dL_out_5 rfl rfl ?_
  refine h_iload_g C dL_out_6 rfl rfl ?_
  refine h_callV3 (ci := 8) C (k_X8_out Z.l Z.G P S _ hC x y q) cw_L_103 im_X8_out sl_X8_out rfl (by decide) (CRep.kX hC) dL_out_7 (by first | decide | exact Nat.le_of_ble_eq_true rfl) (by decide) (by decide) (by decide) (by decide) (kI fun r1 μ1 hp1 => ?_) (fun X9 μ9 hx9 => ?_)
  · have hA := hp1
    have hFr : FrS isC μ μ1 := by
      first
        | exact hA.2.1 ▸ FrS.rf
        | exact hA.2.1.2
        | exact hA.2.2.2
        | exact hA.2.2 ▸ FrS.rf
        | (obtain ⟨-, S9, -, h⟩ := hA; exact h.2)
        | (rcases hA with ⟨-, ⟨-, -, h⟩ | ⟨-, -, h⟩⟩
           · exact h ▸ FrS.rf
           · exact h.2)
    have sO := (hFr o).1 (by rw [ho]; decide) (by rw [ho]; exact KLO_nC)
    have ho1 : μ1.kd o = KLO := sO.1.trans ho
    have hol1 : μ1.ln o = 1 := sO.2.2.2.2.1.trans hol
    refine h_i2l C dL_out_10 ?_
    refine h_last C dL_out_11 (by rw [ho1]; decide) (inb hol1 (vp_in_nI (n := 0) (by decide) (by decide))) ?_
    refine h_goto (tgt := 23) C dL_out_12 (by decide) ?_
    refine h_iconst (v := 0) C dL_out_23 (by decide) ?_
    refine h_iret C E dL_out_24 (by decide) (by decide) ?_
    exact ⟨_, rfl, Or.inl ⟨hA.1, rfl, _, _, ⟨_, rfl, hA⟩, rfl⟩⟩
  · obtain ⟨rfl, hx8⟩ := hx9
    rcases hx8 with ⟨rfl, hc9⟩ | ⟨rfl, hc9⟩
    · refine h_catch C NN TT [] (0, 12, 15, 21) [(0, 12, 19, 13)] rfl (fun _ h => absurd h List.not_mem_nil) (by decide) (by decide) lkx_IOB cst_IOB (fun q => ?_)
      refine h_ast_5 C dL_out_15 ct_r rfv_r ?_
      refine h_iconst (v := 1) C dL_out_17 (by decide) ?_
      refine h_iret C E dL_out_18 (by decide) (by decide) ?_
      exact ⟨_, rfl, Or.inr ⟨by rw [hc9]; decide, hc9.symm, rfl⟩⟩
    · refine h_catch C NN TT [(0, 12, 15, 21)] (0, 12, 19, 13) [] rfl (List.forall_mem_cons.mpr ⟨⟨by decide, xIOB, lkx_IOB, List.mem_of_getElem? (i := 6) rfl⟩, (fun _ h => absurd h List.not_mem_nil)⟩) (by decide) (by decide) lkx_IAE cst_IAE (fun q => ?_)
      refine h_ast_5 C dL_out_19 ct_r rfv_r ?_
      refine h_iconst (v := 2) C dL_out_21 (by decide) ?_
      refine h_iret C E dL_out_22 (by decide) (by decide) ?_
      exact ⟨_, rfl, Or.inr ⟨by rw [hc9]; decide, hc9.symm, rfl⟩⟩

set_option maxRecDepth 100000 in
set_option maxHeartbeats 1000000 in
theorem k_L_drops (l : Launch) (G : Gx) (P : Nat → Nat) (S : Sx) (μ : Mem) (hC : CRep G P S μ) (x : Int32) (o : Nat) (ho : μ.kd o = KLO) (hol : μ.ln o = 1) : KonH l yL_drops cL_drops 4 (some .int) [(0, 9, 12, 13)] 8 1 6 125 G [.ref (P 0), .int x, .ref o] μ (pI fun c9 μ9 => wrp (dropC x) (fun w9 μ1 => ∃ v9 : Int32, w9 = v9.toInt64 ∧ dropC x = 0 ∧ μ = μ1 ∧ v9 = S.cd (cl (x - (-7)))) o μ c9 μ9) := by
  refine KonH.of (by decide +kernel) (Nat.le_of_ble_eq_true rfl) (Nat.le_of_ble_eq_true rfl) (fun Z hZG C E NN TT => ?_)
  subst hZG
  have C : Cx Z RL cL_drops 8 1 6 125 := C
  show HW Z 0 0 0 [some (.ref (P 0)), some (.int x), some (.ref o), none] [] μ
  refine h_al_g C dL_drops_0 rfl rfl rfv_r ?_
  refine h_iconst (v := 0) C dL_drops_1 (by decide) ?_
  refine h_al_g C dL_drops_2 rfl rfl rfv_r ?_
  refine h_iload_g C dL_drops_3 rfl rfl ?_
  refine h_callV1 (ci := 8) C (k_X8_drops Z.l Z.G P S _ hC x) cw_L_106 im_X8_drops sl_X8_drops rfl (by decide) (CRep.kX hC) dL_drops_4 (by first | decide | exact Nat.le_of_ble_eq_true rfl) (by decide) (by decide) (by decide) (by decide) (kI fun r1 μ1 hp1 => ?_) (fun X9 μ9 hx9 => ?_)
  · have hA := hp1
    have hFr : FrS isC μ μ1 := by
      first
        | exact hA.2.1 ▸ FrS.rf
        | exact hA.2.1.2
        | exact hA.2.2.2
        | exact hA.2.2 ▸ FrS.rf
        | (obtain ⟨-, S9, -, h⟩ := hA; exact h.2)
        | (rcases hA with ⟨-, ⟨-, -, h⟩ | ⟨-, -, h⟩⟩
           · exact h ▸ FrS.rf
           · exact h.2)
    have sO := (hFr o).1 (by rw [ho]; decide) (by rw [ho]; exact KLO_nC)
    have ho1 : μ1.kd o = KLO := sO.1.trans ho
    have hol1 : μ1.ln o = 1 := sO.2.2.2.2.1.trans hol
    refine h_i2l C dL_drops_7 ?_
    refine h_last C dL_drops_8 (by rw [ho1]; decide) (inb hol1 (vp_in_nI (n := 0) (by decide) (by decide))) ?_
    refine h_goto (tgt := 15) C dL_drops_9 (by decide) ?_
    refine h_iconst (v := 0) C dL_drops_15 (by decide) ?_
    refine h_iret C E dL_drops_16 (by decide) (by decide) ?_
    exact ⟨_, rfl, Or.inl ⟨hA.1, rfl, _, _, ⟨_, rfl, hA⟩, rfl⟩⟩
  · obtain ⟨rfl, rfl, hc9⟩ := hx9
    · refine h_catch C NN TT [] (0, 9, 12, 13) [] rfl (fun _ h => absurd h List.not_mem_nil) (by decide) (by decide) lkx_IAE cst_IAE (fun q => ?_)
      refine h_ast_3 C dL_drops_12 ct_r rfv_r ?_
      refine h_iconst (v := 1) C dL_drops_13 (by decide) ?_
      refine h_iret C E dL_drops_14 (by decide) (by decide) ?_
      exact ⟨_, rfl, Or.inr ⟨by rw [hc9]; decide, hc9.symm, rfl⟩⟩

set_option maxRecDepth 100000 in
set_option maxHeartbeats 1000000 in
theorem k_L_publicOf (l : Launch) (G : Gx) (P : Nat → Nat) (S : Sx) (μ : Mem) (hC : CRep G P S μ) (x : Int32) (o : Nat) (ho : μ.kd o = KLO) (hol : μ.ln o = 1) : KonH l yL_publicOf cL_publicOf 4 (some .int) [(0, 9, 12, 13)] 8 1 6 125 G [.ref (P 0), .int x, .ref o] μ (pI fun c9 μ9 => wrp (secC x) (fun w9 μ1 => ∃ v9 : Int32, w9 = v9.toInt64 ∧ secC x = 0 ∧ μ = μ1 ∧ v9 = nI (PW 7 (cl x))) o μ c9 μ9) := by
  refine KonH.of (by decide +kernel) (Nat.le_of_ble_eq_true rfl) (Nat.le_of_ble_eq_true rfl) (fun Z hZG C E NN TT => ?_)
  subst hZG
  have C : Cx Z RL cL_publicOf 8 1 6 125 := C
  show HW Z 0 0 0 [some (.ref (P 0)), some (.int x), some (.ref o), none] [] μ
  refine h_al_g C dL_publicOf_0 rfl rfl rfv_r ?_
  refine h_iconst (v := 0) C dL_publicOf_1 (by decide) ?_
  refine h_al_g C dL_publicOf_2 rfl rfl rfv_r ?_
  refine h_iload_g C dL_publicOf_3 rfl rfl ?_
  refine h_callV1 (ci := 8) C (k_X8_publicOf Z.l Z.G P S _ hC x) cw_L_109 im_X8_publicOf sl_X8_publicOf rfl (by decide) (CRep.kX hC) dL_publicOf_4 (by first | decide | exact Nat.le_of_ble_eq_true rfl) (by decide) (by decide) (by decide) (by decide) (kI fun r1 μ1 hp1 => ?_) (fun X9 μ9 hx9 => ?_)
  · have hA := hp1
    have hFr : FrS isC μ μ1 := by
      first
        | exact hA.2.1 ▸ FrS.rf
        | exact hA.2.1.2
        | exact hA.2.2.2
        | exact hA.2.2 ▸ FrS.rf
        | (obtain ⟨-, S9, -, h⟩ := hA; exact h.2)
        | (rcases hA with ⟨-, ⟨-, -, h⟩ | ⟨-, -, h⟩⟩
           · exact h ▸ FrS.rf
           · exact h.2)
    have sO := (hFr o).1 (by rw [ho]; decide) (by rw [ho]; exact KLO_nC)
    have ho1 : μ1.kd o = KLO := sO.1.trans ho
    have hol1 : μ1.ln o = 1 := sO.2.2.2.2.1.trans hol
    refine h_i2l C dL_publicOf_7 ?_
    refine h_last C dL_publicOf_8 (by rw [ho1]; decide) (inb hol1 (vp_in_nI (n := 0) (by decide) (by decide))) ?_
    refine h_goto (tgt := 15) C dL_publicOf_9 (by decide) ?_
    refine h_iconst (v := 0) C dL_publicOf_15 (by decide) ?_
    refine h_iret C E dL_publicOf_16 (by decide) (by decide) ?_
    exact ⟨_, rfl, Or.inl ⟨hA.1, rfl, _, _, ⟨_, rfl, hA⟩, rfl⟩⟩
  · obtain ⟨rfl, rfl, hc9⟩ := hx9
    · refine h_catch C NN TT [] (0, 9, 12, 13) [] rfl (fun _ h => absurd h List.not_mem_nil) (by decide) (by decide) lkx_IAE cst_IAE (fun q => ?_)
      refine h_ast_3 C dL_publicOf_12 ct_r rfv_r ?_
      refine h_iconst (v := 1) C dL_publicOf_13 (by decide) ?_
      refine h_iret C E dL_publicOf_14 (by decide) (by decide) ?_
      exact ⟨_, rfl, Or.inr ⟨by rw [hc9]; decide, hc9.symm, rfl⟩⟩

set_option maxRecDepth 100000 in
set_option maxHeartbeats 1000000 in
theorem k_L_shared (l : Launch) (G : Gx) (P : Nat → Nat) (S : Sx) (μ : Mem) (hC : CRep G P S μ) (x y : Int32) (o : Nat) (ho : μ.kd o = KLO) (hol : μ.ln o = 1) : KonH l yL_shared cL_shared 5 (some .int) [(0, 10, 13, 13)] 8 2 12 126 G [.ref (P 0), .int x, .int y, .ref o] μ (pI fun c9 μ9 => wrp (shaC x y) (fun w9 μ1 => ∃ v9 : Int32, w9 = v9.toInt64 ∧ shaC x y = 0 ∧ μ = μ1 ∧ v9 = nI (PW (cl y) (cl x))) o μ c9 μ9) := by
  refine KonH.of (by decide +kernel) (Nat.le_of_ble_eq_true rfl) (Nat.le_of_ble_eq_true rfl) (fun Z hZG C E NN TT => ?_)
  subst hZG
  have C : Cx Z RL cL_shared 8 2 12 126 := C
  show HW Z 0 0 0 [some (.ref (P 0)), some (.int x), some (.int y), some (.ref o), none] [] μ
  refine h_al_g C dL_shared_0 rfl rfl rfv_r ?_
  refine h_iconst (v := 0) C dL_shared_1 (by decide) ?_
  refine h_al_g C dL_shared_2 rfl rfl rfv_r ?_
  refine h_iload_g C dL_shared_3 rfl rfl ?_
  refine h_iload_g C dL_shared_4 rfl rfl ?_
  refine h_callV2 (ci := 8) C (k_X8_shared Z.l Z.G P S _ hC x y) cw_L_112 im_X8_shared sl_X8_shared rfl (by decide) (CRep.kX hC) dL_shared_5 (by first | decide | exact Nat.le_of_ble_eq_true rfl) (by decide) (by decide) (by decide) (by decide) (kI fun r1 μ1 hp1 => ?_) (fun X9 μ9 hx9 => ?_)
  · have hA := hp1
    have hFr : FrS isC μ μ1 := by
      first
        | exact hA.2.1 ▸ FrS.rf
        | exact hA.2.1.2
        | exact hA.2.2.2
        | exact hA.2.2 ▸ FrS.rf
        | (obtain ⟨-, S9, -, h⟩ := hA; exact h.2)
        | (rcases hA with ⟨-, ⟨-, -, h⟩ | ⟨-, -, h⟩⟩
           · exact h ▸ FrS.rf
           · exact h.2)
    have sO := (hFr o).1 (by rw [ho]; decide) (by rw [ho]; exact KLO_nC)
    have ho1 : μ1.kd o = KLO := sO.1.trans ho
    have hol1 : μ1.ln o = 1 := sO.2.2.2.2.1.trans hol
    refine h_i2l C dL_shared_8 ?_
    refine h_last C dL_shared_9 (by rw [ho1]; decide) (inb hol1 (vp_in_nI (n := 0) (by decide) (by decide))) ?_
    refine h_goto (tgt := 17) C dL_shared_10 (by decide) ?_
    refine h_iconst (v := 0) C dL_shared_17 (by decide) ?_
    refine h_iret C E dL_shared_18 (by decide) (by decide) ?_
    exact ⟨_, rfl, Or.inl ⟨hA.1, rfl, _, _, ⟨_, rfl, hA⟩, rfl⟩⟩
  · obtain ⟨rfl, rfl, hc9⟩ := hx9
    · refine h_catch C NN TT [] (0, 10, 13, 13) [] rfl (fun _ h => absurd h List.not_mem_nil) (by decide) (by decide) lkx_IAE cst_IAE (fun q => ?_)
      refine h_ast_4 C dL_shared_13 ct_r rfv_r ?_
      refine h_iconst (v := 1) C dL_shared_15 (by decide) ?_
      refine h_iret C E dL_shared_16 (by decide) (by decide) ?_
      exact ⟨_, rfl, Or.inr ⟨by rw [hc9]; decide, hc9.symm, rfl⟩⟩

set_option maxRecDepth 100000 in
set_option maxHeartbeats 1000000 in
theorem k_L_seal (l : Launch) (G : Gx) (P : Nat → Nat) (S : Sx) (μ : Mem) (hC : CRep G P S μ) (k x y z : Int32) (o : Nat) (ho : μ.kd o = KLO) (hol : μ.ln o = 1) : KonH l yL_seal cL_seal 7 (some .int) [(0, 14, 17, 13)] 8 5 26 151 G [.ref (P 0), .int k, .int x, .int y, .int z, .ref o] μ (pI fun c9 μ9 => wrp (seaC k x y z) (fun w9 μ1 => ∃ v9 : Int32, w9 = v9.toInt64 ∧ seaC k x y z = 0 ∧ CTo G P μ S μ1 ∧ v9 = SEAv k x y z) o μ c9 μ9) := by
  refine KonH.of (by decide +kernel) (Nat.le_of_ble_eq_true rfl) (Nat.le_of_ble_eq_true rfl) (fun Z hZG C E NN TT => ?_)
  subst hZG
  have C : Cx Z RL cL_seal 8 5 26 151 := C
  show HW Z 0 0 0 [some (.ref (P 0)), some (.int k), some (.int x), some (.int y), some (.int z), some (.ref o), none] [] μ
  refine h_al_w (j := 0) C dL_seal_0 rfl rfv_r ?_
  refine h_iconst (v := 0) C dL_seal_2 (by decide) ?_
  refine h_al_g C dL_seal_3 rfl rfl rfv_r ?_
  refine h_iload_g C dL_seal_4 rfl rfl ?_
  refine h_iload_g C dL_seal_5 rfl rfl ?_
  refine h_iload_g C dL_seal_6 rfl rfl ?_
  refine h_iload_w C dL_seal_7 rfl ?_
  refine h_callV4 (ci := 8) C (k_X8_seal Z.l Z.G P S _ hC k x y z) cw_L_115 im_X8_seal sl_X8_seal rfl (by decide) (CRep.kX hC) dL_seal_9 (by first | decide | exact Nat.le_of_ble_eq_true rfl) (by decide) (by decide) (by decide) (by decide) (kI fun r1 μ1 hp1 => ?_) (fun X9 μ9 hx9 => ?_)
  · have hA := hp1
    have hFr : FrS isC μ μ1 := by
      first
        | exact hA.2.1 ▸ FrS.rf
        | exact hA.2.1.2
        | exact hA.2.2.2
        | exact hA.2.2 ▸ FrS.rf
        | (obtain ⟨-, S9, -, h⟩ := hA; exact h.2)
        | (rcases hA with ⟨-, ⟨-, -, h⟩ | ⟨-, -, h⟩⟩
           · exact h ▸ FrS.rf
           · exact h.2)
    have sO := (hFr o).1 (by rw [ho]; decide) (by rw [ho]; exact KLO_nC)
    have ho1 : μ1.kd o = KLO := sO.1.trans ho
    have hol1 : μ1.ln o = 1 := sO.2.2.2.2.1.trans hol
    refine h_i2l C dL_seal_12 ?_
    refine h_last C dL_seal_13 (by rw [ho1]; decide) (inb hol1 (vp_in_nI (n := 0) (by decide) (by decide))) ?_
    refine h_goto (tgt := 21) C dL_seal_14 (by decide) ?_
    refine h_iconst (v := 0) C dL_seal_21 (by decide) ?_
    refine h_iret C E dL_seal_22 (by decide) (by decide) ?_
    exact ⟨_, rfl, Or.inl ⟨hA.1, rfl, _, _, ⟨_, rfl, hA⟩, rfl⟩⟩
  · obtain ⟨rfl, rfl, hc9⟩ := hx9
    · refine h_catch C NN TT [] (0, 14, 17, 13) [] rfl (fun _ h => absurd h List.not_mem_nil) (by decide) (by decide) lkx_IAE cst_IAE (fun q => ?_)
      refine h_ast_6 C dL_seal_17 ct_r rfv_r ?_
      refine h_iconst (v := 1) C dL_seal_19 (by decide) ?_
      refine h_iret C E dL_seal_20 (by decide) (by decide) ?_
      exact ⟨_, rfl, Or.inr ⟨by rw [hc9]; decide, hc9.symm, rfl⟩⟩

end
