section
set_option maxRecDepth 100000 in
set_option maxHeartbeats 1000000 in
theorem k_X9_fresh (l : Launch) (G : Gx) (x : Int32) (m : Nat) (hx : x = nI m) (hm : m < 1000000) (μ : Mem) : Kon l yX9_fresh cX9_fresh 1 (some .int) 0 0 0 0 G [.int x] μ (pI fun r μ' => μ = μ' ∧ r = nI (SEC m)) noX := by
  refine Kon.ofG (by decide +kernel) (Nat.le_of_ble_eq_true rfl) (Nat.le_of_ble_eq_true rfl) (fun Z hZG C E NT MT => ?_)
  subst hZG
  have C : Cx Z RX9 cX9_fresh 0 0 0 0 := C
  show HW Z 0 0 0 [some (.int x)] [] μ
  refine h_iconst (v := 1) C dX9_fresh_0 (by decide) ?_
  refine h_ldc2 C kc_X9_125 dX9_fresh_1 ?_
  refine h_iload_g C dX9_fresh_4 rfl rfl ?_
  refine h_i2l C dX9_fresh_5 ?_
  refine h_lmul C dX9_fresh_6 ?_
  refine h_ldc2 C kc_X9_127 dX9_fresh_7 ?_
  refine h_lrem C dX9_fresh_10 (by decide) ?_
  refine h_l2i C dX9_fresh_11 ?_
  refine h_iadd C dX9_fresh_12 ?_
  refine h_iret C E dX9_fresh_13 (by decide) (by decide) ?_
  refine ⟨_, rfl, rfl, ?_⟩
  have e1 : x.toInt64.toInt = (m : Int) := by rw [i_toL, hx, nI_toInt (by omega)]
  have e2 : (577 * x.toInt64 : Int64).toInt = 577 * (m : Int) := by rw [fb_mulL (by rw [e1]; show _ ≤ (577 : Int) * _; omega) (by rw [e1]; show (577 : Int) * _ < _; omega), e1]; rfl
  have e3 : (577 * x.toInt64 - 577 * x.toInt64 / 1018 * 1018 : Int64).toInt = ((577 * m % 1018 : Nat) : Int) := by
    rw [lrem_eq, Int64.toInt_mod, e2, show (1018 : Int64).toInt = 1018 from by decide, Int.tmod_eq_emod_of_nonneg (by omega)]
    omega
  rw [l_toI (z := 577 * m % 1018) e3 (by omega)]
  exact nI_add 1 _

def CNT (x b : Int32) : Int32 := (x >>> ((8 - b) &&& 31)) <<< ((8 - b) &&& 31)
theorem CNT_TOPB : ∀ p, p < 256 → ∀ b, b < 9 → CNT (nI p) (nI b) = TOPB (nI p) (nI b) := by decide +kernel
set_option maxRecDepth 100000 in
set_option maxHeartbeats 1000000 in
theorem k_X9_counting (l : Launch) (G : Gx) (x b : Int32) (μ : Mem) : Kon l yX9_counting cX9_counting 2 (some .int) 0 0 0 0 G [.int x, .int b] μ (pI fun v μ' => μ = μ' ∧ v = CNT x b) noX := by
  refine Kon.ofG (by decide +kernel) (Nat.le_of_ble_eq_true rfl) (Nat.le_of_ble_eq_true rfl) (fun Z hZG C E NT MT => ?_)
  subst hZG
  have C : Cx Z RX9 cX9_counting 0 0 0 0 := C
  show HW Z 0 0 0 [some (.int x), some (.int b)] [] μ
  refine h_iload_g C dX9_counting_0 rfl rfl ?_
  refine h_bipush (v := 8) C dX9_counting_1 (by decide) ?_
  refine h_iload_g C dX9_counting_3 rfl rfl ?_
  refine h_isub C dX9_counting_4 ?_
  refine h_ishr C dX9_counting_5 ?_
  refine h_bipush (v := 8) C dX9_counting_6 (by decide) ?_
  refine h_iload_g C dX9_counting_8 rfl rfl ?_
  refine h_isub C dX9_counting_9 ?_
  refine h_ishl C dX9_counting_10 ?_
  refine h_iret C E dX9_counting_11 (by decide) (by decide) ?_
  exact ⟨_, rfl, rfl, rfl⟩

set_option maxRecDepth 100000 in
set_option maxHeartbeats 1000000 in
theorem k_X9_keyOf (l : Launch) (G : Gx) (x9 a b e : Nat) (x y z : Int32) (hx : x = nI a) (ha : a < 3) (hy : y = nI b) (hb : b < 3) (hz : z = nI e) (he : e < 2 ^ 31) (μ : Mem) : Kon l yX9_keyOf cX9_keyOf 4 (some .int) 3 1 3 66 G [.ref x9, .int x, .int y, .int z] μ (pI fun v μ' => v = nI (HKY a b e) ∧ FrK (fun k9 => k9 = 11 + 32 * 100) μ μ') noX := by
  refine Kon.ofG (by decide +kernel) (Nat.le_of_ble_eq_true rfl) (Nat.le_of_ble_eq_true rfl) (fun Z hZG C E NT MT => ?_)
  subst hZG
  have C : Cx Z RX9 cX9_keyOf 3 1 3 66 := C
  show HW Z 0 0 0 [some (.ref x9), some (.int x), some (.int y), some (.int z)] [] μ
  have hnb := NAME_lt b
  refine h_iconst (v := 3) C dX9_keyOf_0 (by decide) ?_
  refine h_newarr (atype := .int) (N := 3) (11 + 32 * 100) C ac_11 (by rw [(show (11 + 32 * 100) % 32 = 11 by first | decide | omega | (unfold FM; omega))]; rfl) (Or.inl (show (11 + 32 * 100) % 32 = 11 by first | decide | omega | (unfold FM; omega))) dX9_keyOf_1 (by decide) (by decide) (by decide) (by first | decide | omega) (by first | decide | omega) (fun q hq => ?_)
  have hka : (μ.newA q (11 + 32 * 100) 3).kd q = 11 + 32 * 100 := kd_newA
  have hla : (μ.newA q (11 + 32 * 100) 3).ln q = 3 := ln_newA
  refine h_dup C dX9_keyOf_3 rfl ?_
  refine h_iconst (v := 0) C dX9_keyOf_4 (by decide) ?_
  refine h_iconst (v := 1) C dX9_keyOf_5 (by decide) ?_
  refine h_iast C dX9_keyOf_6 (by show (μ.newA q (11 + 32 * 100) 3).kd q % 32 = 11; rw [hka]) (by show vp_in _ ((μ.newA q (11 + 32 * 100) 3).ln q); rw [hla]; exact vp_in_nI (show 0 < 3 by decide) (by decide)) ?_
  refine h_dup C dX9_keyOf_7 rfl ?_
  refine h_iconst (v := 1) C dX9_keyOf_8 (by decide) ?_
  refine h_iload_g C dX9_keyOf_9 rfl rfl ?_
  refine h_iload_g C dX9_keyOf_10 rfl rfl ?_
  refine h_callS1 C (k_X9_nameOf Z.l Z.G _ b hy (by omega) _) cw_X9_132 st_X9_nameOf dX9_keyOf_11 (by first | decide | exact Nat.le_of_ble_eq_true rfl) (by decide) (by decide) (by decide) (by decide) (kI fun r1 μ1 hp1 => ?_) kN
  obtain ⟨rfl, rfl⟩ := hp1
  refine h_callS2 C (k_X9_both Z.l Z.G _ _ e (NAME b) hz he rfl (by omega) _) cw_X9_135 st_X9_both dX9_keyOf_14 (by first | decide | exact Nat.le_of_ble_eq_true rfl) (by decide) (by decide) (by decide) (by decide) (kI fun r2 μ2 hp2 => ?_) kN
  obtain ⟨rfl, rfl⟩ := hp2
  refine h_iast C dX9_keyOf_17 (by show (μ.newA q (11 + 32 * 100) 3).kd q % 32 = 11; rw [hka]) (by show vp_in _ ((μ.newA q (11 + 32 * 100) 3).ln q); rw [hla]; exact vp_in_nI (show 1 < 3 by decide) (by decide)) ?_
  refine h_dup C dX9_keyOf_18 rfl ?_
  refine h_iconst (v := 2) C dX9_keyOf_19 (by decide) ?_
  refine h_iload_g C dX9_keyOf_20 rfl rfl ?_
  refine h_callS1 C (k_X9_secretOf Z.l Z.G _ _) cw_X9_118 st_X9_secretOf dX9_keyOf_21 (by first | decide | exact Nat.le_of_ble_eq_true rfl) (by decide) (by decide) (by decide) (by decide) (kI fun r3 μ3 hp3 => ?_) kN
  obtain ⟨rfl, rfl⟩ := hp3
  rw [show (211 + 307 * x : Int32) = nI (211 + 307 * a) from by rw [hx, show (307 : Int32) = nI 307 from rfl, pk_mul, show (211 : Int32) = nI 211 from rfl, nI_add]]
  refine h_iload_g C dX9_keyOf_24 rfl rfl ?_
  refine h_callS1 C (k_X9_nameOf Z.l Z.G _ b hy (by omega) _) cw_X9_132 st_X9_nameOf dX9_keyOf_25 (by first | decide | exact Nat.le_of_ble_eq_true rfl) (by decide) (by decide) (by decide) (by decide) (kI fun r4 μ4 hp4 => ?_) kN
  obtain ⟨rfl, rfl⟩ := hp4
  refine h_callS2 C (k_X9_both Z.l Z.G _ _ (211 + 307 * a) (NAME b) rfl (by omega) rfl (by omega) _) cw_X9_135 st_X9_both dX9_keyOf_28 (by first | decide | exact Nat.le_of_ble_eq_true rfl) (by decide) (by decide) (by decide) (by decide) (kI fun r5 μ5 hp5 => ?_) kN
  obtain ⟨rfl, rfl⟩ := hp5
  refine h_iast C dX9_keyOf_31 (by show (μ.newA q (11 + 32 * 100) 3).kd q % 32 = 11; rw [hka]) (by show vp_in _ ((μ.newA q (11 + 32 * 100) 3).ln q); rw [hla]; exact vp_in_nI (show 2 < 3 by decide) (by decide)) ?_
  rw [show (0 : Int32).toNatClampNeg = 0 from by decide, show (1 : Int32).toNatClampNeg = 1 from by decide, show (2 : Int32).toNatClampNeg = 2 from by decide]
  have f1 : FrK (fun k9 => k9 = 11 + 32 * 100) μ (μ.newA q (11 + 32 * 100) 3) := FrK.newA hq rfl
  have f2 : FrK (fun k9 => k9 = 11 + 32 * 100) (μ.newA q (11 + 32 * 100) 3) ((μ.newA q (11 + 32 * 100) 3).sei q 0 1) := FrK.sei hka
  have f3 : FrK (fun k9 => k9 = 11 + 32 * 100) ((μ.newA q (11 + 32 * 100) 3).sei q 0 1) (((μ.newA q (11 + 32 * 100) 3).sei q 0 1).sei q 1 (nI (PW (NAME b) e))) := FrK.sei (show ((μ.newA q (11 + 32 * 100) 3).sei q 0 1).kd q = 11 + 32 * 100 from hka)
  have f4 : FrK (fun k9 => k9 = 11 + 32 * 100) (((μ.newA q (11 + 32 * 100) 3).sei q 0 1).sei q 1 (nI (PW (NAME b) e))) ((((μ.newA q (11 + 32 * 100) 3).sei q 0 1).sei q 1 (nI (PW (NAME b) e))).sei q 2 (nI (PW (NAME b) (211 + 307 * a)))) := FrK.sei (show (((μ.newA q (11 + 32 * 100) 3).sei q 0 1).sei q 1 (nI (PW (NAME b) e))).kd q = 11 + 32 * 100 from hka)
  refine h_callS1 C (k_X9_mix Z.l Z.G q [1, (nI (PW (NAME b) e)), (nI (PW (NAME b) (211 + 307 * a)))] _ (by show (μ.newA q (11 + 32 * 100) 3).kd q % 32 = 11; rw [hka]) (by show (μ.newA q (11 + 32 * 100) 3).ln q = 3; exact hla) (fun i hi => by
      have h9 : i = 0 ∨ i = 1 ∨ i = 2 := by have : i < 3 := hi; omega
      rcases h9 with rfl | rfl | rfl
      · show u2 (u2 (u2 _ q 0 1) q 1 _) q 2 _ q 0 = 1
        unfold u2
        rw [if_pos rfl, if_neg (by decide), if_pos rfl, if_neg (by decide), if_pos rfl, if_pos rfl]
      · show u2 (u2 _ q 1 (nI (PW (NAME b) e))) q 2 _ q 1 = (nI (PW (NAME b) e))
        unfold u2
        rw [if_pos rfl, if_neg (by decide), if_pos rfl, if_pos rfl]
      · exact u2_eq) (show 3 ≤ 100 by decide)) cw_X9_138 st_X9_mix dX9_keyOf_32 (by first | decide | exact Nat.le_of_ble_eq_true rfl) (by decide) (by decide) (by decide) (by decide) (kI fun r6 μ6 hp6 => ?_) kN
  obtain ⟨rfl, rfl⟩ := hp6
  refine h_iret C E dX9_keyOf_35 (by decide) (by decide) ?_
  refine ⟨_, rfl, ?_, ((f1.tr f2).tr f3).tr f4⟩
  show nI (MIX [(1 : Int32).toInt, (nI (PW (NAME b) e)).toInt, (nI (PW (NAME b) (211 + 307 * a))).toInt]) = _
  rw [PW_i, PW_i]
  rfl

end
