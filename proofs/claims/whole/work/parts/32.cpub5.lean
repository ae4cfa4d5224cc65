section
set_option maxRecDepth 100000 in
set_option maxHeartbeats 4000000 in
theorem k_X8_seal (l : Launch) (G : Gx) (P : Nat → Nat) (S : Sx) (μ : Mem) (hC : CRep G P S μ) (k x y z : Int32) : Kon l yX8_seal cX8_seal 6 (some .int) 7 5 26 126 G [.ref (P 0), .int k, .int x, .int y, .int z] μ (pI fun v μ' => seaC k x y z = 0 ∧ CTo G P μ S μ' ∧ v = SEAv k x y z) (PX1 xIAE (seaC k x y z) μ) := by
  refine Kon.ofG (by decide +kernel) (Nat.le_of_ble_eq_true rfl) (Nat.le_of_ble_eq_true rfl) (fun Z hZG C E NT MT => ?_)
  subst hZG
  have C : Cx Z RX8 cX8_seal 7 5 26 126 := C
  show HW Z 0 0 0 [some (.ref (P 0)), some (.int k), some (.int x), some (.int y), some (.int z), none] [] μ
  refine h_iload_g C dX8_seal_0 rfl rfl ?_
  refine h_iconst (v := 1) C dX8_seal_1 (by decide) ?_
  refine h_ldcw C kc_X8_277 dX8_seal_2 ?_
  refine h_callS3 C (k_X8_checkRange Z.l Z.G (k) (1) (65520) _) cw_X8_56 st_X8_checkRange dX8_seal_5 (by first | decide | exact Nat.le_of_ble_eq_true rfl) (by decide) (by decide) (by decide) (by decide) (kV fun μ1 hp1 => ?_) (fun X9 μ9 hx9 => ?_)
  · obtain ⟨rfl, h1⟩ := hp1
    refine h_iload_g C dX8_seal_8 rfl rfl ?_
    refine h_iconst (v := (-1)) C dX8_seal_9 (by decide) ?_
    refine h_sipush (v := 9999) C dX8_seal_10 (by decide) ?_
    refine h_callS3 C (k_X8_checkRange Z.l Z.G (x) (-1) (9999) _) cw_X8_56 st_X8_checkRange dX8_seal_13 (by first | decide | exact Nat.le_of_ble_eq_true rfl) (by decide) (by decide) (by decide) (by decide) (kV fun μ2 hp2 => ?_) (fun X9 μ9 hx9 => ?_)
    · obtain ⟨rfl, h2⟩ := hp2
      refine h_iload_g C dX8_seal_16 rfl rfl ?_
      refine h_iconst (v := (-1)) C dX8_seal_17 (by decide) ?_
      refine h_sipush (v := 9999) C dX8_seal_18 (by decide) ?_
      refine h_callS3 C (k_X8_checkRange Z.l Z.G (y) (-1) (9999) _) cw_X8_56 st_X8_checkRange dX8_seal_21 (by first | decide | exact Nat.le_of_ble_eq_true rfl) (by decide) (by decide) (by decide) (by decide) (kV fun μ3 hp3 => ?_) (fun X9 μ9 hx9 => ?_)
      · obtain ⟨rfl, h3⟩ := hp3
        refine h_iload_w C dX8_seal_24 rfl ?_
        refine h_iconst (v := (-1)) C dX8_seal_26 (by decide) ?_
        refine h_sipush (v := 9999) C dX8_seal_27 (by decide) ?_
        refine h_callS3 C (k_X8_checkRange Z.l Z.G (z) (-1) (9999) _) cw_X8_56 st_X8_checkRange dX8_seal_30 (by first | decide | exact Nat.le_of_ble_eq_true rfl) (by decide) (by decide) (by decide) (by decide) (kV fun μ4 hp4 => ?_) (fun X9 μ9 hx9 => ?_)
        · obtain ⟨rfl, h4⟩ := hp4
          refine h_iconst (v := 2) C dX8_seal_33 (by decide) ?_
          refine h_newarr (atype := .int) (N := 2) (11 + 32 * 40) C ac_11 (by rw [(show (11 + 32 * 40) % 32 = 11 by first | decide | omega | (unfold FM; omega))]; rfl) (Or.inl (show (11 + 32 * 40) % 32 = 11 by first | decide | omega | (unfold FM; omega))) dX8_seal_34 (by decide) (by decide) (by decide) (by first | decide | omega) (by first | decide | omega) (fun q hq => ?_)
          have hka : (μ.newA q (11 + 32 * 40) 2).kd q = 11 + 32 * 40 := kd_newA
          have hla : (μ.newA q (11 + 32 * 40) 2).ln q = 2 := ln_newA
          refine h_dup C dX8_seal_36 rfl ?_
          refine h_iconst (v := 0) C dX8_seal_37 (by decide) ?_
          refine h_iload_g C dX8_seal_38 rfl rfl ?_
          refine h_iast C dX8_seal_39 (by rw [hka]) (by rw [hla]; exact vp_in_nI (show 0 < 2 by decide) (by decide)) ?_
          refine h_dup C dX8_seal_40 rfl ?_
          refine h_iconst (v := 1) C dX8_seal_41 (by decide) ?_
          refine h_iload_w C dX8_seal_42 rfl ?_
          refine h_iast C dX8_seal_44 (by show (μ.newA q (11 + 32 * 40) 2).kd q % 32 = 11; rw [hka]) (by show vp_in _ ((μ.newA q (11 + 32 * 40) 2).ln q); rw [hla]; exact vp_in_nI (show 1 < 2 by decide) (by decide)) ?_
          rw [show (0 : Int32).toNatClampNeg = 0 from by decide, show (1 : Int32).toNatClampNeg = 1 from by decide]
          have f1 : FrK (fun k9 => k9 = 11 + 32 * 40) μ (μ.newA q (11 + 32 * 40) 2) := FrK.newA hq rfl
          have f2 : FrK (fun k9 => k9 = 11 + 32 * 40) (μ.newA q (11 + 32 * 40) 2) ((μ.newA q (11 + 32 * 40) 2).sei q 0 y) := FrK.sei hka
          have f3 : FrK (fun k9 => k9 = 11 + 32 * 40) ((μ.newA q (11 + 32 * 40) 2).sei q 0 y) (((μ.newA q (11 + 32 * 40) 2).sei q 0 y).sei q 1 z) := FrK.sei (show ((μ.newA q (11 + 32 * 40) 2).sei q 0 y).kd q = 11 + 32 * 40 from hka)
          refine h_ast_5 C dX8_seal_45 ct_i rfv_r ?_
          refine h_iload_g C dX8_seal_47 rfl rfl ?_
          refine h_iload_g C dX8_seal_48 rfl rfl ?_
          refine h_al_w (j := 0) C dX8_seal_49 rfl rfv_r ?_
          refine h_al_w (j := 0) C dX8_seal_51 rfl rfv_r ?_
          refine h_alen C dX8_seal_53 (by show _ ∧ (μ.newA q (11 + 32 * 40) 2).kd q % 32 < 23; show 10 < (μ.newA q (11 + 32 * 40) 2).kd q % 32 ∧ _; rw [hka]; decide) (show (μ.newA q (11 + 32 * 40) 2).ln q = 2 from hla) ?_
          rw [show (Int32.ofNat 2 : Int32) = 2 from rfl]
          have h1b := h1
          simp only [inR, Int32.lt_iff_toInt_lt, Int32.le_iff_toInt_le, tl_m10000, tl_m1000, tl_m500, tl_m7, tl_m6, tl_m5, tl_m4, tl_m3, tl_m2, tl_m1, tl_0, tl_1, tl_2, tl_3, tl_4, tl_5, tl_6, tl_7, tl_8, tl_9, tl_10, tl_11, tl_15, tl_16, tl_20, tl_30, tl_40, tl_60, tl_99, tl_100, tl_211, tl_255, tl_307, tl_500, tl_1018, tl_2038, tl_2039, tl_9999, tl_10000, tl_65280, tl_65520, tl_65521, tl_1000000, tl_500000000] at h1b
          have hck := cl_eq (x := k) (by omega)
          refine h_callS4 C (k_X4_sealOf Z.l Z.G k x 2 q (cl k) 2 (fun i => if i = 0 then y else z) (cl_nI (by omega)) (by omega) rfl (by decide) _ (by show (μ.newA q (11 + 32 * 40) 2).kd q % 32 = 11; rw [hka]) (by show (μ.newA q (11 + 32 * 40) 2).ln q < _; rw [hla]; decide) (by show 2 ≤ (μ.newA q (11 + 32 * 40) 2).ln q; rw [hla]; exact Nat.le_refl 2) (fun i hi => by
      have h9 : i = 0 ∨ i = 1 := by omega
      rcases h9 with rfl | rfl
      · show u2 (u2 _ q 0 y) q 1 z q 0 = y
        unfold u2
        rw [if_pos rfl, if_neg (by decide), if_pos rfl, if_pos rfl]
      · exact u2_eq)) cw_X8_278 st_X4_sealOf dX8_seal_54 (by first | decide | exact Nat.le_of_ble_eq_true rfl) (by decide) (by decide) (by decide) (by decide) (kI fun r5 μ5 hp5 => ?_) kN
          obtain ⟨rfl, rfl⟩ := hp5
          refine h_iret C E dX8_seal_57 (by decide) (by decide) ?_
          exact ⟨_, rfl, ((if_pos h1).trans ((if_pos h2).trans ((if_pos h3).trans (if_pos h4)))), CTo.float (W := fun k9 => k9 = 11 + 32 * 40) hC ((f1.tr f2).tr f3) (fun k9 e9 => Or.inl (by rw [e9])) (fun k9 e9 => by rw [e9]; decide), rfl⟩
        · exact hx_out C E NT (by decide) (by decide) ⟨hx9.2.1, hx9.1, ((if_pos h1).trans ((if_pos h2).trans ((if_pos h3).trans (if_neg hx9.2.2))))⟩
      · exact hx_out C E NT (by decide) (by decide) ⟨hx9.2.1, hx9.1, ((if_pos h1).trans ((if_pos h2).trans (if_neg hx9.2.2)))⟩
    · exact hx_out C E NT (by decide) (by decide) ⟨hx9.2.1, hx9.1, ((if_pos h1).trans (if_neg hx9.2.2))⟩
  · exact hx_out C E NT (by decide) (by decide) ⟨hx9.2.1, hx9.1, (if_neg hx9.2.2)⟩

theorem i32_ne {x : Int32} (h : ¬ x = 0) : x.toInt ≠ 0 := fun c => h (Int32.toInt_inj.mp c)
theorem vf32_i (a b : Int32) (h : ¬ b = 0) : vf_n32 (FP.fdiv (FP.i2f a) (FP.i2f b)) := by
  have h1 := Jvm.FP.Core.i2f_mag a
  have h2 := Jvm.FP.Core.i2f_big (v := b) (i32_ne h)
  have h3 := Jvm.FP.Core.fdiv_mag (K := 160) (L := 127) h1 h2.1 h2.2 (by decide) (by decide)
  show (FP.fdiv (FP.i2f a) (FP.i2f b)) &&& 0x7fffffff ≤ 0x7f800000
  rw [UInt32.le_iff_toNat_le, UInt32.toNat_and, show (0x7fffffff : UInt32).toNat = 2 ^ 31 - 1 from rfl, Nat.and_two_pow_sub_one_eq_mod, show (0x7f800000 : UInt32).toNat = 2139095040 from rfl]
  have h4 : (FP.fdiv (FP.i2f a) (FP.i2f b)).toNat % 2 ^ 31 < (160 + (149 - 23 - 1) - 127 + 3) * 2 ^ 23 := h3
  omega
theorem vf64_i (a : Int64) (b : Int32) (h : ¬ b = 0) : vf_n64 (FP.ddiv (FP.l2d a) (FP.i2d b)) := by
  have h1 := Jvm.FP.Core.l2d_mag a
  have h2 := Jvm.FP.Core.i2d_big (v := b) (i32_ne h)
  have h3 := Jvm.FP.Core.ddiv_mag (K := 1088) (L := 1023) h1 h2.1 h2.2 (by decide) (by decide)
  show (FP.ddiv (FP.l2d a) (FP.i2d b)) &&& 0x7fffffffffffffff ≤ 0x7ff0000000000000
  rw [UInt64.le_iff_toNat_le, UInt64.toNat_and, show (0x7fffffffffffffff : UInt64).toNat = 2 ^ 63 - 1 from rfl, Nat.and_two_pow_sub_one_eq_mod, show (0x7ff0000000000000 : UInt64).toNat = 9218868437227405312 from rfl]
  have h4 : (FP.ddiv (FP.l2d a) (FP.i2d b)).toNat % 2 ^ 63 < (1088 + (1074 - 52 - 1) - 1023 + 3) * 2 ^ 52 := h3
  omega
def SHR (S : Sx) : UInt32 := if S.sc 2 = 0 then 0 else FP.fdiv (FP.i2f (S.cd (cl (1 - (-7))))) (FP.i2f (S.sc 2))
theorem dropC1 : dropC 1 = 0 := if_pos ⟨by decide, by decide⟩
set_option maxRecDepth 100000 in
set_option maxHeartbeats 4000000 in
theorem k_X8_share (l : Launch) (G : Gx) (P : Nat → Nat) (S : Sx) (μ : Mem) (hC : CRep G P S μ) : Kon l yX8_share cX8_share 1 (some .float) 8 1 6 125 G [.ref (P 0)] μ (pF fun v μ' => μ = μ' ∧ v = SHR S) noX := by
  refine Kon.ofG (by decide +kernel) (Nat.le_of_ble_eq_true rfl) (Nat.le_of_ble_eq_true rfl) (fun Z hZG C E NT MT => ?_)
  subst hZG
  have C : Cx Z RX8 cX8_share 8 1 6 125 := C
  show HW Z 0 0 0 [some (.ref (P 0))] [] μ
  refine h_al_g C dX8_share_0 rfl rfl rfv_r ?_
  refine gf_X8_33 C dX8_share_1 (CRep.kX hC) (CRep.f261 hC) ?_
  refine h_if_ne (tgt := 9) C dX8_share_4 (by decide) (fun c0 => ?_) (fun c0 => ?_)
  · refine h_al_g C dX8_share_9 rfl rfl rfv_r ?_
    refine h_iconst (v := 1) C dX8_share_10 (by decide) ?_
    refine h_callV1 (ci := 8) C (k_X8_drops Z.l Z.G P S _ hC 1) cw_X8_282 im_X8_drops sl_X8_drops rfl (by decide) (CRep.kX hC) dX8_share_11 (by first | decide | exact Nat.le_of_ble_eq_true rfl) (by decide) (by decide) (by decide) (by decide) (kI fun r1 μ1 hp1 => ?_) (fun X9 μ9 hx9 => ?_)
    · obtain ⟨_, rfl, rfl⟩ := hp1
      refine h_i2f C dX8_share_14 ?_
      refine h_al_g C dX8_share_15 rfl rfl rfv_r ?_
      refine gf_X8_33 C dX8_share_16 (CRep.kX hC) (CRep.f261 hC) ?_
      refine h_i2f C dX8_share_19 ?_
      refine h_fdiv C dX8_share_20 (vf32_i _ _ c0) ?_
      refine h_fret C E dX8_share_21 (by decide) (by decide) ?_
      exact ⟨_, rfl, rfl, (if_neg c0).symm⟩
    · exact absurd (dropC1.symm.trans hx9.2.2) (by decide)
  · refine h_fconst0 C dX8_share_7 ?_
    refine h_fret C E dX8_share_8 (by decide) (by decide) ?_
    exact ⟨_, rfl, rfl, (if_pos c0).symm⟩

end
