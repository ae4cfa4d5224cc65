section
theorem SHR_n (S : Sx) : vf_n32 (SHR S) := by
  unfold SHR
  split
  · unfold vf_n32; decide
  · rename_i h; exact vf32_i _ _ h
theorem MEA_n (S : Sx) : vf_n64 (MEA S) := by
  unfold MEA
  split
  · unfold vf_n64; decide
  · rename_i h; exact vf64_i _ _ h
theorem nn_32 (x : UInt32) : vf_n32 x ↔ ¬ 2139095040 < x.toNat % 2 ^ 31 := by
  show x &&& 0x7fffffff ≤ 0x7f800000 ↔ _
  rw [UInt32.le_iff_toNat_le, UInt32.toNat_and, show (0x7fffffff : UInt32).toNat = 2 ^ 31 - 1 from rfl, Nat.and_two_pow_sub_one_eq_mod, show (0x7f800000 : UInt32).toNat = 2139095040 from rfl, Nat.not_lt]
theorem nn_64 (x : UInt64) : vf_n64 x ↔ ¬ 9218868437227405312 < x.toNat % 2 ^ 63 := by
  show x &&& 0x7fffffffffffffff ≤ 0x7ff0000000000000 ↔ _
  rw [UInt64.le_iff_toNat_le, UInt64.toNat_and, show (0x7fffffffffffffff : UInt64).toNat = 2 ^ 63 - 1 from rfl, Nat.and_two_pow_sub_one_eq_mod, show (0x7ff0000000000000 : UInt64).toNat = 9218868437227405312 from rfl, Nat.not_lt]
theorem f2d_n {x : UInt32} (h : vf_n32 x) : vf_n64 (FP.f2d x) := by
  refine (nn_64 _).mpr (fun q => (nn_32 x).mp h ?_)
  have q1 := (Jvm.FP.Core.isNaN_bits (FP.f2d x)).mpr q
  rw [show Jvm.FP.Core.dIsNaN (FP.f2d x) = Jvm.FP.Core.fIsNaN x from Jvm.FP.f2d_nan x] at q1
  exact (Jvm.FP.Core.isNaN_bits32 x).mp q1
theorem dc_self {x : UInt64} (h : vf_n64 x) (o : CmpOp) : Op.cmpValue (FP.dcmp x x) o = 0 := by
  have q : Jvm.FP.Core.dcmp x x = some .eq := Jvm.FP.Core.dcmp_self (fun e => (nn_64 x).mp h ((Jvm.FP.Core.isNaN_bits x).mp ((Jvm.FP.Core.dIsNaN_iff x).mpr e)))
  rw [show FP.dcmp x x = some .eq from q]
  rfl
set_option maxRecDepth 100000 in
set_option maxHeartbeats 1000000 in
theorem bl_L_now {Z : Zx} {P Q : Nat → Nat} {o sc L i : Nat} {xs : Row} {S : Sx} {t : Int32} {μ : Mem} {k n : Nat} (C : Cx Z RL cL_law 15 601024 7293034 610) (NN : NcZ Z) (SZ : ScZ Z sc L xs) (hk : k + 64 ≤ 601024) (hn : n + 12000 ≤ 7293034) (hL : L ≤ 2560) (hi : i + 4 < L) (hC : CRep Z.G P S μ) (hM : MRq Q S (LXo S t) μ) (hO : OS o μ) (hA : okA S) (kk : ∀ S' t' m, Sstep S S' → CRep Z.G P S' m → MRq Q S' (LXo S' t') m → OS o m → ∀ z5 z6 z7 z8 : Option Value, HW Z (k + 64) (n + 12000) 2529 [some (.ref sc), some (.ref (P 0)), some (.ref (Q 0)), some (.ref o), some (.int (nI i)), z5, z6, z7, z8] [] m) : ∀ z5 z6 z7 z8 : Option Value, HW Z k n 1194 [some (.ref sc), some (.ref (P 0)), some (.ref (Q 0)), some (.ref o), some (.int (nI i)), z5, z6, z7, z8] [] μ := by
  intro z5 z6 z7 z8
  refine h_al_g C dL_law_1194 rfl rfl rfv_r ?_
  refine h_callV0 (ci := 8) (a_ := .null) C (k_X8_now Z.l Z.G P S _ hC) cw_L_175 im_X8_now sl_X8_now rfl (by decide) (CRep.kX hC) dL_law_1195 (by first | decide | exact Nat.le_of_ble_eq_true rfl) (by decide) (by decide) (by omega) (by omega) (kI fun r1 μ1 hp1 => ?_) kN
  obtain ⟨rfl, rfl⟩ := hp1
  refine h_al_g C dL_law_1198 rfl rfl rfv_r ?_
  refine h_callV0 (ci := 9) (a_ := .null) C (k_X9_now Z.l Z.G (Q 0) _ hM.kX) cw_L_178 im_X9_now sl_X9_now rfl (by decide) hM.kX dL_law_1199 (by first | decide | exact Nat.le_of_ble_eq_true rfl) (by decide) (by decide) (by omega) (by omega) (kI fun r2 μ2 hp2 => ?_) kN
  obtain ⟨rfl, rfl⟩ := hp2
  refine h_icmp_eq (tgt := 2529) C dL_law_1202 (by decide) (fun c1 => ?_) (fun c1 => absurd (hM.f288.symm) c1)
  exact h_widen (by omega) (by omega) (kk S t _ (Or.inl rfl) hC hM hO _ _ _ _)

set_option maxRecDepth 100000 in
set_option maxHeartbeats 1000000 in
theorem bl_L_letters {Z : Zx} {P Q : Nat → Nat} {o sc L i : Nat} {xs : Row} {S : Sx} {t : Int32} {μ : Mem} {k n : Nat} (C : Cx Z RL cL_law 15 601024 7293034 610) (NN : NcZ Z) (SZ : ScZ Z sc L xs) (hk : k + 64 ≤ 601024) (hn : n + 12000 ≤ 7293034) (hL : L ≤ 2560) (hi : i + 4 < L) (hC : CRep Z.G P S μ) (hM : MRq Q S (LXo S t) μ) (hO : OS o μ) (hA : okA S) (kk : ∀ S' t' m, Sstep S S' → CRep Z.G P S' m → MRq Q S' (LXo S' t') m → OS o m → ∀ z5 z6 z7 z8 : Option Value, HW Z (k + 64) (n + 12000) 2529 [some (.ref sc), some (.ref (P 0)), some (.ref (Q 0)), some (.ref o), some (.int (nI i)), z5, z6, z7, z8] [] m) : ∀ z5 z6 z7 z8 : Option Value, HW Z k n 1207 [some (.ref sc), some (.ref (P 0)), some (.ref (Q 0)), some (.ref o), some (.int (nI i)), z5, z6, z7, z8] [] μ := by
  intro z5 z6 z7 z8
  refine h_al_g C dL_law_1207 rfl rfl rfv_r ?_
  refine h_callV0 (ci := 8) (a_ := .null) C (k_X8_letters Z.l Z.G P S _ hC) cw_L_179 im_X8_letters sl_X8_letters rfl (by decide) (CRep.kX hC) dL_law_1208 (by first | decide | exact Nat.le_of_ble_eq_true rfl) (by decide) (by decide) (by omega) (by omega) (kI fun r1 μ1 hp1 => ?_) kN
  obtain ⟨rfl, rfl⟩ := hp1
  refine h_al_g C dL_law_1211 rfl rfl rfv_r ?_
  refine h_callV0 (ci := 9) (a_ := .null) C (k_X9_letters Z.l Z.G (Q 0) _ hM.kX) cw_L_182 im_X9_letters sl_X9_letters rfl (by decide) hM.kX dL_law_1212 (by first | decide | exact Nat.le_of_ble_eq_true rfl) (by decide) (by decide) (by omega) (by omega) (kI fun r2 μ2 hp2 => ?_) kN
  obtain ⟨rfl, rfl⟩ := hp2
  refine h_icmp_eq (tgt := 2529) C dL_law_1215 (by decide) (fun c1 => ?_) (fun c1 => absurd (hM.f312.symm) c1)
  exact h_widen (by omega) (by omega) (kk S t _ (Or.inl rfl) hC hM hO _ _ _ _)

set_option maxRecDepth 100000 in
set_option maxHeartbeats 1000000 in
theorem bl_L_isSound {Z : Zx} {P Q : Nat → Nat} {o sc L i : Nat} {xs : Row} {S : Sx} {t : Int32} {μ : Mem} {k n : Nat} (C : Cx Z RL cL_law 15 601024 7293034 610) (NN : NcZ Z) (SZ : ScZ Z sc L xs) (hk : k + 64 ≤ 601024) (hn : n + 12000 ≤ 7293034) (hL : L ≤ 2560) (hi : i + 4 < L) (hC : CRep Z.G P S μ) (hM : MRq Q S (LXo S t) μ) (hO : OS o μ) (hA : okA S) (kk : ∀ S' t' m, Sstep S S' → CRep Z.G P S' m → MRq Q S' (LXo S' t') m → OS o m → ∀ z5 z6 z7 z8 : Option Value, HW Z (k + 64) (n + 12000) 2529 [some (.ref sc), some (.ref (P 0)), some (.ref (Q 0)), some (.ref o), some (.int (nI i)), z5, z6, z7, z8] [] m) : ∀ z5 z6 z7 z8 : Option Value, HW Z k n 2502 [some (.ref sc), some (.ref (P 0)), some (.ref (Q 0)), some (.ref o), some (.int (nI i)), z5, z6, z7, z8] [] μ := by
  intro z5 z6 z7 z8
  refine h_al_g C dL_law_2502 rfl rfl rfv_r ?_
  refine h_callV0 (ci := 8) (a_ := .null) C (k_X8_isSound Z.l Z.G P S _ hC hA.2.2.2.2.2.2.2.2.2) cw_L_245 im_X8_isSound sl_X8_isSound rfl (by decide) (CRep.kX hC) dL_law_2503 (by first | decide | exact Nat.le_of_ble_eq_true rfl) (by decide) (by decide) (by omega) (by omega) (kI fun r1 μ1 hp1 => ?_) kN
  obtain ⟨rfl, rfl⟩ := hp1
  refine h_al_g C dL_law_2506 rfl rfl rfv_r ?_
  refine h_callV0 (ci := 9) (a_ := .null) C (k_X9_isSound Z.l Z.G Q S _ _ hM) cw_L_249 im_X9_isSound sl_X9_isSound rfl (by decide) hM.kX dL_law_2507 (by first | decide | exact Nat.le_of_ble_eq_true rfl) (by decide) (by decide) (by omega) (by omega) (kI fun r2 μ2 hp2 => ?_) kN
  obtain ⟨rfl, rfl⟩ := hp2
  refine h_icmp_eq (tgt := 2529) C dL_law_2510 (by decide) (fun c1 => ?_) (fun c1 => absurd (rfl) c1)
  exact h_widen (by omega) (by omega) (kk S t _ (Or.inl rfl) hC hM hO _ _ _ _)

set_option maxRecDepth 100000 in
set_option maxHeartbeats 1000000 in
theorem bl_L_checksum {Z : Zx} {P Q : Nat → Nat} {o sc L i : Nat} {xs : Row} {S : Sx} {t : Int32} {μ : Mem} {k n : Nat} (C : Cx Z RL cL_law 15 601024 7293034 610) (NN : NcZ Z) (SZ : ScZ Z sc L xs) (hk : k + 64 ≤ 601024) (hn : n + 12000 ≤ 7293034) (hL : L ≤ 2560) (hi : i + 4 < L) (hC : CRep Z.G P S μ) (hM : MRq Q S (LXo S t) μ) (hO : OS o μ) (hA : okA S) (kk : ∀ S' t' m, Sstep S S' → CRep Z.G P S' m → MRq Q S' (LXo S' t') m → OS o m → ∀ z5 z6 z7 z8 : Option Value, HW Z (k + 64) (n + 12000) 2529 [some (.ref sc), some (.ref (P 0)), some (.ref (Q 0)), some (.ref o), some (.int (nI i)), z5, z6, z7, z8] [] m) : ∀ z5 z6 z7 z8 : Option Value, HW Z k n 2515 [some (.ref sc), some (.ref (P 0)), some (.ref (Q 0)), some (.ref o), some (.int (nI i)), z5, z6, z7, z8] [] μ := by
  intro z5 z6 z7 z8
  refine h_al_g C dL_law_2515 rfl rfl rfv_r ?_
  refine h_callV0 (ci := 8) (a_ := .null) C (k_X8_checksum Z.l Z.G P S _ hC) cw_L_250 im_X8_checksum sl_X8_checksum rfl (by decide) (CRep.kX hC) dL_law_2516 (by first | decide | exact Nat.le_of_ble_eq_true rfl) (by decide) (by decide) (by omega) (by omega) (kL fun r1 μ1 hp1 => ?_) kN
  obtain ⟨rfl, rfl⟩ := hp1
  refine h_al_g C dL_law_2519 rfl rfl rfv_r ?_
  refine h_callV0 (ci := 9) (a_ := .null) C (k_X9_checksum Z.l Z.G Q S _ _ hM) cw_L_254 im_X9_checksum sl_X9_checksum rfl (by decide) hM.kX dL_law_2520 (by first | decide | exact Nat.le_of_ble_eq_true rfl) (by decide) (by decide) (by omega) (by omega) (kL fun r2 μ2 hp2 => ?_) kN
  obtain ⟨rfl, hT⟩ := hp2
  refine h_lcmp C dL_law_2523 ?_
  refine h_if_eq (tgt := 2529) C dL_law_2524 (by decide) (fun c1 => ?_) (fun c1 => absurd (((lg_cmp_eq _ _).mpr rfl)) c1)
  exact h_widen (by omega) (by omega) (kk S t _ (Or.inl rfl) (hC.othM hT.2.1) hT.1 (hO.frM hT.2.1) _ _ _ _)

set_option maxRecDepth 100000 in
set_option maxHeartbeats 1000000 in
theorem bl_L_share {Z : Zx} {P Q : Nat → Nat} {o sc L i : Nat} {xs : Row} {S : Sx} {t : Int32} {μ : Mem} {k n : Nat} (C : Cx Z RL cL_law 15 601024 7293034 610) (NN : NcZ Z) (SZ : ScZ Z sc L xs) (hk : k + 64 ≤ 601024) (hn : n + 12000 ≤ 7293034) (hL : L ≤ 2560) (hi : i + 4 < L) (hC : CRep Z.G P S μ) (hM : MRq Q S (LXo S t) μ) (hO : OS o μ) (hA : okA S) (kk : ∀ S' t' m, Sstep S S' → CRep Z.G P S' m → MRq Q S' (LXo S' t') m → OS o m → ∀ z5 z6 z7 z8 : Option Value, HW Z (k + 64) (n + 12000) 2529 [some (.ref sc), some (.ref (P 0)), some (.ref (Q 0)), some (.ref o), some (.int (nI i)), z5, z6, z7, z8] [] m) : ∀ z5 z6 z7 z8 : Option Value, HW Z k n 2418 [some (.ref sc), some (.ref (P 0)), some (.ref (Q 0)), some (.ref o), some (.int (nI i)), z5, z6, z7, z8] [] μ := by
  intro z5 z6 z7 z8
  refine h_al_g C dL_law_2418 rfl rfl rfv_r ?_
  refine h_callV0 (ci := 8) (a_ := .null) C (k_X8_share Z.l Z.G P S _ hC) cw_L_235 im_X8_share sl_X8_share rfl (by decide) (CRep.kX hC) dL_law_2419 (by first | decide | exact Nat.le_of_ble_eq_true rfl) (by decide) (by decide) (by omega) (by omega) (kF fun r1 μ1 hp1 => ?_) kN
  obtain ⟨rfl, rfl⟩ := hp1
  refine h_f2d C dL_law_2422 (f2d_n (SHR_n S)) ?_
  refine h_dst_5 C dL_law_2423 ct_i ?_
  refine h_al_g C dL_law_2425 rfl rfl rfv_r ?_
  refine h_callV0 (ci := 9) (a_ := .null) C (k_X9_share Z.l Z.G Q S _ _ hM) cw_L_239 im_X9_share sl_X9_share rfl (by decide) hM.kX dL_law_2426 (by first | decide | exact Nat.le_of_ble_eq_true rfl) (by decide) (by decide) (by omega) (by omega) (kF fun r2 μ2 hp2 => ?_) kN
  obtain ⟨rfl, rfl⟩ := hp2
  refine h_f2d C dL_law_2429 (f2d_n (SHR_n S)) ?_
  refine h_dst_7 C dL_law_2430 ct_n ?_
  refine h_dload_w C dL_law_2432 rfl ?_
  refine h_dload_w C dL_law_2434 rfl ?_
  refine h_dcmp C dL_law_2436 ?_
  refine h_if_eq (tgt := 2458) C dL_law_2437 (by decide) (fun c1 => ?_) (fun c1 => absurd ((dc_self (f2d_n (SHR_n S)) _)) c1)
  refine h_goto (tgt := 2529) C dL_law_2458 (by decide) ?_
  exact h_widen (by omega) (by omega) (kk S t _ (Or.inl rfl) hC hM hO _ _ _ _)

set_option maxRecDepth 100000 in
set_option maxHeartbeats 1000000 in
theorem bl_L_meanAge {Z : Zx} {P Q : Nat → Nat} {o sc L i : Nat} {xs : Row} {S : Sx} {t : Int32} {μ : Mem} {k n : Nat} (C : Cx Z RL cL_law 15 601024 7293034 610) (NN : NcZ Z) (SZ : ScZ Z sc L xs) (hk : k + 64 ≤ 601024) (hn : n + 12000 ≤ 7293034) (hL : L ≤ 2560) (hi : i + 4 < L) (hC : CRep Z.G P S μ) (hM : MRq Q S (LXo S t) μ) (hO : OS o μ) (hA : okA S) (kk : ∀ S' t' m, Sstep S S' → CRep Z.G P S' m → MRq Q S' (LXo S' t') m → OS o m → ∀ z5 z6 z7 z8 : Option Value, HW Z (k + 64) (n + 12000) 2529 [some (.ref sc), some (.ref (P 0)), some (.ref (Q 0)), some (.ref o), some (.int (nI i)), z5, z6, z7, z8] [] m) : ∀ z5 z6 z7 z8 : Option Value, HW Z k n 2461 [some (.ref sc), some (.ref (P 0)), some (.ref (Q 0)), some (.ref o), some (.int (nI i)), z5, z6, z7, z8] [] μ := by
  intro z5 z6 z7 z8
  refine h_al_g C dL_law_2461 rfl rfl rfv_r ?_
  refine h_callV0 (ci := 8) (a_ := .null) C (k_X8_meanAge Z.l Z.G P S _ hC) cw_L_240 im_X8_meanAge sl_X8_meanAge rfl (by decide) (CRep.kX hC) dL_law_2462 (by first | decide | exact Nat.le_of_ble_eq_true rfl) (by decide) (by decide) (by omega) (by omega) (kD fun r1 μ1 hp1 => ?_) kN
  obtain ⟨rfl, rfl⟩ := hp1
  refine h_dst_5 C dL_law_2465 ct_i ?_
  refine h_al_g C dL_law_2467 rfl rfl rfv_r ?_
  refine h_callV0 (ci := 9) (a_ := .null) C (k_X9_meanAge Z.l Z.G Q S _ _ hM hA.2.2.1) cw_L_244 im_X9_meanAge sl_X9_meanAge rfl (by decide) hM.kX dL_law_2468 (by first | decide | exact Nat.le_of_ble_eq_true rfl) (by decide) (by decide) (by omega) (by omega) (kD fun r2 μ2 hp2 => ?_) kN
  obtain ⟨rfl, rfl⟩ := hp2
  refine h_dst_7 C dL_law_2471 ct_n ?_
  refine h_dload_w C dL_law_2473 rfl ?_
  refine h_dload_w C dL_law_2475 rfl ?_
  refine h_dcmp C dL_law_2477 ?_
  refine h_if_eq (tgt := 2499) C dL_law_2478 (by decide) (fun c1 => ?_) (fun c1 => absurd ((dc_self (MEA_n S) _)) c1)
  refine h_goto (tgt := 2529) C dL_law_2499 (by decide) ?_
  exact h_widen (by omega) (by omega) (kk S t _ (Or.inl rfl) hC hM hO _ _ _ _)

end
