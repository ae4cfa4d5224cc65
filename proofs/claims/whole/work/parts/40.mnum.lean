section
theorem btw_i {x : Int32} {a b : Int64} : (a ≤ x.toInt64 ∧ x.toInt64 ≤ b) ↔ (a.toInt ≤ x.toInt ∧ x.toInt ≤ b.toInt) := by rw [Int64.le_iff_toInt_le, Int64.le_iff_toInt_le, Int32.toInt_toInt64]
set_option maxRecDepth 100000 in
set_option maxHeartbeats 1000000 in
theorem k_X9_isBetween (l : Launch) (G : Gx) (x a b : Int64) (μ : Mem) : Kon l yX9_isBetween cX9_isBetween 6 (some .boolean) 0 0 0 0 G [.long x, .long a, .long b] μ (pB (fun μ' => μ = μ' ∧ a ≤ x ∧ x ≤ b) (fun μ' => μ = μ' ∧ ¬ (a ≤ x ∧ x ≤ b))) noX := by
  refine Kon.ofG (by decide +kernel) (Nat.le_of_ble_eq_true rfl) (Nat.le_of_ble_eq_true rfl) (fun Z hZG C E NT MT => ?_)
  subst hZG
  have C : Cx Z RX9 cX9_isBetween 0 0 0 0 := C
  show HW Z 0 0 0 [some (.long x), none, some (.long a), none, some (.long b), none] [] μ
  refine h_lload_g C dX9_isBetween_0 rfl rfl ?_
  refine h_lload_g C dX9_isBetween_1 rfl rfl ?_
  refine h_lcmp C dX9_isBetween_2 ?_
  refine h_if_lt (tgt := 17) C dX9_isBetween_3 (by decide) (fun c1 => ?_) (fun c1 => ?_)
  · refine h_iconst (v := 0) C dX9_isBetween_17 (by decide) ?_
    refine h_zret C E dX9_isBetween_18 (by decide) (by decide) (by first | exact Or.inl rfl | exact Or.inr rfl) ?_
    exact Or.inr ⟨rfl, rfl, fun h => absurd ((lg_cmp_ge _ _).mpr h.1) (Int32.not_le.mpr c1)⟩
  · refine h_lload_g C dX9_isBetween_6 rfl rfl ?_
    refine h_lload_w C dX9_isBetween_7 rfl ?_
    refine h_lcmp C dX9_isBetween_9 ?_
    refine h_if_gt (tgt := 17) C dX9_isBetween_10 (by decide) (fun c2 => ?_) (fun c2 => ?_)
    · refine h_iconst (v := 0) C dX9_isBetween_17 (by decide) ?_
      refine h_zret C E dX9_isBetween_18 (by decide) (by decide) (by first | exact Or.inl rfl | exact Or.inr rfl) ?_
      exact Or.inr ⟨rfl, rfl, fun h => absurd ((lg_cmp_le _ _).mpr h.2) (Int32.not_le.mpr c2)⟩
    · refine h_iconst (v := 1) C dX9_isBetween_13 (by decide) ?_
      refine h_goto (tgt := 18) C dX9_isBetween_14 (by decide) ?_
      refine h_zret C E dX9_isBetween_18 (by decide) (by decide) (by first | exact Or.inl rfl | exact Or.inr rfl) ?_
      exact Or.inl ⟨rfl, rfl, (lg_cmp_ge _ _).mp (Int32.not_lt.mp c1), (lg_cmp_le _ _).mp (Int32.not_lt.mp c2)⟩

theorem isE_64 {x : Int32} : ((0 : Int64).toInt ≤ x.toInt ∧ x.toInt ≤ (2 : Int64).toInt) ↔ isE x := by
  have h0 : (0 : Int64).toInt = 0 := by decide
  have h2 : (2 : Int64).toInt = 2 := by decide
  rw [h0, h2]
  constructor
  · intro h; exact ⟨h.1, by omega⟩
  · intro h; exact ⟨h.1, by have := h.2; omega⟩
set_option maxRecDepth 100000 in
set_option maxHeartbeats 1000000 in
theorem k_X9_isEnd (l : Launch) (G : Gx) (x : Int32) (μ : Mem) : Kon l yX9_isEnd cX9_isEnd 1 (some .boolean) 1 0 0 25 G [.int x] μ (pB (fun μ' => μ = μ' ∧ isE x) (fun μ' => μ = μ' ∧ ¬ isE x)) noX := by
  refine Kon.ofG (by decide +kernel) (Nat.le_of_ble_eq_true rfl) (Nat.le_of_ble_eq_true rfl) (fun Z hZG C E NT MT => ?_)
  subst hZG
  have C : Cx Z RX9 cX9_isEnd 1 0 0 25 := C
  show HW Z 0 0 0 [some (.int x)] [] μ
  refine h_iload_g C dX9_isEnd_0 rfl rfl ?_
  refine h_i2l C dX9_isEnd_1 ?_
  refine h_lconst (v := 0) C dX9_isEnd_2 (by decide) ?_
  refine h_ldc2 C kc_X9_89 dX9_isEnd_3 ?_
  refine h_callS3 C (k_X9_isBetween Z.l Z.G _ _ _ _) cw_X9_91 st_X9_isBetween dX9_isEnd_6 (by first | decide | exact Nat.le_of_ble_eq_true rfl) (by decide) (by decide) (by decide) (by decide) (kB (fun μ1 hp1 => ?_) (fun μ1 hp1 => ?_)) kN
  · obtain ⟨rfl, hBt⟩ := hp1
    rw [btw_i] at hBt
    refine h_zret C E dX9_isEnd_9 (by decide) (by decide) (by first | exact Or.inl rfl | exact Or.inr rfl) ?_
    exact Or.inl ⟨rfl, rfl, isE_64.mp hBt⟩
  · obtain ⟨rfl, hBt⟩ := hp1
    rw [btw_i] at hBt
    refine h_zret C E dX9_isEnd_9 (by decide) (by decide) (by first | exact Or.inl rfl | exact Or.inr rfl) ?_
    exact Or.inr ⟨rfl, rfl, fun h => hBt (isE_64.mpr h)⟩

set_option maxRecDepth 100000 in
set_option maxHeartbeats 1000000 in
theorem k_X9_pair (l : Launch) (G : Gx) (x y : Int32) (μ : Mem) : Kon l yX9_pair cX9_pair 2 (some .int) 2 0 0 45 G [.int x, .int y] μ (pI fun v μ' => μ = μ' ∧ v = pairC x y) noX := by
  refine Kon.ofG (by decide +kernel) (Nat.le_of_ble_eq_true rfl) (Nat.le_of_ble_eq_true rfl) (fun Z hZG C E NT MT => ?_)
  subst hZG
  have C : Cx Z RX9 cX9_pair 2 0 0 45 := C
  show HW Z 0 0 0 [some (.int x), some (.int y)] [] μ
  refine h_iload_g C dX9_pair_0 rfl rfl ?_
  refine h_callS1 C (k_X9_isEnd Z.l Z.G _ _) cw_X9_98 st_X9_isEnd dX9_pair_1 (by first | decide | exact Nat.le_of_ble_eq_true rfl) (by decide) (by decide) (by decide) (by decide) (kB (fun μ1 hp1 => ?_) (fun μ1 hp1 => ?_)) kN
  · obtain ⟨rfl, hx⟩ := hp1
    refine h_if_eq (tgt := 14) C dX9_pair_4 (by decide) (fun c1 => absurd c1 (by decide)) (fun c1 => ?_)
    refine h_iload_g C dX9_pair_7 rfl rfl ?_
    refine h_callS1 C (k_X9_isEnd Z.l Z.G _ _) cw_X9_98 st_X9_isEnd dX9_pair_8 (by first | decide | exact Nat.le_of_ble_eq_true rfl) (by decide) (by decide) (by decide) (by decide) (kB (fun μ2 hp2 => ?_) (fun μ2 hp2 => ?_)) kN
    · obtain ⟨rfl, hy⟩ := hp2
      refine h_if_ne (tgt := 18) C dX9_pair_11 (by decide) (fun c2 => ?_) (fun c2 => absurd c2 (by decide))
      refine h_iload_g C dX9_pair_18 rfl rfl ?_
      refine h_iload_g C dX9_pair_19 rfl rfl ?_
      refine h_icmp_ne (tgt := 27) C dX9_pair_20 (by decide) (fun c1 => ?_) (fun c1 => ?_)
      · refine h_iconst (v := 0) C dX9_pair_27 (by decide) ?_
        refine h_iret C E dX9_pair_28 (by decide) (by decide) ?_
        exact ⟨_, rfl, rfl, (pairC_ok hx hy c1).symm⟩
      · refine h_iconst (v := 2) C dX9_pair_23 (by decide) ?_
        refine h_goto (tgt := 28) C dX9_pair_24 (by decide) ?_
        refine h_iret C E dX9_pair_28 (by decide) (by decide) ?_
        exact ⟨_, rfl, rfl, (pairC_2 hx hy c1).symm⟩
    · obtain ⟨rfl, hy⟩ := hp2
      refine h_if_ne (tgt := 18) C dX9_pair_11 (by decide) (fun c4 => absurd c4 (by decide)) (fun c4 => ?_)
      refine h_iconst (v := 1) C dX9_pair_14 (by decide) ?_
      refine h_goto (tgt := 28) C dX9_pair_15 (by decide) ?_
      refine h_iret C E dX9_pair_28 (by decide) (by decide) ?_
      exact ⟨_, rfl, rfl, (pairC_1 fun h => hy h.2).symm⟩
  · obtain ⟨rfl, hx⟩ := hp1
    refine h_if_eq (tgt := 14) C dX9_pair_4 (by decide) (fun c5 => ?_) (fun c5 => absurd (by decide) c5)
    refine h_iconst (v := 1) C dX9_pair_14 (by decide) ?_
    refine h_goto (tgt := 28) C dX9_pair_15 (by decide) ?_
    refine h_iret C E dX9_pair_28 (by decide) (by decide) ?_
    exact ⟨_, rfl, rfl, (pairC_1 fun h => hx h.1).symm⟩

set_option maxRecDepth 100000 in
set_option maxHeartbeats 1000000 in
theorem k_X9_secretOf (l : Launch) (G : Gx) (x : Int32) (μ : Mem) : Kon l yX9_secretOf cX9_secretOf 1 (some .int) 0 0 0 0 G [.int x] μ (pI fun v μ' => μ = μ' ∧ v = 211 + 307 * x) noX := by
  refine Kon.ofG (by decide +kernel) (Nat.le_of_ble_eq_true rfl) (Nat.le_of_ble_eq_true rfl) (fun Z hZG C E NT MT => ?_)
  subst hZG
  have C : Cx Z RX9 cX9_secretOf 0 0 0 0 := C
  show HW Z 0 0 0 [some (.int x)] [] μ
  refine h_sipush (v := 211) C dX9_secretOf_0 (by decide) ?_
  refine h_sipush (v := 307) C dX9_secretOf_3 (by decide) ?_
  refine h_iload_g C dX9_secretOf_6 rfl rfl ?_
  refine h_imul C dX9_secretOf_7 ?_
  refine h_iadd C dX9_secretOf_8 ?_
  refine h_iret C E dX9_secretOf_9 (by decide) (by decide) ?_
  exact ⟨_, rfl, rfl, rfl⟩

theorem tm9 (t : Int) : ∃ u : Int, t.tmod 65521 = u ∧ -65521 < u ∧ u < 65521 ∧ (u + 65521) % 65521 = t % 65521 := by
  by_cases h : 0 ≤ t
  · exact ⟨t % 65521, Int.tmod_eq_emod_of_nonneg h, by omega, by omega, by omega⟩
  · have h1 : t.tmod 65521 = -((-t) % 65521) := by rw [← Int.tmod_eq_emod_of_nonneg (show 0 ≤ -t by omega), Int.neg_tmod, Int.neg_neg]
    exact ⟨_, h1, by omega, by omega, by omega⟩
set_option maxRecDepth 100000 in
set_option maxHeartbeats 1000000 in
theorem k_X9_rest (l : Launch) (G : Gx) (x : Int64) (μ : Mem) : Kon l yX9_rest cX9_rest 2 (some .long) 0 0 0 0 G [.long x] μ (pL fun v μ' => μ = μ' ∧ v.toInt = x.toInt % 65521) noX := by
  have hne : ¬ (65521 : Int64) = 0 := by decide
  have t9 : (65521 : Int64).toInt = 65521 := by decide
  obtain ⟨u, hu, hu1, hu2, hu3⟩ := tm9 x.toInt
  have m1 : (x - x / 65521 * 65521).toInt = u := by rw [lrem_eq, Int64.toInt_mod, t9, hu]
  have m2 : ((x - x / 65521 * 65521) + 65521).toInt = u + 65521 := by
    rw [Int64.toInt_add, m1, t9]
    exact Int.bmod_eq_of_le (by omega) (by omega)
  refine Kon.ofG (by decide +kernel) (Nat.le_of_ble_eq_true rfl) (Nat.le_of_ble_eq_true rfl) (fun Z hZG C E NT MT => ?_)
  subst hZG
  have C : Cx Z RX9 cX9_rest 0 0 0 0 := C
  show HW Z 0 0 0 [some (.long x), none] [] μ
  refine h_lload_g C dX9_rest_0 rfl rfl ?_
  refine h_ldc2 C kc_X9_116 dX9_rest_1 ?_
  refine h_lrem C dX9_rest_4 hne ?_
  refine h_ldc2 C kc_X9_116 dX9_rest_5 ?_
  refine h_ladd C dX9_rest_8 ?_
  refine h_ldc2 C kc_X9_116 dX9_rest_9 ?_
  refine h_lrem C dX9_rest_12 hne ?_
  refine h_lret C E dX9_rest_13 (by decide) (by decide) ?_
  refine ⟨_, rfl, rfl, ?_⟩
  rw [lrem_eq, Int64.toInt_mod, m2, t9, Int.tmod_eq_emod_of_nonneg (by omega)]
  exact hu3

end
