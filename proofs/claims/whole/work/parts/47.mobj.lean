section
set_option maxRecDepth 100000 in
set_option maxHeartbeats 1000000 in
theorem k_X9_thrown (l : Launch) (G : Gx) (x9 : Nat) (μ : Mem) (hk : μ.kd x9 % 32 = 10) : Kon l yX9_thrown cX9_thrown 1 (some .int) 0 0 0 0 G [.ref x9] μ (pI fun v μ' => μ = μ' ∧ v = μ.fi 290 x9) noX := by
  refine Kon.ofG (by decide +kernel) (Nat.le_of_ble_eq_true rfl) (Nat.le_of_ble_eq_true rfl) (fun Z hZG C E NT MT => ?_)
  subst hZG
  have C : Cx Z RX9 cX9_thrown 0 0 0 0 := C
  show HW Z 0 0 0 [some (.ref x9)] [] μ
  refine h_al_g C dX9_thrown_0 rfl rfl rfv_r ?_
  refine gf_X9_86 C dX9_thrown_1 hk rfl ?_
  refine h_iret C E dX9_thrown_4 (by decide) (by decide) ?_
  exact ⟨_, rfl, rfl, rfl⟩

set_option maxRecDepth 100000 in
set_option maxHeartbeats 1000000 in
theorem k_X9_now (l : Launch) (G : Gx) (x9 : Nat) (μ : Mem) (hk : μ.kd x9 % 32 = 10) : Kon l yX9_now cX9_now 1 (some .int) 0 0 0 0 G [.ref x9] μ (pI fun v μ' => μ = μ' ∧ v = μ.fi 288 x9) noX := by
  refine Kon.ofG (by decide +kernel) (Nat.le_of_ble_eq_true rfl) (Nat.le_of_ble_eq_true rfl) (fun Z hZG C E NT MT => ?_)
  subst hZG
  have C : Cx Z RX9 cX9_now 0 0 0 0 := C
  show HW Z 0 0 0 [some (.ref x9)] [] μ
  refine h_al_g C dX9_now_0 rfl rfl rfv_r ?_
  refine gf_X9_129 C dX9_now_1 hk rfl ?_
  refine h_iret C E dX9_now_4 (by decide) (by decide) ?_
  exact ⟨_, rfl, rfl, rfl⟩

set_option maxRecDepth 100000 in
set_option maxHeartbeats 1000000 in
theorem k_X9_letters (l : Launch) (G : Gx) (x9 : Nat) (μ : Mem) (hk : μ.kd x9 % 32 = 10) : Kon l yX9_letters cX9_letters 1 (some .int) 0 0 0 0 G [.ref x9] μ (pI fun v μ' => μ = μ' ∧ v = μ.fi 312 x9) noX := by
  refine Kon.ofG (by decide +kernel) (Nat.le_of_ble_eq_true rfl) (Nat.le_of_ble_eq_true rfl) (fun Z hZG C E NT MT => ?_)
  subst hZG
  have C : Cx Z RX9 cX9_letters 0 0 0 0 := C
  show HW Z 0 0 0 [some (.ref x9)] [] μ
  refine h_al_g C dX9_letters_0 rfl rfl rfv_r ?_
  refine gf_X9_95 C dX9_letters_1 hk rfl ?_
  refine h_iret C E dX9_letters_4 (by decide) (by decide) ?_
  exact ⟨_, rfl, rfl, rfl⟩

set_option maxRecDepth 100000 in
set_option maxHeartbeats 1000000 in
theorem k_X9_isWrong (l : Launch) (G : Gx) (x9 : Nat) (μ : Mem) (hk : μ.kd x9 % 32 = 10) (c : Int32) : Kon l yX9_isWrong cX9_isWrong 2 (some .boolean) 0 0 0 0 G [.ref x9, .int c] μ (pB (fun μ' => ¬ c = 0 ∧ μ' = μ.sfi 290 x9 c) (fun μ' => c = 0 ∧ μ' = μ.sfi 290 x9 c)) noX := by
  refine Kon.ofG (by decide +kernel) (Nat.le_of_ble_eq_true rfl) (Nat.le_of_ble_eq_true rfl) (fun Z hZG C E NT MT => ?_)
  subst hZG
  have C : Cx Z RX9 cX9_isWrong 0 0 0 0 := C
  show HW Z 0 0 0 [some (.ref x9), some (.int c)] [] μ
  refine h_al_g C dX9_isWrong_0 rfl rfl rfv_r ?_
  refine h_iload_g C dX9_isWrong_1 rfl rfl ?_
  refine pf_X9_86 C dX9_isWrong_2 hk ?_
  refine h_iload_g C dX9_isWrong_5 rfl rfl ?_
  refine h_if_eq (tgt := 13) C dX9_isWrong_6 (by decide) (fun c1 => ?_) (fun c1 => ?_)
  · refine h_iconst (v := 0) C dX9_isWrong_13 (by decide) ?_
    refine h_zret C E dX9_isWrong_14 (by decide) (by decide) (by first | exact Or.inl rfl | exact Or.inr rfl) ?_
    exact Or.inr ⟨rfl, c1, rfl⟩
  · refine h_iconst (v := 1) C dX9_isWrong_9 (by decide) ?_
    refine h_goto (tgt := 14) C dX9_isWrong_10 (by decide) ?_
    refine h_zret C E dX9_isWrong_14 (by decide) (by decide) (by first | exact Or.inl rfl | exact Or.inr rfl) ?_
    exact Or.inl ⟨rfl, c1, rfl⟩

set_option maxRecDepth 100000 in
set_option maxHeartbeats 1000000 in
theorem k_X9_add (l : Launch) (G : Gx) (x9 : Nat) (μ : Mem) (hk : μ.kd x9 % 32 = 10) (t : Int64) : Kon l yX9_add cX9_add 3 none 0 0 0 0 G [.ref x9, .long t] μ (pV fun μ' => μ' = μ.sfl 314 x9 (31 * μ.fl 314 x9 + t)) noX := by
  refine Kon.ofG (by decide +kernel) (Nat.le_of_ble_eq_true rfl) (Nat.le_of_ble_eq_true rfl) (fun Z hZG C E NT MT => ?_)
  subst hZG
  have C : Cx Z RX9 cX9_add 0 0 0 0 := C
  show HW Z 0 0 0 [some (.ref x9), some (.long t), none] [] μ
  refine h_al_g C dX9_add_0 rfl rfl rfv_r ?_
  refine h_ldc2 C kc_X9_110 dX9_add_1 ?_
  refine h_al_g C dX9_add_4 rfl rfl rfv_r ?_
  refine gf_X9_287 C dX9_add_5 hk rfl ?_
  refine h_lmul C dX9_add_8 ?_
  refine h_lload_g C dX9_add_9 rfl rfl ?_
  refine h_ladd C dX9_add_10 ?_
  refine pf_X9_287 C dX9_add_11 hk ?_
  refine h_ret C E dX9_add_14 (by decide) (by decide) ?_
  exact ⟨rfl, rfl⟩

end
