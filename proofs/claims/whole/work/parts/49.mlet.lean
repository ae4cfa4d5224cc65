section
set_option maxRecDepth 100000 in
set_option maxHeartbeats 1000000 in
theorem k_X9_isLetter (l : Launch) (G : Gx) (x9 : Nat) (μ : Mem) (hk : μ.kd x9 % 32 = 10) (m : Nat) (hm : μ.fi 312 x9 = nI m) (h60 : m ≤ 60) (x : Int32) : Kon l yX9_isLetter cX9_isLetter 2 (some .boolean) 1 0 0 25 G [.ref x9, .int x] μ (pB (fun μ' => μ = μ' ∧ 0 ≤ x.toInt ∧ x.toInt < m) (fun μ' => μ = μ' ∧ ¬ (0 ≤ x.toInt ∧ x.toInt < m))) noX := by
  refine Kon.ofG (by decide +kernel) (Nat.le_of_ble_eq_true rfl) (Nat.le_of_ble_eq_true rfl) (fun Z hZG C E NT MT => ?_)
  subst hZG
  have C : Cx Z RX9 cX9_isLetter 1 0 0 25 := C
  show HW Z 0 0 0 [some (.ref x9), some (.int x)] [] μ
  have e0 : (0 : Int64).toInt = 0 := by decide
  have e1 : (nI m - 1 : Int32).toInt64.toInt = (m : Int) - 1 := by rw [i_toL, fb_subI (by rw [nI_toInt (by omega), tl_1]; omega) (by rw [nI_toInt (by omega), tl_1]; omega), nI_toInt (by omega), tl_1]
  refine h_iload_g C dX9_isLetter_0 rfl rfl ?_
  refine h_i2l C dX9_isLetter_1 ?_
  refine h_lconst (v := 0) C dX9_isLetter_2 (by decide) ?_
  refine h_al_g C dX9_isLetter_3 rfl rfl rfv_r ?_
  refine gf_X9_95 C dX9_isLetter_4 hk hm ?_
  refine h_iconst (v := 1) C dX9_isLetter_7 (by decide) ?_
  refine h_isub C dX9_isLetter_8 ?_
  refine h_i2l C dX9_isLetter_9 ?_
  refine h_callS3 C (k_X9_isBetween Z.l Z.G _ _ _ _) cw_X9_91 st_X9_isBetween dX9_isLetter_10 (by first | decide | exact Nat.le_of_ble_eq_true rfl) (by decide) (by decide) (by decide) (by decide) (kB (fun μ1 hp1 => ?_) (fun μ1 hp1 => ?_)) kN
  · obtain ⟨rfl, hBt⟩ := hp1
    rw [btw_i, e0, e1] at hBt
    refine h_zret C E dX9_isLetter_13 (by decide) (by decide) (by first | exact Or.inl rfl | exact Or.inr rfl) ?_
    exact Or.inl ⟨rfl, rfl, hBt.1, by omega⟩
  · obtain ⟨rfl, hBt⟩ := hp1
    rw [btw_i, e0, e1] at hBt
    refine h_zret C E dX9_isLetter_13 (by decide) (by decide) (by first | exact Or.inl rfl | exact Or.inr rfl) ?_
    exact Or.inr ⟨rfl, rfl, fun h => hBt ⟨h.1, by omega⟩⟩

end
