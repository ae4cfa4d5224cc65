section
def passT (t x : Int32) : Int32 := if inR x 1 60 then (if t.toInt + x.toInt ≤ 500000000 then 0 else 2) else 1
theorem inR_64 {x : Int32} : ((1 : Int64).toInt ≤ x.toInt ∧ x.toInt ≤ (60 : Int64).toInt) ↔ (1 ≤ x.toInt ∧ x.toInt ≤ 60) := by
  have h1 : (1 : Int64).toInt = 1 := by decide
  have h2 : (60 : Int64).toInt = 60 := by decide
  rw [h1, h2]
theorem inR_160 {x : Int32} : inR x 1 60 ↔ (1 ≤ x.toInt ∧ x.toInt ≤ 60) := by
  constructor
  · intro h; have h9 := h; simp only [inR, tl_1, tl_60] at h9; exact h9
  · intro h; simp only [inR, tl_1, tl_60]; exact h
set_option maxRecDepth 100000 in
set_option maxHeartbeats 1000000 in
theorem k_X9_pass (l : Launch) (G : Gx) (x9 : Nat) (μ : Mem) (hk : μ.kd x9 % 32 = 10) (t x : Int32) (ht : μ.fi 288 x9 = t) (hT : 0 ≤ t.toInt ∧ t.toInt ≤ 500000000) : Kon l yX9_pass cX9_pass 2 (some .int) 1 0 0 25 G [.ref x9, .int x] μ (pI fun v μ' => (passT t x = 0 ∧ v = t + x ∧ μ' = (μ.sfi 290 x9 0).sfi 288 x9 (t + x)) ∨ (¬ passT t x = 0 ∧ v = 0 ∧ μ' = μ.sfi 290 x9 (passT t x))) noX := by
  refine Kon.ofG (by decide +kernel) (Nat.le_of_ble_eq_true rfl) (Nat.le_of_ble_eq_true rfl) (fun Z hZG C E NT MT => ?_)
  subst hZG
  have C : Cx Z RX9 cX9_pass 1 0 0 25 := C
  show HW Z 0 0 0 [some (.ref x9), some (.int x)] [] μ
  refine h_al_g C dX9_pass_0 rfl rfl rfv_r ?_
  refine h_iload_g C dX9_pass_1 rfl rfl ?_
  refine h_i2l C dX9_pass_2 ?_
  refine h_lconst (v := 1) C dX9_pass_3 (by decide) ?_
  refine h_ldc2 C kc_X9_212 dX9_pass_4 ?_
  refine h_callS3 C (k_X9_isBetween Z.l Z.G _ _ _ _) cw_X9_91 st_X9_isBetween dX9_pass_7 (by first | decide | exact Nat.le_of_ble_eq_true rfl) (by decide) (by decide) (by decide) (by decide) (kB (fun μ1 hp1 => ?_) (fun μ1 hp1 => ?_)) kN
  · obtain ⟨rfl, hBt⟩ := hp1
    rw [btw_i, inR_64] at hBt
    have hr := inR_160.mpr hBt
    have hs : (t + x : Int32).toInt = t.toInt + x.toInt := fb_addI (by omega) (by omega)
    refine h_if_ne (tgt := 17) C dX9_pass_10 (by decide) (fun c1 => ?_) (fun c1 => absurd c1 (by decide))
    refine h_al_g C dX9_pass_17 rfl rfl rfv_r ?_
    refine gf_X9_129 C dX9_pass_18 hk ht ?_
    refine h_iload_g C dX9_pass_21 rfl rfl ?_
    refine h_iadd C dX9_pass_22 ?_
    refine h_ldc C kc_X9_214 dX9_pass_23 ?_
    refine h_icmp_le (tgt := 32) C dX9_pass_25 (by decide) (fun c1 => ?_) (fun c1 => ?_)
    · rw [Int32.le_iff_toInt_le, tl_500000000, hs] at c1
      have hp : passT t x = 0 := (if_pos hr).trans (if_pos c1)
      refine h_iconst (v := 0) C dX9_pass_32 (by decide) ?_
      refine h_callV1 (ci := 9) C (k_X9_isWrong Z.l Z.G x9 _ hk (0)) cw_X9_215 im_X9_isWrong sl_X9_isWrong rfl (by decide) hk dX9_pass_33 (by first | decide | exact Nat.le_of_ble_eq_true rfl) (by decide) (by decide) (by decide) (by decide) (kB (fun μ2 hp2 => ?_) (fun μ2 hp2 => ?_)) kN
      · obtain ⟨hc, rfl⟩ := hp2
        exact absurd rfl hc
      · obtain ⟨hc, rfl⟩ := hp2
        refine h_if_eq (tgt := 41) C dX9_pass_36 (by decide) (fun c3 => ?_) (fun c3 => absurd (by decide) c3)
        refine h_al_g C dX9_pass_41 rfl rfl rfv_r ?_
        refine h_dup C dX9_pass_42 rfl ?_
        refine gf_X9_129 C dX9_pass_43 hk ((fi_ap rfl (Or.inl (by decide))).trans ht) ?_
        refine h_iload_g C dX9_pass_46 rfl rfl ?_
        refine h_iadd C dX9_pass_47 ?_
        refine pf_X9_129 C dX9_pass_48 hk ?_
        refine h_al_g C dX9_pass_51 rfl rfl rfv_r ?_
        refine gf_X9_129 C dX9_pass_52 hk (fi_at rfl) ?_
        refine h_iret C E dX9_pass_55 (by decide) (by decide) ?_
        exact ⟨_, rfl, Or.inl ⟨hp, rfl, rfl⟩⟩
    · rw [Int32.le_iff_toInt_le, tl_500000000, hs] at c1
      have hp : passT t x = 2 := (if_pos hr).trans (if_neg c1)
      refine h_iconst (v := 2) C dX9_pass_28 (by decide) ?_
      refine h_goto (tgt := 33) C dX9_pass_29 (by decide) ?_
      refine h_callV1 (ci := 9) C (k_X9_isWrong Z.l Z.G x9 _ hk (2)) cw_X9_215 im_X9_isWrong sl_X9_isWrong rfl (by decide) hk dX9_pass_33 (by first | decide | exact Nat.le_of_ble_eq_true rfl) (by decide) (by decide) (by decide) (by decide) (kB (fun μ3 hp3 => ?_) (fun μ3 hp3 => ?_)) kN
      · obtain ⟨hc, rfl⟩ := hp3
        refine h_if_eq (tgt := 41) C dX9_pass_36 (by decide) (fun c4 => absurd c4 (by decide)) (fun c4 => ?_)
        refine h_iconst (v := 0) C dX9_pass_39 (by decide) ?_
        refine h_iret C E dX9_pass_40 (by decide) (by decide) ?_
        exact ⟨_, rfl, Or.inr ⟨by rw [hp]; decide, rfl, by rw [hp]⟩⟩
      · obtain ⟨hc, rfl⟩ := hp3
        exact absurd hc (by decide)
  · obtain ⟨rfl, hBt⟩ := hp1
    rw [btw_i, inR_64] at hBt
    have hr : ¬ inR x 1 60 := fun h => hBt (inR_160.mp h)
    refine h_if_ne (tgt := 17) C dX9_pass_10 (by decide) (fun c5 => absurd c5 (by decide)) (fun c5 => ?_)
    refine h_iconst (v := 1) C dX9_pass_13 (by decide) ?_
    refine h_goto (tgt := 33) C dX9_pass_14 (by decide) ?_
    refine h_callV1 (ci := 9) C (k_X9_isWrong Z.l Z.G x9 _ hk (1)) cw_X9_215 im_X9_isWrong sl_X9_isWrong rfl (by decide) hk dX9_pass_33 (by first | decide | exact Nat.le_of_ble_eq_true rfl) (by decide) (by decide) (by decide) (by decide) (kB (fun μ4 hp4 => ?_) (fun μ4 hp4 => ?_)) kN
    · obtain ⟨hc, rfl⟩ := hp4
      refine h_if_eq (tgt := 41) C dX9_pass_36 (by decide) (fun c6 => absurd c6 (by decide)) (fun c6 => ?_)
      refine h_iconst (v := 0) C dX9_pass_39 (by decide) ?_
      refine h_iret C E dX9_pass_40 (by decide) (by decide) ?_
      exact ⟨_, rfl, Or.inr ⟨by rw [show passT t x = 1 from if_neg hr]; decide, rfl, by rw [show passT t x = 1 from if_neg hr]⟩⟩
    · obtain ⟨hc, rfl⟩ := hp4
      exact absurd hc (by decide)

end
