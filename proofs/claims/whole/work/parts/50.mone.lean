section
/-- field f of the model is an array of n numbers g -/
def I1 (μ : Mem) (x f n : Nat) (g : Nat → Int32) : Prop := ∃ A, μ.fr f x = some A ∧ A ≠ x ∧ μ.kd A % 32 = 11 ∧ μ.ln A = n ∧ ∀ i, i < n → μ.ei A i = g i
set_option maxRecDepth 100000 in
set_option maxHeartbeats 1000000 in
theorem k_X9_address (l : Launch) (G : Gx) (x9 : Nat) (μ : Mem) (hk : μ.kd x9 % 32 = 10) (g : Nat → Int32) (h1 : I1 μ x9 292 3 g) (x : Int32) : Kon l yX9_address cX9_address 2 (some .int) 2 0 0 45 G [.ref x9, .int x] μ (pI fun v μ' => (endC x = 0 ∧ v = g (cl x) ∧ μ' = μ.sfi 290 x9 0) ∨ (¬ endC x = 0 ∧ v = 0 ∧ μ' = μ.sfi 290 x9 (endC x))) noX := by
  refine Kon.ofG (by decide +kernel) (Nat.le_of_ble_eq_true rfl) (Nat.le_of_ble_eq_true rfl) (fun Z hZG C E NT MT => ?_)
  subst hZG
  have C : Cx Z RX9 cX9_address 2 0 0 45 := C
  show HW Z 0 0 0 [some (.ref x9), some (.int x)] [] μ
  obtain ⟨A, q1, q2, q3, q4, q5⟩ := h1
  refine h_al_g C dX9_address_0 rfl rfl rfv_r ?_
  refine h_iload_g C dX9_address_1 rfl rfl ?_
  refine h_callS1 C (k_X9_isEnd Z.l Z.G _ _) cw_X9_98 st_X9_isEnd dX9_address_2 (by first | decide | exact Nat.le_of_ble_eq_true rfl) (by decide) (by decide) (by decide) (by decide) (kB (fun μ1 hp1 => ?_) (fun μ1 hp1 => ?_)) kN
  · obtain ⟨rfl, hx⟩ := hp1
    refine h_if_eq (tgt := 12) C dX9_address_5 (by decide) (fun c1 => absurd c1 (by decide)) (fun c1 => ?_)
    refine h_iconst (v := 0) C dX9_address_8 (by decide) ?_
    refine h_goto (tgt := 13) C dX9_address_9 (by decide) ?_
    refine h_callV1 (ci := 9) C (k_X9_isWrong Z.l Z.G x9 _ hk (0)) cw_X9_215 im_X9_isWrong sl_X9_isWrong rfl (by decide) hk dX9_address_13 (by first | decide | exact Nat.le_of_ble_eq_true rfl) (by decide) (by decide) (by decide) (by decide) (kB (fun μ2 hp2 => ?_) (fun μ2 hp2 => ?_)) kN
    · obtain ⟨hc, rfl⟩ := hp2
      exact absurd rfl hc
    · obtain ⟨hc, rfl⟩ := hp2
      refine h_if_eq (tgt := 21) C dX9_address_16 (by decide) (fun c2 => ?_) (fun c2 => absurd (by decide) c2)
      refine h_al_g C dX9_address_21 rfl rfl rfv_r ?_
      refine gs_X9_13 C dX9_address_22 hk q1 ?_
      refine h_iload_g C dX9_address_25 rfl rfl ?_
      refine h_iald C dX9_address_26 q3 (by show vp_in _ (μ.ln A); rw [q4]; exact vp_isE hx.1 hx.2 (by decide)) (show μ.ei A x.toNatClampNeg = g (cl x) from q5 _ hx.lt) ?_
      refine h_iret C E dX9_address_27 (by decide) (by decide) ?_
      exact ⟨_, rfl, Or.inl ⟨if_pos hx, rfl, rfl⟩⟩
  · obtain ⟨rfl, hx⟩ := hp1
    refine h_if_eq (tgt := 12) C dX9_address_5 (by decide) (fun c3 => ?_) (fun c3 => absurd (by decide) c3)
    refine h_iconst (v := 1) C dX9_address_12 (by decide) ?_
    refine h_callV1 (ci := 9) C (k_X9_isWrong Z.l Z.G x9 _ hk (1)) cw_X9_215 im_X9_isWrong sl_X9_isWrong rfl (by decide) hk dX9_address_13 (by first | decide | exact Nat.le_of_ble_eq_true rfl) (by decide) (by decide) (by decide) (by decide) (kB (fun μ3 hp3 => ?_) (fun μ3 hp3 => ?_)) kN
    · obtain ⟨hc, rfl⟩ := hp3
      refine h_if_eq (tgt := 21) C dX9_address_16 (by decide) (fun c4 => absurd c4 (by decide)) (fun c4 => ?_)
      refine h_iconst (v := 0) C dX9_address_19 (by decide) ?_
      refine h_iret C E dX9_address_20 (by decide) (by decide) ?_
      exact ⟨_, rfl, Or.inr ⟨by rw [show endC x = 1 from if_neg hx]; decide, rfl, by rw [show endC x = 1 from if_neg hx]⟩⟩
    · obtain ⟨hc, rfl⟩ := hp3
      exact absurd hc (by decide)

set_option maxRecDepth 100000 in
set_option maxHeartbeats 1000000 in
theorem k_X9_outs (l : Launch) (G : Gx) (x9 : Nat) (μ : Mem) (hk : μ.kd x9 % 32 = 10) (g : Nat → Int32) (h1 : I1 μ x9 294 3 g) (x : Int32) : Kon l yX9_outs cX9_outs 2 (some .int) 2 0 0 45 G [.ref x9, .int x] μ (pI fun v μ' => (endC x = 0 ∧ v = g (cl x) ∧ μ' = μ.sfi 290 x9 0) ∨ (¬ endC x = 0 ∧ v = 0 ∧ μ' = μ.sfi 290 x9 (endC x))) noX := by
  refine Kon.ofG (by decide +kernel) (Nat.le_of_ble_eq_true rfl) (Nat.le_of_ble_eq_true rfl) (fun Z hZG C E NT MT => ?_)
  subst hZG
  have C : Cx Z RX9 cX9_outs 2 0 0 45 := C
  show HW Z 0 0 0 [some (.ref x9), some (.int x)] [] μ
  obtain ⟨A, q1, q2, q3, q4, q5⟩ := h1
  refine h_al_g C dX9_outs_0 rfl rfl rfv_r ?_
  refine h_iload_g C dX9_outs_1 rfl rfl ?_
  refine h_callS1 C (k_X9_isEnd Z.l Z.G _ _) cw_X9_98 st_X9_isEnd dX9_outs_2 (by first | decide | exact Nat.le_of_ble_eq_true rfl) (by decide) (by decide) (by decide) (by decide) (kB (fun μ1 hp1 => ?_) (fun μ1 hp1 => ?_)) kN
  · obtain ⟨rfl, hx⟩ := hp1
    refine h_if_eq (tgt := 12) C dX9_outs_5 (by decide) (fun c1 => absurd c1 (by decide)) (fun c1 => ?_)
    refine h_iconst (v := 0) C dX9_outs_8 (by decide) ?_
    refine h_goto (tgt := 13) C dX9_outs_9 (by decide) ?_
    refine h_callV1 (ci := 9) C (k_X9_isWrong Z.l Z.G x9 _ hk (0)) cw_X9_215 im_X9_isWrong sl_X9_isWrong rfl (by decide) hk dX9_outs_13 (by first | decide | exact Nat.le_of_ble_eq_true rfl) (by decide) (by decide) (by decide) (by decide) (kB (fun μ2 hp2 => ?_) (fun μ2 hp2 => ?_)) kN
    · obtain ⟨hc, rfl⟩ := hp2
      exact absurd rfl hc
    · obtain ⟨hc, rfl⟩ := hp2
      refine h_if_eq (tgt := 21) C dX9_outs_16 (by decide) (fun c2 => ?_) (fun c2 => absurd (by decide) c2)
      refine h_al_g C dX9_outs_21 rfl rfl rfv_r ?_
      refine gs_X9_20 C dX9_outs_22 hk q1 ?_
      refine h_iload_g C dX9_outs_25 rfl rfl ?_
      refine h_iald C dX9_outs_26 q3 (by show vp_in _ (μ.ln A); rw [q4]; exact vp_isE hx.1 hx.2 (by decide)) (show μ.ei A x.toNatClampNeg = g (cl x) from q5 _ hx.lt) ?_
      refine h_iret C E dX9_outs_27 (by decide) (by decide) ?_
      exact ⟨_, rfl, Or.inl ⟨if_pos hx, rfl, rfl⟩⟩
  · obtain ⟨rfl, hx⟩ := hp1
    refine h_if_eq (tgt := 12) C dX9_outs_5 (by decide) (fun c3 => ?_) (fun c3 => absurd (by decide) c3)
    refine h_iconst (v := 1) C dX9_outs_12 (by decide) ?_
    refine h_callV1 (ci := 9) C (k_X9_isWrong Z.l Z.G x9 _ hk (1)) cw_X9_215 im_X9_isWrong sl_X9_isWrong rfl (by decide) hk dX9_outs_13 (by first | decide | exact Nat.le_of_ble_eq_true rfl) (by decide) (by decide) (by decide) (by decide) (kB (fun μ3 hp3 => ?_) (fun μ3 hp3 => ?_)) kN
    · obtain ⟨hc, rfl⟩ := hp3
      refine h_if_eq (tgt := 21) C dX9_outs_16 (by decide) (fun c4 => absurd c4 (by decide)) (fun c4 => ?_)
      refine h_iconst (v := 0) C dX9_outs_19 (by decide) ?_
      refine h_iret C E dX9_outs_20 (by decide) (by decide) ?_
      exact ⟨_, rfl, Or.inr ⟨by rw [show endC x = 1 from if_neg hx]; decide, rfl, by rw [show endC x = 1 from if_neg hx]⟩⟩
    · obtain ⟨hc, rfl⟩ := hp3
      exact absurd hc (by decide)

end
