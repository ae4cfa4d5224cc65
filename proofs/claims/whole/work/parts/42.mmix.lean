section
theorem mx_step {t : Int64} {v : Int32} {M : Nat} (ht : t.toInt = M) (hM : M < 65521) : (31 * t + v.toInt64 + 2).toInt % 65521 = (mxN M v.toInt : Int) := by
  have hv := fb_rng v
  have e0 : (31 : Int64).toInt = 31 := by decide
  have e2 : (2 : Int64).toInt = 2 := by decide
  have e1 : (31 * t : Int64).toInt = 31 * (M : Int) := by rw [fb_mulL (by rw [e0, ht]; omega) (by rw [e0, ht]; omega), e0, ht]
  have e3 : (31 * t + v.toInt64 : Int64).toInt = 31 * (M : Int) + v.toInt := by rw [fb_addL (by rw [e1, i_toL]; omega) (by rw [e1, i_toL]; omega), e1, i_toL]
  have e4 : (31 * t + v.toInt64 + 2 : Int64).toInt = 31 * (M : Int) + v.toInt + 2 := by rw [fb_addL (by rw [e3, e2]; omega) (by rw [e3, e2]; omega), e3, e2]
  rw [e4, mxN_int]
set_option maxRecDepth 100000 in
set_option maxHeartbeats 1000000 in
theorem lp_X9_mix {Z : Zx} {Post : Option Value → Mem → Prop} {PostX : String → Mem → Prop} {rc rs mc ms : Nat} {μ : Mem} {a : Nat} {vs : List Int32} (hka : μ.kd a % 32 = 11) (hla : μ.ln a = vs.length) (hel : ∀ i (h : i < vs.length), μ.ei a i = vs[i]) (hmx : vs.length ≤ 100) (C : Cx Z RX9 cX9_mix 1 rc rs 21) (E : Rt Z mc ms (some .int) Post PostX) {k n : Nat} (hk : k ≤ mc) (hn : n ≤ ms) (hk2 : k ≤ rc) (hn2 : n ≤ rs) :
    ∀ (m j M : Nat) (t : Int64), j + m = vs.length → M < 65521 → t.toInt = M → (∀ v, v = nI (nz1 (((vs.drop j).map Int32.toInt).foldl mxN M)) → Post (some (.int v)) μ) → ∀ z6 : Option Value, HW Z k n 13 [some (.ref a), some (.long t), none, some (.ref a), some (.int (nI vs.length)), some (.int (nI j)), z6] [] μ := by
  intro m
  induction m with
  | zero =>
    intro j M t hj hM ht hP z6
    refine h_iload_w C dX9_mix_13 rfl ?_
    refine h_iload_w C dX9_mix_15 rfl ?_
    refine h_icmp_ge (tgt := 49) C dX9_mix_17 (by decide) (fun c1 => ?_) (fun c1 => absurd ((nI_le (by omega) (by omega))) c1)
    refine h_lload_g C dX9_mix_49 rfl rfl ?_
    refine h_lconst (v := 0) C dX9_mix_50 (by decide) ?_
    refine h_lcmp C dX9_mix_51 ?_
    refine h_if_ne (tgt := 59) C dX9_mix_52 (by decide) (fun c2 => ?_) (fun c2 => ?_)
    · refine h_lload_g C dX9_mix_59 rfl rfl ?_
      refine h_l2i C dX9_mix_60 ?_
      refine h_iret C E dX9_mix_61 hk hn ?_
      refine hP _ ?_
      rw [List.drop_eq_nil_of_le (by omega)]
      have h9 : ¬ M = 0 := fun h => c2 ((lg_cmp_eq _ _).mpr (Int64.toInt_inj.mp (by rw [ht, h]; rfl)))
      show _ = nI (nz1 M)
      unfold nz1
      rw [if_neg h9]
      exact l_toI ht (by omega)
    · refine h_iconst (v := 1) C dX9_mix_55 (by decide) ?_
      refine h_goto (tgt := 61) C dX9_mix_56 (by decide) ?_
      refine h_iret C E dX9_mix_61 hk hn ?_
      refine hP _ ?_
      rw [List.drop_eq_nil_of_le (by omega)]
      have h9 : M = 0 := by
        have h8 := (lg_cmp_eq _ _).mp c2
        rw [h8] at ht
        exact Int.natCast_eq_zero.mp ht.symm
      show _ = nI (nz1 M)
      unfold nz1
      rw [if_pos h9]
      rfl
  | succ m ih =>
    intro j M t hj hM ht hP z6
    have hjl : j < vs.length := by omega
    have hdr : vs.drop j = vs[j] :: vs.drop (j + 1) := List.drop_eq_getElem_cons hjl
    refine h_iload_w C dX9_mix_13 rfl ?_
    refine h_iload_w C dX9_mix_15 rfl ?_
    refine h_icmp_ge (tgt := 49) C dX9_mix_17 (by decide) (fun c1 => absurd c1 ((nI_ge (by omega) (by omega)))) (fun c1 => ?_)
    refine h_al_g C dX9_mix_20 rfl rfl rfv_r ?_
    refine h_iload_w C dX9_mix_21 rfl ?_
    refine h_iald C dX9_mix_23 hka (by rw [hla]; exact vp_in_nI hjl (by omega)) (show μ.ei a (nI j).toNatClampNeg = vs[j] from by rw [nI_clamp (by omega)]; exact hel j hjl) ?_
    refine h_ist_6 C dX9_mix_24 ct_i ?_
    refine h_ldc2 C kc_X9_110 dX9_mix_26 ?_
    refine h_lload_g C dX9_mix_29 rfl rfl ?_
    refine h_lmul C dX9_mix_30 ?_
    refine h_iload_w C dX9_mix_31 rfl ?_
    refine h_i2l C dX9_mix_33 ?_
    refine h_ladd C dX9_mix_34 ?_
    refine h_ldc2 C kc_X9_89 dX9_mix_35 ?_
    refine h_ladd C dX9_mix_38 ?_
    refine h_callS1 C (k_X9_rest Z.l Z.G _ _) cw_X9_112 st_X9_rest dX9_mix_39 (by first | decide | exact Nat.le_of_ble_eq_true rfl) (by decide) (by decide) (by omega) (by omega) (kL fun r1 μ1 hp1 => ?_) kN
    obtain ⟨rfl, hr⟩ := hp1
    refine h_lst_1 C dX9_mix_42 ct_r ?_
    refine h_iinc_5 (q := 1) C dX9_mix_43 (by decide) ct_i ?_
    refine h_goto (tgt := 13) C dX9_mix_46 (by decide) ?_
    rw [nI_1]
    exact ih (j + 1) _ _ (by omega) (mxN_lt M _) (hr.trans (mx_step ht hM)) (fun v hv => hP v (by rw [hdr]; exact hv)) _

set_option maxRecDepth 100000 in
set_option maxHeartbeats 1000000 in
theorem k_X9_mix (l : Launch) (G : Gx) (a : Nat) (vs : List Int32) (μ : Mem) (hka : μ.kd a % 32 = 11) (hla : μ.ln a = vs.length) (hel : ∀ i (h : i < vs.length), μ.ei a i = vs[i]) (hmx : vs.length ≤ 100) : Kon l yX9_mix cX9_mix 7 (some .int) 1 0 0 21 G [.ref a] μ (pI fun v μ' => μ = μ' ∧ v = nI (MIX (vs.map Int32.toInt))) noX := by
  refine Kon.ofG (by decide +kernel) (Nat.le_of_ble_eq_true rfl) (Nat.le_of_ble_eq_true rfl) (fun Z hZG C E NT MT => ?_)
  subst hZG
  have C : Cx Z RX9 cX9_mix 1 0 0 21 := C
  show HW Z 0 0 0 [some (.ref a), none, none, none, none, none, none] [] μ
  refine h_ldc2 C kc_X9_108 dX9_mix_0 ?_
  refine h_lst_1 C dX9_mix_3 ct_r ?_
  refine h_al_g C dX9_mix_4 rfl rfl rfv_r ?_
  refine h_ast_3 C dX9_mix_5 ct_n rfv_r ?_
  refine h_al_g C dX9_mix_6 rfl rfl rfv_r ?_
  refine h_alen C dX9_mix_7 ⟨by omega, by omega⟩ hla ?_
  refine h_ist_4 C dX9_mix_8 ct_r ?_
  refine h_iconst (v := 0) C dX9_mix_10 (by decide) ?_
  refine h_ist_5 C dX9_mix_11 ct_i ?_
  exact lp_X9_mix hka hla hel hmx C E (Nat.le_refl _) (Nat.le_refl _) (Nat.le_refl _) (Nat.le_refl _) vs.length 0 17 _ (by omega) (by decide) (by decide) (fun v hv => ⟨v, rfl, rfl, hv⟩) _

end
