section
theorem m2039 {x y : Int64} {A B : Nat} (hx : x.toInt = A) (hy : y.toInt = B) (hA : A < 2039) (hB : B < 2039) : (x * y - x * y / 2039 * 2039).toInt = ((A * B % 2039 : Nat) : Int) := by
  have h0 : A * B < 2039 * 2039 := Nat.mul_lt_mul'' hA hB
  have h1 : (x * y).toInt = ((A * B : Nat) : Int) := by
    rw [fb_mulL (by rw [hx, hy, ← Int.natCast_mul]; omega) (by rw [hx, hy, ← Int.natCast_mul]; omega), hx, hy, Int.natCast_mul]
  rw [lrem_eq, Int64.toInt_mod, h1, show (2039 : Int64).toInt = 2039 from by decide, Int.tmod_eq_emod_of_nonneg (by omega)]
  generalize A * B = c
  omega
theorem pwe {A B q : Nat} (h : q % 2 = 0) : A * (B * B % 2039) ^ (q / 2) % 2039 = A * B ^ q % 2039 := by
  rw [Nat.mul_mod, ← Nat.pow_mod, ← Nat.mul_mod, ← Nat.pow_two, ← Nat.pow_mul, show 2 * (q / 2) = q by omega]
theorem pwo {A B q : Nat} (h : q % 2 = 1) : (A * B % 2039) * (B * B % 2039) ^ (q / 2) % 2039 = A * B ^ q % 2039 := by
  rw [Nat.mul_mod, ← Nat.pow_mod, Nat.mod_mod, ← Nat.mul_mod, ← Nat.pow_two, ← Nat.pow_mul, Nat.mul_assoc, ← Nat.pow_succ', show Nat.succ (2 * (q / 2)) = q by omega]
set_option maxRecDepth 100000 in
set_option maxHeartbeats 1000000 in
theorem lp_X9_power {Z : Zx} {Post : Option Value → Mem → Prop} {PostX : String → Mem → Prop} {rc rs mc ms : Nat} {μ : Mem} {b x9 : Int32} (C : Cx Z RX9 cX9_power 0 rc rs 0) (E : Rt Z mc ms (some .int) Post PostX) {k n : Nat} (hk : k ≤ mc) (hn : n ≤ ms) :
    ∀ (m q : Nat), q ≤ m → q < 2 ^ 31 → ∀ (A B : Nat) (x y : Int64), A < 2039 → B < 2039 → x.toInt = A → y.toInt = B → (∀ v, v = nI (A * B ^ q % 2039) → Post (some (.int v)) μ) → HW Z k n 13 [some (.int b), some (.int x9), some (.long x), none, some (.long y), none, some (.int (nI q))] [] μ := by
  intro m
  induction m with
  | zero =>
    intro q hq hq2 A B x y hA hB hx hy hP
    have h0 : q = 0 := by omega
    subst h0
    refine h_iload_w C dX9_power_13 rfl ?_
    refine h_if_le (tgt := 55) C dX9_power_15 (by decide) (fun c1 => ?_) (fun c1 => absurd ((by decide)) c1)
    refine h_lload_g C dX9_power_55 rfl rfl ?_
    refine h_l2i C dX9_power_56 ?_
    refine h_iret C E dX9_power_57 hk hn ?_
    refine hP _ ?_
    rw [l_toI (z := A) hx (by omega), Nat.pow_zero, Nat.mul_one, Nat.mod_eq_of_lt hA]
  | succ m ih =>
    intro q hq hq2 A B x y hA hB hx hy hP
    by_cases h0 : q = 0
    · subst h0
      refine h_iload_w C dX9_power_13 rfl ?_
      refine h_if_le (tgt := 55) C dX9_power_15 (by decide) (fun c1 => ?_) (fun c1 => absurd ((by decide)) c1)
      refine h_lload_g C dX9_power_55 rfl rfl ?_
      refine h_l2i C dX9_power_56 ?_
      refine h_iret C E dX9_power_57 hk hn ?_
      refine hP _ ?_
      rw [l_toI (z := A) hx (by omega), Nat.pow_zero, Nat.mul_one, Nat.mod_eq_of_lt hA]
    · have h9 : 0 < q := by omega
      refine h_iload_w C dX9_power_13 rfl ?_
      refine h_if_le (tgt := 55) C dX9_power_15 (by decide) (fun c1 => absurd c1 ((fun h => by rw [Int32.le_iff_toInt_le, nI_toInt (by omega), tl_0] at h; omega))) (fun c1 => ?_)
      refine h_iload_w C dX9_power_18 rfl ?_
      refine h_iconst (v := 1) C dX9_power_20 (by decide) ?_
      refine h_iand C dX9_power_21 ?_
      rw [show (nI q &&& 1 : Int32) = nI (q % 2) from fa_mask q 1]
      refine h_iconst (v := 1) C dX9_power_22 (by decide) ?_
      refine h_icmp_ne (tgt := 35) C dX9_power_23 (by decide) (fun c2 => ?_) (fun c2 => ?_)
      · have e8 : q % 2 = 0 := by
          have h9 : ¬ q % 2 = 1 := fun h => c2 (by rw [h]; rfl)
          omega
        refine h_lload_w C dX9_power_35 rfl ?_
        refine h_lload_w C dX9_power_37 rfl ?_
        refine h_lmul C dX9_power_39 ?_
        refine h_ldc2 C kc_X9_102 dX9_power_40 ?_
        refine h_lrem C dX9_power_43 (by decide) ?_
        refine h_lst_4 C dX9_power_44 ct_n ?_
        refine h_iload_w C dX9_power_46 rfl ?_
        refine h_iconst (v := 1) C dX9_power_48 (by decide) ?_
        refine h_ishr C dX9_power_49 ?_
        rw [pk_shrN (n := q) (by omega) (1 &&& 31) 1 (by decide), Nat.pow_one]
        refine h_ist_6 C dX9_power_50 ct_n ?_
        refine h_goto (tgt := 13) C dX9_power_52 (by decide) ?_
        exact ih (q / 2) (by omega) (by omega) A (B * B % 2039) _ _ hA (Nat.mod_lt _ (by decide)) hx (m2039 hy hy hB hB) (fun v hv => hP v (by rw [hv, pwe e8]))
      · have e8 : q % 2 = 1 := (nI_eq (b := 1) (by omega) (by decide)).mp c2
        refine h_lload_g C dX9_power_26 rfl rfl ?_
        refine h_lload_w C dX9_power_27 rfl ?_
        refine h_lmul C dX9_power_29 ?_
        refine h_ldc2 C kc_X9_102 dX9_power_30 ?_
        refine h_lrem C dX9_power_33 (by decide) ?_
        refine h_lst_2 C dX9_power_34 ct_i ?_
        refine h_lload_w C dX9_power_35 rfl ?_
        refine h_lload_w C dX9_power_37 rfl ?_
        refine h_lmul C dX9_power_39 ?_
        refine h_ldc2 C kc_X9_102 dX9_power_40 ?_
        refine h_lrem C dX9_power_43 (by decide) ?_
        refine h_lst_4 C dX9_power_44 ct_n ?_
        refine h_iload_w C dX9_power_46 rfl ?_
        refine h_iconst (v := 1) C dX9_power_48 (by decide) ?_
        refine h_ishr C dX9_power_49 ?_
        rw [pk_shrN (n := q) (by omega) (1 &&& 31) 1 (by decide), Nat.pow_one]
        refine h_ist_6 C dX9_power_50 ct_n ?_
        refine h_goto (tgt := 13) C dX9_power_52 (by decide) ?_
        exact ih (q / 2) (by omega) (by omega) (A * B % 2039) (B * B % 2039) _ _ (Nat.mod_lt _ (by decide)) (Nat.mod_lt _ (by decide)) (m2039 hx hy hA hB) (m2039 hy hy hB hB) (fun v hv => hP v (by rw [hv, pwo e8]))

set_option maxRecDepth 100000 in
set_option maxHeartbeats 1000000 in
theorem k_X9_power (l : Launch) (G : Gx) (b x : Int32) (bn e : Nat) (hb : b = nI bn) (hbl : bn < 2 ^ 31) (hx : x = nI e) (hel : e < 2 ^ 31) (μ : Mem) : Kon l yX9_power cX9_power 7 (some .int) 0 0 0 0 G [.int b, .int x] μ (pI fun r μ' => μ = μ' ∧ r = nI (PW bn e)) noX := by
  refine Kon.ofG (by decide +kernel) (Nat.le_of_ble_eq_true rfl) (Nat.le_of_ble_eq_true rfl) (fun Z hZG C E NT MT => ?_)
  subst hZG
  have C : Cx Z RX9 cX9_power 0 0 0 0 := C
  show HW Z 0 0 0 [some (.int b), some (.int x), none, none, none, none, none] [] μ
  subst hb
  subst hx
  refine h_lconst (v := 1) C dX9_power_0 (by decide) ?_
  refine h_lst_2 C dX9_power_1 ct_i ?_
  refine h_iload_g C dX9_power_2 rfl rfl ?_
  refine h_sipush (v := 2039) C dX9_power_3 (by decide) ?_
  refine h_irem C dX9_power_6 (by decide) ?_
  rw [show (nI bn - nI bn / 2039 * 2039 : Int32) = nI (bn % 2039) from pk_rem (d := 2039) (by omega) (by decide) (by decide)]
  refine h_i2l C dX9_power_7 ?_
  refine h_lst_4 C dX9_power_8 ct_n ?_
  refine h_iload_g C dX9_power_10 rfl rfl ?_
  refine h_ist_6 C dX9_power_11 ct_n ?_
  exact lp_X9_power C E (Nat.zero_le _) (Nat.zero_le _) e e (Nat.le_refl _) hel 1 (bn % 2039) _ _ (by decide) (Nat.mod_lt _ (by decide)) (by decide) (by rw [i_toL, nI_toInt (by omega)]) (fun v hv => ⟨v, rfl, rfl, by rw [hv, Nat.one_mul, ← Nat.pow_mod]; rfl⟩)

set_option maxRecDepth 100000 in
set_option maxHeartbeats 1000000 in
theorem k_X9_open (l : Launch) (G : Gx) (x : Int32) (e : Nat) (hx : x = nI e) (hel : e < 2 ^ 31) (μ : Mem) : Kon l yX9_open cX9_open 1 (some .int) 1 0 0 26 G [.int x] μ (pI fun r μ' => μ = μ' ∧ r = nI (PW 7 e)) noX := by
  refine Kon.ofG (by decide +kernel) (Nat.le_of_ble_eq_true rfl) (Nat.le_of_ble_eq_true rfl) (fun Z hZG C E NT MT => ?_)
  subst hZG
  have C : Cx Z RX9 cX9_open 1 0 0 26 := C
  show HW Z 0 0 0 [some (.int x)] [] μ
  refine h_bipush (v := 7) C dX9_open_0 (by decide) ?_
  refine h_iload_g C dX9_open_2 rfl rfl ?_
  refine h_callS2 C (k_X9_power Z.l Z.G 7 x 7 e rfl (by decide) hx hel μ) cw_X9_104 st_X9_power dX9_open_3 (by first | decide | exact Nat.le_of_ble_eq_true rfl) (by decide) (by decide) (by decide) (by decide) (kI fun r1 μ1 hp1 => ?_) kN
  obtain ⟨rfl, rfl⟩ := hp1
  refine h_iret C E dX9_open_6 (by decide) (by decide) ?_
  exact ⟨_, rfl, rfl, rfl⟩

set_option maxRecDepth 100000 in
set_option maxHeartbeats 1000000 in
theorem k_X9_both (l : Launch) (G : Gx) (x y : Int32) (e b : Nat) (hx : x = nI e) (hel : e < 2 ^ 31) (hy : y = nI b) (hbl : b < 2 ^ 31) (μ : Mem) : Kon l yX9_both cX9_both 2 (some .int) 1 0 0 26 G [.int x, .int y] μ (pI fun r μ' => μ = μ' ∧ r = nI (PW b e)) noX := by
  refine Kon.ofG (by decide +kernel) (Nat.le_of_ble_eq_true rfl) (Nat.le_of_ble_eq_true rfl) (fun Z hZG C E NT MT => ?_)
  subst hZG
  have C : Cx Z RX9 cX9_both 1 0 0 26 := C
  show HW Z 0 0 0 [some (.int x), some (.int y)] [] μ
  refine h_iload_g C dX9_both_0 rfl rfl ?_
  refine h_iload_g C dX9_both_1 rfl rfl ?_
  refine h_callS2 C (k_X9_power Z.l Z.G y x b e hy hbl hx hel μ) cw_X9_104 st_X9_power dX9_both_2 (by first | decide | exact Nat.le_of_ble_eq_true rfl) (by decide) (by decide) (by decide) (by decide) (kI fun r1 μ1 hp1 => ?_) kN
  obtain ⟨rfl, rfl⟩ := hp1
  refine h_iret C E dX9_both_5 (by decide) (by decide) ?_
  exact ⟨_, rfl, rfl, rfl⟩

set_option maxRecDepth 100000 in
set_option maxHeartbeats 1000000 in
theorem k_X9_nameOf (l : Launch) (G : Gx) (x : Int32) (e : Nat) (hx : x = nI e) (he : e < 1000) (μ : Mem) : Kon l yX9_nameOf cX9_nameOf 1 (some .int) 2 0 0 46 G [.int x] μ (pI fun r μ' => μ = μ' ∧ r = nI (NAME e)) noX := by
  refine Kon.ofG (by decide +kernel) (Nat.le_of_ble_eq_true rfl) (Nat.le_of_ble_eq_true rfl) (fun Z hZG C E NT MT => ?_)
  subst hZG
  have C : Cx Z RX9 cX9_nameOf 2 0 0 46 := C
  show HW Z 0 0 0 [some (.int x)] [] μ
  refine h_iload_g C dX9_nameOf_0 rfl rfl ?_
  refine h_callS1 C (k_X9_secretOf Z.l Z.G _ _) cw_X9_118 st_X9_secretOf dX9_nameOf_1 (by first | decide | exact Nat.le_of_ble_eq_true rfl) (by decide) (by decide) (by decide) (by decide) (kI fun r1 μ1 hp1 => ?_) kN
  obtain ⟨rfl, rfl⟩ := hp1
  rw [show (211 + 307 * x : Int32) = nI (211 + 307 * e) from by rw [hx, show (307 : Int32) = nI 307 from rfl, pk_mul, show (211 : Int32) = nI 211 from rfl, nI_add]]
  refine h_callS1 C (k_X9_open Z.l Z.G _ (211 + 307 * e) rfl (by omega) _) cw_X9_122 st_X9_open dX9_nameOf_4 (by first | decide | exact Nat.le_of_ble_eq_true rfl) (by decide) (by decide) (by decide) (by decide) (kI fun r2 μ2 hp2 => ?_) kN
  obtain ⟨rfl, rfl⟩ := hp2
  refine h_iret C E dX9_nameOf_7 (by decide) (by decide) ?_
  exact ⟨_, rfl, rfl, rfl⟩

end
