section
/-- field f of the model is a table of n rows, m numbers each -/
def I2 (μ : Mem) (x f n m : Nat) (g : Nat → Nat → Int32) : Prop := ∃ A, ∃ R : Nat → Nat, μ.fr f x = some A ∧ A ≠ x ∧ μ.kd A % 32 = 17 ∧ μ.ln A = n ∧ ∀ i, i < n → μ.er A i = some (R i) ∧ μ.kd (R i) % 32 = 11 ∧ μ.ln (R i) = m ∧ ∀ j, j < m → μ.ei (R i) j = g i j
set_option maxRecDepth 100000 in
set_option maxHeartbeats 1000000 in
theorem k_X9_known (l : Launch) (G : Gx) (x9 : Nat) (μ : Mem) (hk : μ.kd x9 % 32 = 10) (g : Nat → Nat → Int32) (h1 : I2 μ x9 298 3 3 g) (x y : Int32) : Kon l yX9_known cX9_known 3 (some .int) 3 0 0 66 G [.ref x9, .int x, .int y] μ (pI fun v μ' => (pairC x y = 0 ∧ v = g (cl x) (cl y) ∧ μ' = μ.sfi 290 x9 0) ∨ (¬ pairC x y = 0 ∧ v = 0 ∧ μ' = μ.sfi 290 x9 (pairC x y))) noX := by
  refine Kon.ofG (by decide +kernel) (Nat.le_of_ble_eq_true rfl) (Nat.le_of_ble_eq_true rfl) (fun Z hZG C E NT MT => ?_)
  subst hZG
  have C : Cx Z RX9 cX9_known 3 0 0 66 := C
  show HW Z 0 0 0 [some (.ref x9), some (.int x), some (.int y)] [] μ
  obtain ⟨A, R, q1, q2, q3, q4, q5⟩ := h1
  refine h_al_g C dX9_known_0 rfl rfl rfv_r ?_
  refine h_iload_g C dX9_known_1 rfl rfl ?_
  refine h_iload_g C dX9_known_2 rfl rfl ?_
  refine h_callS2 C (k_X9_pair Z.l Z.G _ _ _) cw_X9_224 st_X9_pair dX9_known_3 (by first | decide | exact Nat.le_of_ble_eq_true rfl) (by decide) (by decide) (by decide) (by decide) (kI fun r1 μ1 hp1 => ?_) kN
  obtain ⟨rfl, rfl⟩ := hp1
  refine h_callV1 (ci := 9) C (k_X9_isWrong Z.l Z.G x9 _ hk _) cw_X9_215 im_X9_isWrong sl_X9_isWrong rfl (by decide) hk dX9_known_6 (by first | decide | exact Nat.le_of_ble_eq_true rfl) (by decide) (by decide) (by decide) (by decide) (kB (fun μ2 hp2 => ?_) (fun μ2 hp2 => ?_)) kN
  · obtain ⟨hc, rfl⟩ := hp2
    refine h_if_eq (tgt := 14) C dX9_known_9 (by decide) (fun c1 => absurd c1 (by decide)) (fun c1 => ?_)
    refine h_iconst (v := 0) C dX9_known_12 (by decide) ?_
    refine h_iret C E dX9_known_13 (by decide) (by decide) ?_
    exact ⟨_, rfl, Or.inr ⟨hc, rfl, rfl⟩⟩
  · obtain ⟨hc, rfl⟩ := hp2
    have hxy : isE x ∧ isE y := Decidable.byContradiction fun z => absurd ((pairC_1 z).symm.trans hc) (by decide)
    obtain ⟨hx, hy⟩ := hxy
    obtain ⟨w1, w2, w3, w4⟩ := q5 (cl x) hx.lt
    refine h_if_eq (tgt := 14) C dX9_known_9 (by decide) (fun c2 => ?_) (fun c2 => absurd (by decide) c2)
    refine h_al_g C dX9_known_14 rfl rfl rfv_r ?_
    refine gs_X9_37 C dX9_known_15 hk q1 ?_
    refine h_iload_g C dX9_known_18 rfl rfl ?_
    refine h_aald (r := some _) C dX9_known_19 ⟨by show 13 < μ.kd A % 32; omega, by show μ.kd A % 32 < 23; omega⟩ (by show vp_in _ (μ.ln A); rw [q4]; exact vp_isE hx.1 hx.2 (by decide)) (show μ.er A x.toNatClampNeg = some (R (cl x)) from w1) ?_
    refine h_iload_g C dX9_known_20 rfl rfl ?_
    refine h_iald C dX9_known_21 w2 (by show vp_in _ (μ.ln (R (cl x))); rw [w3]; exact vp_isE hy.1 hy.2 (by decide)) (show μ.ei (R (cl x)) y.toNatClampNeg = g (cl x) (cl y) from w4 _ hy.lt) ?_
    refine h_iret C E dX9_known_22 (by decide) (by decide) ?_
    exact ⟨_, rfl, Or.inl ⟨hc, rfl, by rw [hc]⟩⟩

set_option maxRecDepth 100000 in
set_option maxHeartbeats 1000000 in
theorem k_X9_waiting (l : Launch) (G : Gx) (x9 : Nat) (μ : Mem) (hk : μ.kd x9 % 32 = 10) (g : Nat → Nat → Int32) (h1 : I2 μ x9 307 3 3 g) (x y : Int32) : Kon l yX9_waiting cX9_waiting 3 (some .int) 3 0 0 66 G [.ref x9, .int x, .int y] μ (pI fun v μ' => (pairC x y = 0 ∧ v = g (cl x) (cl y) ∧ μ' = μ.sfi 290 x9 0) ∨ (¬ pairC x y = 0 ∧ v = 0 ∧ μ' = μ.sfi 290 x9 (pairC x y))) noX := by
  refine Kon.ofG (by decide +kernel) (Nat.le_of_ble_eq_true rfl) (Nat.le_of_ble_eq_true rfl) (fun Z hZG C E NT MT => ?_)
  subst hZG
  have C : Cx Z RX9 cX9_waiting 3 0 0 66 := C
  show HW Z 0 0 0 [some (.ref x9), some (.int x), some (.int y)] [] μ
  obtain ⟨A, R, q1, q2, q3, q4, q5⟩ := h1
  refine h_al_g C dX9_waiting_0 rfl rfl rfv_r ?_
  refine h_iload_g C dX9_waiting_1 rfl rfl ?_
  refine h_iload_g C dX9_waiting_2 rfl rfl ?_
  refine h_callS2 C (k_X9_pair Z.l Z.G _ _ _) cw_X9_224 st_X9_pair dX9_waiting_3 (by first | decide | exact Nat.le_of_ble_eq_true rfl) (by decide) (by decide) (by decide) (by decide) (kI fun r1 μ1 hp1 => ?_) kN
  obtain ⟨rfl, rfl⟩ := hp1
  refine h_callV1 (ci := 9) C (k_X9_isWrong Z.l Z.G x9 _ hk _) cw_X9_215 im_X9_isWrong sl_X9_isWrong rfl (by decide) hk dX9_waiting_6 (by first | decide | exact Nat.le_of_ble_eq_true rfl) (by decide) (by decide) (by decide) (by decide) (kB (fun μ2 hp2 => ?_) (fun μ2 hp2 => ?_)) kN
  · obtain ⟨hc, rfl⟩ := hp2
    refine h_if_eq (tgt := 14) C dX9_waiting_9 (by decide) (fun c1 => absurd c1 (by decide)) (fun c1 => ?_)
    refine h_iconst (v := 0) C dX9_waiting_12 (by decide) ?_
    refine h_iret C E dX9_waiting_13 (by decide) (by decide) ?_
    exact ⟨_, rfl, Or.inr ⟨hc, rfl, rfl⟩⟩
  · obtain ⟨hc, rfl⟩ := hp2
    have hxy : isE x ∧ isE y := Decidable.byContradiction fun z => absurd ((pairC_1 z).symm.trans hc) (by decide)
    obtain ⟨hx, hy⟩ := hxy
    obtain ⟨w1, w2, w3, w4⟩ := q5 (cl x) hx.lt
    refine h_if_eq (tgt := 14) C dX9_waiting_9 (by decide) (fun c2 => ?_) (fun c2 => absurd (by decide) c2)
    refine h_al_g C dX9_waiting_14 rfl rfl rfv_r ?_
    refine gs_X9_64 C dX9_waiting_15 hk q1 ?_
    refine h_iload_g C dX9_waiting_18 rfl rfl ?_
    refine h_aald (r := some _) C dX9_waiting_19 ⟨by show 13 < μ.kd A % 32; omega, by show μ.kd A % 32 < 23; omega⟩ (by show vp_in _ (μ.ln A); rw [q4]; exact vp_isE hx.1 hx.2 (by decide)) (show μ.er A x.toNatClampNeg = some (R (cl x)) from w1) ?_
    refine h_iload_g C dX9_waiting_20 rfl rfl ?_
    refine h_iald C dX9_waiting_21 w2 (by show vp_in _ (μ.ln (R (cl x))); rw [w3]; exact vp_isE hy.1 hy.2 (by decide)) (show μ.ei (R (cl x)) y.toNatClampNeg = g (cl x) (cl y) from w4 _ hy.lt) ?_
    refine h_iret C E dX9_waiting_22 (by decide) (by decide) ?_
    exact ⟨_, rfl, Or.inl ⟨hc, rfl, by rw [hc]⟩⟩

set_option maxRecDepth 100000 in
set_option maxHeartbeats 1000000 in
theorem k_X9_flight (l : Launch) (G : Gx) (x9 : Nat) (μ : Mem) (hk : μ.kd x9 % 32 = 10) (g : Nat → Nat → Int32) (h1 : I2 μ x9 301 3 3 g) (x y : Int32) : Kon l yX9_flight cX9_flight 3 (some .int) 3 0 0 66 G [.ref x9, .int x, .int y] μ (pI fun v μ' => (pairC x y = 0 ∧ v = g (cl x) (cl y) ∧ μ' = μ.sfi 290 x9 0) ∨ (¬ pairC x y = 0 ∧ v = 0 ∧ μ' = μ.sfi 290 x9 (pairC x y))) noX := by
  refine Kon.ofG (by decide +kernel) (Nat.le_of_ble_eq_true rfl) (Nat.le_of_ble_eq_true rfl) (fun Z hZG C E NT MT => ?_)
  subst hZG
  have C : Cx Z RX9 cX9_flight 3 0 0 66 := C
  show HW Z 0 0 0 [some (.ref x9), some (.int x), some (.int y)] [] μ
  obtain ⟨A, R, q1, q2, q3, q4, q5⟩ := h1
  refine h_al_g C dX9_flight_0 rfl rfl rfv_r ?_
  refine h_iload_g C dX9_flight_1 rfl rfl ?_
  refine h_iload_g C dX9_flight_2 rfl rfl ?_
  refine h_callS2 C (k_X9_pair Z.l Z.G _ _ _) cw_X9_224 st_X9_pair dX9_flight_3 (by first | decide | exact Nat.le_of_ble_eq_true rfl) (by decide) (by decide) (by decide) (by decide) (kI fun r1 μ1 hp1 => ?_) kN
  obtain ⟨rfl, rfl⟩ := hp1
  refine h_callV1 (ci := 9) C (k_X9_isWrong Z.l Z.G x9 _ hk _) cw_X9_215 im_X9_isWrong sl_X9_isWrong rfl (by decide) hk dX9_flight_6 (by first | decide | exact Nat.le_of_ble_eq_true rfl) (by decide) (by decide) (by decide) (by decide) (kB (fun μ2 hp2 => ?_) (fun μ2 hp2 => ?_)) kN
  · obtain ⟨hc, rfl⟩ := hp2
    refine h_if_eq (tgt := 14) C dX9_flight_9 (by decide) (fun c1 => absurd c1 (by decide)) (fun c1 => ?_)
    refine h_iconst (v := 0) C dX9_flight_12 (by decide) ?_
    refine h_iret C E dX9_flight_13 (by decide) (by decide) ?_
    exact ⟨_, rfl, Or.inr ⟨hc, rfl, rfl⟩⟩
  · obtain ⟨hc, rfl⟩ := hp2
    have hxy : isE x ∧ isE y := Decidable.byContradiction fun z => absurd ((pairC_1 z).symm.trans hc) (by decide)
    obtain ⟨hx, hy⟩ := hxy
    obtain ⟨w1, w2, w3, w4⟩ := q5 (cl x) hx.lt
    refine h_if_eq (tgt := 14) C dX9_flight_9 (by decide) (fun c2 => ?_) (fun c2 => absurd (by decide) c2)
    refine h_al_g C dX9_flight_14 rfl rfl rfv_r ?_
    refine gs_X9_46 C dX9_flight_15 hk q1 ?_
    refine h_iload_g C dX9_flight_18 rfl rfl ?_
    refine h_aald (r := some _) C dX9_flight_19 ⟨by show 13 < μ.kd A % 32; omega, by show μ.kd A % 32 < 23; omega⟩ (by show vp_in _ (μ.ln A); rw [q4]; exact vp_isE hx.1 hx.2 (by decide)) (show μ.er A x.toNatClampNeg = some (R (cl x)) from w1) ?_
    refine h_iload_g C dX9_flight_20 rfl rfl ?_
    refine h_iald C dX9_flight_21 w2 (by show vp_in _ (μ.ln (R (cl x))); rw [w3]; exact vp_isE hy.1 hy.2 (by decide)) (show μ.ei (R (cl x)) y.toNatClampNeg = g (cl x) (cl y) from w4 _ hy.lt) ?_
    refine h_iret C E dX9_flight_22 (by decide) (by decide) ?_
    exact ⟨_, rfl, Or.inl ⟨hc, rfl, by rw [hc]⟩⟩

set_option maxRecDepth 100000 in
set_option maxHeartbeats 1000000 in
theorem k_X9_isFresh (l : Launch) (G : Gx) (x9 : Nat) (μ : Mem) (hk : μ.kd x9 % 32 = 10) (g h : Nat → Nat → Int32) (t : Int32) (ht : μ.fi 288 x9 = t) (h1 : I2 μ x9 301 3 3 g) (h2 : I2 μ x9 304 3 3 h) (a b : Nat) (ha : a < 3) (hb : b < 3) : Kon l yX9_isFresh cX9_isFresh 3 (some .boolean) 0 0 0 0 G [.ref x9, .int (nI a), .int (nI b)] μ (pB (fun μ' => μ = μ' ∧ ¬ g a b = -1 ∧ t - h a b < 5) (fun μ' => μ = μ' ∧ ¬ (¬ g a b = -1 ∧ t - h a b < 5))) noX := by
  refine Kon.ofG (by decide +kernel) (Nat.le_of_ble_eq_true rfl) (Nat.le_of_ble_eq_true rfl) (fun Z hZG C E NT MT => ?_)
  subst hZG
  have C : Cx Z RX9 cX9_isFresh 0 0 0 0 := C
  show HW Z 0 0 0 [some (.ref x9), some (.int (nI a)), some (.int (nI b))] [] μ
  obtain ⟨A, R, q1, q2, q3, q4, q5⟩ := h1
  obtain ⟨B, T, p1, p2, p3, p4, p5⟩ := h2
  obtain ⟨w1, w2, w3, w4⟩ := q5 a ha
  obtain ⟨u1, u2, u3, u4⟩ := p5 a ha
  refine h_al_g C dX9_isFresh_0 rfl rfl rfv_r ?_
  refine gs_X9_46 C dX9_isFresh_1 hk q1 ?_
  refine h_iload_g C dX9_isFresh_4 rfl rfl ?_
  refine h_aald (r := some _) C dX9_isFresh_5 ⟨by omega, by omega⟩ (by rw [q4]; exact vp_in_nI ha (by decide)) (by rw [nI_clamp (by omega)]; exact w1) ?_
  refine h_iload_g C dX9_isFresh_6 rfl rfl ?_
  refine h_iald C dX9_isFresh_7 w2 (by rw [w3]; exact vp_in_nI hb (by decide)) (show _ = g a b from by rw [nI_clamp (by omega)]; exact w4 b hb) ?_
  refine h_iconst (v := (-1)) C dX9_isFresh_8 (by decide) ?_
  refine h_icmp_eq (tgt := 33) C dX9_isFresh_9 (by decide) (fun c1 => ?_) (fun c1 => ?_)
  · refine h_iconst (v := 0) C dX9_isFresh_33 (by decide) ?_
    refine h_zret C E dX9_isFresh_34 (by decide) (by decide) (by first | exact Or.inl rfl | exact Or.inr rfl) ?_
    exact Or.inr ⟨rfl, rfl, fun z => z.1 c1⟩
  · refine h_al_g C dX9_isFresh_12 rfl rfl rfv_r ?_
    refine gf_X9_129 C dX9_isFresh_13 hk ht ?_
    refine h_al_g C dX9_isFresh_16 rfl rfl rfv_r ?_
    refine gs_X9_55 C dX9_isFresh_17 hk p1 ?_
    refine h_iload_g C dX9_isFresh_20 rfl rfl ?_
    refine h_aald (r := some _) C dX9_isFresh_21 ⟨by omega, by omega⟩ (by rw [p4]; exact vp_in_nI ha (by decide)) (by rw [nI_clamp (by omega)]; exact u1) ?_
    refine h_iload_g C dX9_isFresh_22 rfl rfl ?_
    refine h_iald C dX9_isFresh_23 u2 (by rw [u3]; exact vp_in_nI hb (by decide)) (show _ = h a b from by rw [nI_clamp (by omega)]; exact u4 b hb) ?_
    refine h_isub C dX9_isFresh_24 ?_
    refine h_iconst (v := 5) C dX9_isFresh_25 (by decide) ?_
    refine h_icmp_ge (tgt := 33) C dX9_isFresh_26 (by decide) (fun c2 => ?_) (fun c2 => ?_)
    · refine h_iconst (v := 0) C dX9_isFresh_33 (by decide) ?_
      refine h_zret C E dX9_isFresh_34 (by decide) (by decide) (by first | exact Or.inl rfl | exact Or.inr rfl) ?_
      exact Or.inr ⟨rfl, rfl, fun z => absurd z.2 (Int32.not_lt.mpr c2)⟩
    · refine h_iconst (v := 1) C dX9_isFresh_29 (by decide) ?_
      refine h_goto (tgt := 34) C dX9_isFresh_30 (by decide) ?_
      refine h_zret C E dX9_isFresh_34 (by decide) (by decide) (by first | exact Or.inl rfl | exact Or.inr rfl) ?_
      exact Or.inl ⟨rfl, rfl, c1, Int32.not_le.mp c2⟩

set_option maxRecDepth 100000 in
set_option maxHeartbeats 1000000 in
theorem k_X9_hasCookie (l : Launch) (G : Gx) (x9 : Nat) (μ : Mem) (hk : μ.kd x9 % 32 = 10) (g h : Nat → Nat → Int32) (t : Int32) (ht : μ.fi 288 x9 = t) (h1 : I2 μ x9 305 3 3 g) (h2 : I2 μ x9 306 3 3 h) (a b : Nat) (ha : a < 3) (hb : b < 3) : Kon l yX9_hasCookie cX9_hasCookie 3 (some .boolean) 0 0 0 0 G [.ref x9, .int (nI a), .int (nI b)] μ (pB (fun μ' => μ = μ' ∧ ¬ g a b = -1 ∧ t - h a b < 60) (fun μ' => μ = μ' ∧ ¬ (¬ g a b = -1 ∧ t - h a b < 60))) noX := by
  refine Kon.ofG (by decide +kernel) (Nat.le_of_ble_eq_true rfl) (Nat.le_of_ble_eq_true rfl) (fun Z hZG C E NT MT => ?_)
  subst hZG
  have C : Cx Z RX9 cX9_hasCookie 0 0 0 0 := C
  show HW Z 0 0 0 [some (.ref x9), some (.int (nI a)), some (.int (nI b))] [] μ
  obtain ⟨A, R, q1, q2, q3, q4, q5⟩ := h1
  obtain ⟨B, T, p1, p2, p3, p4, p5⟩ := h2
  obtain ⟨w1, w2, w3, w4⟩ := q5 a ha
  obtain ⟨u1, u2, u3, u4⟩ := p5 a ha
  refine h_al_g C dX9_hasCookie_0 rfl rfl rfv_r ?_
  refine gs_X9_58 C dX9_hasCookie_1 hk q1 ?_
  refine h_iload_g C dX9_hasCookie_4 rfl rfl ?_
  refine h_aald (r := some _) C dX9_hasCookie_5 ⟨by omega, by omega⟩ (by rw [q4]; exact vp_in_nI ha (by decide)) (by rw [nI_clamp (by omega)]; exact w1) ?_
  refine h_iload_g C dX9_hasCookie_6 rfl rfl ?_
  refine h_iald C dX9_hasCookie_7 w2 (by rw [w3]; exact vp_in_nI hb (by decide)) (show _ = g a b from by rw [nI_clamp (by omega)]; exact w4 b hb) ?_
  refine h_iconst (v := (-1)) C dX9_hasCookie_8 (by decide) ?_
  refine h_icmp_eq (tgt := 34) C dX9_hasCookie_9 (by decide) (fun c1 => ?_) (fun c1 => ?_)
  · refine h_iconst (v := 0) C dX9_hasCookie_34 (by decide) ?_
    refine h_zret C E dX9_hasCookie_35 (by decide) (by decide) (by first | exact Or.inl rfl | exact Or.inr rfl) ?_
    exact Or.inr ⟨rfl, rfl, fun z => z.1 c1⟩
  · refine h_al_g C dX9_hasCookie_12 rfl rfl rfv_r ?_
    refine gf_X9_129 C dX9_hasCookie_13 hk ht ?_
    refine h_al_g C dX9_hasCookie_16 rfl rfl rfv_r ?_
    refine gs_X9_61 C dX9_hasCookie_17 hk p1 ?_
    refine h_iload_g C dX9_hasCookie_20 rfl rfl ?_
    refine h_aald (r := some _) C dX9_hasCookie_21 ⟨by omega, by omega⟩ (by rw [p4]; exact vp_in_nI ha (by decide)) (by rw [nI_clamp (by omega)]; exact u1) ?_
    refine h_iload_g C dX9_hasCookie_22 rfl rfl ?_
    refine h_iald C dX9_hasCookie_23 u2 (by rw [u3]; exact vp_in_nI hb (by decide)) (show _ = h a b from by rw [nI_clamp (by omega)]; exact u4 b hb) ?_
    refine h_isub C dX9_hasCookie_24 ?_
    refine h_bipush (v := 60) C dX9_hasCookie_25 (by decide) ?_
    refine h_icmp_ge (tgt := 34) C dX9_hasCookie_27 (by decide) (fun c2 => ?_) (fun c2 => ?_)
    · refine h_iconst (v := 0) C dX9_hasCookie_34 (by decide) ?_
      refine h_zret C E dX9_hasCookie_35 (by decide) (by decide) (by first | exact Or.inl rfl | exact Or.inr rfl) ?_
      exact Or.inr ⟨rfl, rfl, fun z => absurd z.2 (Int32.not_lt.mpr c2)⟩
    · refine h_iconst (v := 1) C dX9_hasCookie_30 (by decide) ?_
      refine h_goto (tgt := 35) C dX9_hasCookie_31 (by decide) ?_
      refine h_zret C E dX9_hasCookie_35 (by decide) (by decide) (by first | exact Or.inl rfl | exact Or.inr rfl) ?_
      exact Or.inl ⟨rfl, rfl, c1, Int32.not_le.mp c2⟩

end
