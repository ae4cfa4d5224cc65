section
theorem h_abs {Z : Zx} {k n pc : Nat} {L : List (Option Value)} {st : List Value} {μ : Mem} (kk : ∀ μ' : Mem, μ' = μ → HW Z k n pc L st μ') : HW Z k n pc L st μ := kk μ rfl
theorem kd_sfi' {μ μ' : Mem} {f a q : Nat} {v : Int32} (e : μ' = μ.sfi f a v) : μ'.kd q = μ.kd q := by rw [e]; rfl
theorem kd_sfr' {μ μ' : Mem} {f a q : Nat} {v : Option Nat} (e : μ' = μ.sfr f a v) : μ'.kd q = μ.kd q := by rw [e]; rfl
theorem kd_sfl' {μ μ' : Mem} {f a q : Nat} {v : Int64} (e : μ' = μ.sfl f a v) : μ'.kd q = μ.kd q := by rw [e]; rfl
theorem fk_sfi {W : Nat → Prop} {μ0 μ μ' : Mem} {f a : Nat} {v : Int32} (h : FrK W μ0 μ) (e : μ' = μ.sfi f a v) (hw : W (μ.kd a)) : FrK W μ0 μ' := by rw [e]; exact h.tr (FrK.sfi hw)
theorem fk_sfr {W : Nat → Prop} {μ0 μ μ' : Mem} {f a : Nat} {v : Option Nat} (h : FrK W μ0 μ) (e : μ' = μ.sfr f a v) (hw : W (μ.kd a)) : FrK W μ0 μ' := by rw [e]; exact h.tr (FrK.sfr hw)
theorem fk_sfl {W : Nat → Prop} {μ0 μ μ' : Mem} {f a : Nat} {v : Int64} (h : FrK W μ0 μ) (e : μ' = μ.sfl f a v) (hw : W (μ.kd a)) : FrK W μ0 μ' := by rw [e]; exact h.tr (FrK.sfl hw)
theorem fi_at {μ μ' : Mem} {f a : Nat} {v : Int32} (e : μ' = μ.sfi f a v) : μ'.fi f a = v := by rw [e]; exact u2_eq
theorem fi_ap {μ μ' : Mem} {f a g b : Nat} {v : Int32} (e : μ' = μ.sfi f a v) (h : g ≠ f ∨ b ≠ a) : μ'.fi g b = μ.fi g b := by
  rw [e, z_fi_sfi]
  rcases h with h | h
  · rw [if_neg h]
  · rw [if_neg h, ite_self]
theorem fr_at {μ μ' : Mem} {f a : Nat} {v : Option Nat} (e : μ' = μ.sfr f a v) : μ'.fr f a = v := by rw [e]; exact u2_eq
theorem fr_ap {μ μ' : Mem} {f a g b : Nat} {v : Option Nat} (e : μ' = μ.sfr f a v) (h : g ≠ f ∨ b ≠ a) : μ'.fr g b = μ.fr g b := by
  rw [e, z_fr_sfr]
  rcases h with h | h
  · rw [if_neg h]
  · rw [if_neg h, ite_self]
theorem fi_r {μ μ' : Mem} {f a : Nat} {v : Option Nat} (e : μ' = μ.sfr f a v) : μ'.fi = μ.fi := by rw [e]; rfl
theorem fr_i {μ μ' : Mem} {f a : Nat} {v : Int32} (e : μ' = μ.sfi f a v) : μ'.fr = μ.fr := by rw [e]; rfl
theorem fi_l {μ μ' : Mem} {f a : Nat} {v : Int64} (e : μ' = μ.sfl f a v) : μ'.fi = μ.fi := by rw [e]; rfl
theorem fl_i {μ μ' : Mem} {f a : Nat} {v : Int32} (e : μ' = μ.sfi f a v) : μ'.fl = μ.fl := by rw [e]; rfl
theorem fl_at {μ μ' : Mem} {f a : Nat} {v : Int64} (e : μ' = μ.sfl f a v) : μ'.fl f a = v := by rw [e]; exact u2_eq
theorem ln_i {μ μ' : Mem} {f a : Nat} {v : Int32} (e : μ' = μ.sfi f a v) : μ'.ln = μ.ln := by rw [e]; rfl
theorem ln_r {μ μ' : Mem} {f a : Nat} {v : Option Nat} (e : μ' = μ.sfr f a v) : μ'.ln = μ.ln := by rw [e]; rfl
theorem ei_i {μ μ' : Mem} {f a : Nat} {v : Int32} (e : μ' = μ.sfi f a v) : μ'.ei = μ.ei := by rw [e]; rfl
theorem ei_r {μ μ' : Mem} {f a : Nat} {v : Option Nat} (e : μ' = μ.sfr f a v) : μ'.ei = μ.ei := by rw [e]; rfl

set_option maxRecDepth 100000 in
set_option maxHeartbeats 4000000 in
theorem k_X1_init (l : Launch) (G : Gx) (q : Nat) (a b c e : Int32) (μ : Mem) (hk : μ.kd q % 32 = 3) : Kon l yX1_init cX1_init 5 none 1 0 0 12 G [.ref q, .int a, .int b, .int c, .int e] μ (pV fun μ' => μ'.kd q = μ.kd q ∧ FrK (fun k => k = μ.kd q) μ μ' ∧ μ'.fi 64 q = a ∧ μ'.fi 65 q = b ∧ μ'.fi 66 q = c ∧ μ'.fi 67 q = e) noX := by
  refine Kon.ofG (by decide +kernel) (Nat.le_of_ble_eq_true rfl) (Nat.le_of_ble_eq_true rfl) (fun Z hZG C E NT MT => ?_)
  subst hZG
  have C : Cx Z RX1 cX1_init 1 0 0 12 := C
  show HW Z 0 0 0 [some (.ref q), some (.int a), some (.int b), some (.int c), some (.int e)] [] μ
  refine h_al_g C dX1_init_0 rfl rfl rfv_r ?_
  refine h_objInit C ol_X1_1 im_obj cd_obj dX1_init_1 (by decide) (by decide) ?_
  refine h_al_g C dX1_init_4 rfl rfl rfv_r ?_
  refine h_iload_g C dX1_init_5 rfl rfl ?_
  refine pf_X1_7 C dX1_init_6 hk MT ?_
  refine h_abs (fun m1 e1 => ?_)
  have k1 : m1.kd q % 32 = 3 := by rw [kd_sfi' e1]; exact hk
  have w1 := fk_sfi (FrK.rf (W := fun k => k = μ.kd q)) e1 rfl
  have kq1 : m1.kd q = μ.kd q := kd_sfi' e1
  refine h_al_g C dX1_init_9 rfl rfl rfv_r ?_
  refine h_iload_g C dX1_init_10 rfl rfl ?_
  refine pf_X1_13 C dX1_init_11 k1 MT ?_
  refine h_abs (fun m2 e2 => ?_)
  have k2 : m2.kd q % 32 = 3 := by rw [kd_sfi' e2]; exact k1
  have w2 := fk_sfi w1 e2 kq1
  have kq2 : m2.kd q = μ.kd q := (kd_sfi' e2).trans kq1
  refine h_al_g C dX1_init_14 rfl rfl rfv_r ?_
  refine h_iload_g C dX1_init_15 rfl rfl ?_
  refine pf_X1_16 C dX1_init_16 k2 MT ?_
  refine h_abs (fun m3 e3 => ?_)
  have k3 : m3.kd q % 32 = 3 := by rw [kd_sfi' e3]; exact k2
  have w3 := fk_sfi w2 e3 kq2
  have kq3 : m3.kd q = μ.kd q := (kd_sfi' e3).trans kq2
  refine h_al_g C dX1_init_19 rfl rfl rfv_r ?_
  refine h_iload_w C dX1_init_20 rfl ?_
  refine pf_X1_19 C dX1_init_22 k3 MT ?_
  refine h_abs (fun m4 e4 => ?_)
  have k4 : m4.kd q % 32 = 3 := by rw [kd_sfi' e4]; exact k3
  have w4 := fk_sfi w3 e4 kq3
  have kq4 : m4.kd q = μ.kd q := (kd_sfi' e4).trans kq3
  refine h_ret C E dX1_init_25 (by decide) (by decide) ?_
  exact ⟨rfl, kq4, w4, ((fi_ap e4 (Or.inl (by decide))).trans ((fi_ap e3 (Or.inl (by decide))).trans ((fi_ap e2 (Or.inl (by decide))).trans (fi_at e1)))), ((fi_ap e4 (Or.inl (by decide))).trans ((fi_ap e3 (Or.inl (by decide))).trans (fi_at e2))), ((fi_ap e4 (Or.inl (by decide))).trans (fi_at e3)), (fi_at e4)⟩

set_option maxRecDepth 100000 in
set_option maxHeartbeats 4000000 in
theorem k_X5_init (l : Launch) (G : Gx) (q : Nat) (a b c e : Int32) (μ : Mem) (hk : μ.kd q % 32 = 6) : Kon l yX5_init cX5_init 5 none 1 0 0 12 G [.ref q, .int a, .int b, .int c, .int e] μ (pV fun μ' => μ'.kd q = μ.kd q ∧ FrK (fun k => k = μ.kd q) μ μ' ∧ μ'.fi 160 q = a ∧ μ'.fi 161 q = b ∧ μ'.fi 162 q = c ∧ μ'.fi 163 q = e) noX := by
  refine Kon.ofG (by decide +kernel) (Nat.le_of_ble_eq_true rfl) (Nat.le_of_ble_eq_true rfl) (fun Z hZG C E NT MT => ?_)
  subst hZG
  have C : Cx Z RX5 cX5_init 1 0 0 12 := C
  show HW Z 0 0 0 [some (.ref q), some (.int a), some (.int b), some (.int c), some (.int e)] [] μ
  refine h_al_g C dX5_init_0 rfl rfl rfv_r ?_
  refine h_objInit C ol_X5_1 im_obj cd_obj dX5_init_1 (by decide) (by decide) ?_
  refine h_al_g C dX5_init_4 rfl rfl rfv_r ?_
  refine h_iload_g C dX5_init_5 rfl rfl ?_
  refine pf_X5_7 C dX5_init_6 hk MT ?_
  refine h_abs (fun m1 e1 => ?_)
  have k1 : m1.kd q % 32 = 6 := by rw [kd_sfi' e1]; exact hk
  have w1 := fk_sfi (FrK.rf (W := fun k => k = μ.kd q)) e1 rfl
  have kq1 : m1.kd q = μ.kd q := kd_sfi' e1
  refine h_al_g C dX5_init_9 rfl rfl rfv_r ?_
  refine h_iload_g C dX5_init_10 rfl rfl ?_
  refine pf_X5_13 C dX5_init_11 k1 MT ?_
  refine h_abs (fun m2 e2 => ?_)
  have k2 : m2.kd q % 32 = 6 := by rw [kd_sfi' e2]; exact k1
  have w2 := fk_sfi w1 e2 kq1
  have kq2 : m2.kd q = μ.kd q := (kd_sfi' e2).trans kq1
  refine h_al_g C dX5_init_14 rfl rfl rfv_r ?_
  refine h_iload_g C dX5_init_15 rfl rfl ?_
  refine pf_X5_16 C dX5_init_16 k2 MT ?_
  refine h_abs (fun m3 e3 => ?_)
  have k3 : m3.kd q % 32 = 6 := by rw [kd_sfi' e3]; exact k2
  have w3 := fk_sfi w2 e3 kq2
  have kq3 : m3.kd q = μ.kd q := (kd_sfi' e3).trans kq2
  refine h_al_g C dX5_init_19 rfl rfl rfv_r ?_
  refine h_iload_w C dX5_init_20 rfl ?_
  refine pf_X5_19 C dX5_init_22 k3 MT ?_
  refine h_abs (fun m4 e4 => ?_)
  have k4 : m4.kd q % 32 = 6 := by rw [kd_sfi' e4]; exact k3
  have w4 := fk_sfi w3 e4 kq3
  have kq4 : m4.kd q = μ.kd q := (kd_sfi' e4).trans kq3
  refine h_ret C E dX5_init_25 (by decide) (by decide) ?_
  exact ⟨rfl, kq4, w4, ((fi_ap e4 (Or.inl (by decide))).trans ((fi_ap e3 (Or.inl (by decide))).trans ((fi_ap e2 (Or.inl (by decide))).trans (fi_at e1)))), ((fi_ap e4 (Or.inl (by decide))).trans ((fi_ap e3 (Or.inl (by decide))).trans (fi_at e2))), ((fi_ap e4 (Or.inl (by decide))).trans (fi_at e3)), (fi_at e4)⟩

set_option maxRecDepth 100000 in
set_option maxHeartbeats 4000000 in
theorem k_X6_init (l : Launch) (G : Gx) (q : Nat) (a b c : Int32) (μ : Mem) (hk : μ.kd q % 32 = 7) : Kon l yX6_init cX6_init 4 none 1 0 0 12 G [.ref q, .int a, .int b, .int c] μ (pV fun μ' => μ'.kd q = μ.kd q ∧ FrK (fun k => k = μ.kd q) μ μ' ∧ μ'.fi 192 q = a ∧ μ'.fi 193 q = b ∧ μ'.fi 194 q = c) noX := by
  refine Kon.ofG (by decide +kernel) (Nat.le_of_ble_eq_true rfl) (Nat.le_of_ble_eq_true rfl) (fun Z hZG C E NT MT => ?_)
  subst hZG
  have C : Cx Z RX6 cX6_init 1 0 0 12 := C
  show HW Z 0 0 0 [some (.ref q), some (.int a), some (.int b), some (.int c)] [] μ
  refine h_al_g C dX6_init_0 rfl rfl rfv_r ?_
  refine h_objInit C ol_X6_1 im_obj cd_obj dX6_init_1 (by decide) (by decide) ?_
  refine h_al_g C dX6_init_4 rfl rfl rfv_r ?_
  refine h_iload_g C dX6_init_5 rfl rfl ?_
  refine pf_X6_7 C dX6_init_6 hk MT ?_
  refine h_abs (fun m1 e1 => ?_)
  have k1 : m1.kd q % 32 = 7 := by rw [kd_sfi' e1]; exact hk
  have w1 := fk_sfi (FrK.rf (W := fun k => k = μ.kd q)) e1 rfl
  have kq1 : m1.kd q = μ.kd q := kd_sfi' e1
  refine h_al_g C dX6_init_9 rfl rfl rfv_r ?_
  refine h_iload_g C dX6_init_10 rfl rfl ?_
  refine pf_X6_13 C dX6_init_11 k1 MT ?_
  refine h_abs (fun m2 e2 => ?_)
  have k2 : m2.kd q % 32 = 7 := by rw [kd_sfi' e2]; exact k1
  have w2 := fk_sfi w1 e2 kq1
  have kq2 : m2.kd q = μ.kd q := (kd_sfi' e2).trans kq1
  refine h_al_g C dX6_init_14 rfl rfl rfv_r ?_
  refine h_iload_g C dX6_init_15 rfl rfl ?_
  refine pf_X6_16 C dX6_init_16 k2 ?_
  refine h_abs (fun m3 e3 => ?_)
  have k3 : m3.kd q % 32 = 7 := by rw [kd_sfi' e3]; exact k2
  have w3 := fk_sfi w2 e3 kq2
  have kq3 : m3.kd q = μ.kd q := (kd_sfi' e3).trans kq2
  refine h_ret C E dX6_init_19 (by decide) (by decide) ?_
  exact ⟨rfl, kq3, w3, ((fi_ap e3 (Or.inl (by decide))).trans ((fi_ap e2 (Or.inl (by decide))).trans (fi_at e1))), ((fi_ap e3 (Or.inl (by decide))).trans (fi_at e2)), (fi_at e3)⟩

set_option maxRecDepth 100000 in
set_option maxHeartbeats 4000000 in
theorem k_X7_init0 (l : Launch) (G : Gx) (q : Nat) (a b c : Int32) (K : Nat) (μ : Mem) (hk : μ.kd q % 32 = 8) (hK : K < 65521) : Kon l yX7_init cX7_init 6 none 3 0 0 68 G [.ref q, .int a, .int b, .int c, .int 0, .int (nI K)] μ (pV fun μ' => μ'.kd q = μ.kd q ∧ FrK (fun k => k = μ.kd q) μ μ' ∧ μ'.fi 224 q = a ∧ μ'.fi 225 q = b ∧ μ'.fi 226 q = c ∧ μ'.fi 227 q = 0 ∧ μ'.fi 228 q = nI (MIX [5, (K : Int), 1]) ∧ μ'.fi 229 q = nI (MIX [5, (K : Int), 0]) ∧ μ'.fi 230 q = 0 ∧ μ'.fi 231 q = 0 ∧ μ'.fi 232 q = -1 ∧ μ'.fl 233 q = 0) noX := by
  refine Kon.ofG (by decide +kernel) (Nat.le_of_ble_eq_true rfl) (Nat.le_of_ble_eq_true rfl) (fun Z hZG C E NT MT => ?_)
  subst hZG
  have C : Cx Z RX7 cX7_init 3 0 0 68 := C
  show HW Z 0 0 0 [some (.ref q), some (.int a), some (.int b), some (.int c), some (.int 0), some (.int (nI K))] [] μ
  refine h_al_g C dX7_init_0 rfl rfl rfv_r ?_
  refine h_objInit C ol_X7_3 im_obj cd_obj dX7_init_1 (by decide) (by decide) ?_
  refine h_al_g C dX7_init_4 rfl rfl rfv_r ?_
  refine h_iconst (v := 0) C dX7_init_5 (by decide) ?_
  refine pf_X7_9 C dX7_init_6 hk ?_
  refine h_abs (fun m1 e1 => ?_)
  have k1 : m1.kd q % 32 = 8 := by rw [kd_sfi' e1]; exact hk
  have w1 := fk_sfi (FrK.rf (W := fun k => k = μ.kd q)) e1 rfl
  have kq1 : m1.kd q = μ.kd q := kd_sfi' e1
  refine h_al_g C dX7_init_9 rfl rfl rfv_r ?_
  refine h_iconst (v := 0) C dX7_init_10 (by decide) ?_
  refine pf_X7_15 C dX7_init_11 k1 ?_
  refine h_abs (fun m2 e2 => ?_)
  have k2 : m2.kd q % 32 = 8 := by rw [kd_sfi' e2]; exact k1
  have w2 := fk_sfi w1 e2 kq1
  have kq2 : m2.kd q = μ.kd q := (kd_sfi' e2).trans kq1
  refine h_al_g C dX7_init_14 rfl rfl rfv_r ?_
  refine h_iconst (v := (-1)) C dX7_init_15 (by decide) ?_
  refine pf_X7_18 C dX7_init_16 k2 ?_
  refine h_abs (fun m3 e3 => ?_)
  have k3 : m3.kd q % 32 = 8 := by rw [kd_sfi' e3]; exact k2
  have w3 := fk_sfi w2 e3 kq2
  have kq3 : m3.kd q = μ.kd q := (kd_sfi' e3).trans kq2
  refine h_al_g C dX7_init_19 rfl rfl rfv_r ?_
  refine h_lconst (v := 0) C dX7_init_20 (by decide) ?_
  refine pf_X7_21 C dX7_init_21 k3 ?_
  refine h_abs (fun m4 e4 => ?_)
  have k4 : m4.kd q % 32 = 8 := by rw [kd_sfl' e4]; exact k3
  have w4 := fk_sfl w3 e4 kq3
  have kq4 : m4.kd q = μ.kd q := (kd_sfl' e4).trans kq3
  refine h_al_g C dX7_init_24 rfl rfl rfv_r ?_
  refine h_iload_g C dX7_init_25 rfl rfl ?_
  refine pf_X7_25 C dX7_init_26 k4 MT ?_
  refine h_abs (fun m5 e5 => ?_)
  have k5 : m5.kd q % 32 = 8 := by rw [kd_sfi' e5]; exact k4
  have w5 := fk_sfi w4 e5 kq4
  have kq5 : m5.kd q = μ.kd q := (kd_sfi' e5).trans kq4
  refine h_al_g C dX7_init_29 rfl rfl rfv_r ?_
  refine h_iload_g C dX7_init_30 rfl rfl ?_
  refine pf_X7_28 C dX7_init_31 k5 MT ?_
  refine h_abs (fun m6 e6 => ?_)
  have k6 : m6.kd q % 32 = 8 := by rw [kd_sfi' e6]; exact k5
  have w6 := fk_sfi w5 e6 kq5
  have kq6 : m6.kd q = μ.kd q := (kd_sfi' e6).trans kq5
  refine h_al_g C dX7_init_34 rfl rfl rfv_r ?_
  refine h_iload_g C dX7_init_35 rfl rfl ?_
  refine pf_X7_31 C dX7_init_36 k6 MT ?_
  refine h_abs (fun m7 e7 => ?_)
  have k7 : m7.kd q % 32 = 8 := by rw [kd_sfi' e7]; exact k6
  have w7 := fk_sfi w6 e7 kq6
  have kq7 : m7.kd q = μ.kd q := (kd_sfi' e7).trans kq6
  refine h_al_g C dX7_init_39 rfl rfl rfv_r ?_
  refine h_iload_w C dX7_init_40 rfl ?_
  refine pf_X7_34 C dX7_init_42 k7 MT (Or.inl rfl) ?_
  refine h_abs (fun m8 e8 => ?_)
  have k8 : m8.kd q % 32 = 8 := by rw [kd_sfi' e8]; exact k7
  have w8 := fk_sfi w7 e8 kq7
  have kq8 : m8.kd q = μ.kd q := (kd_sfi' e8).trans kq7
  refine h_al_g C dX7_init_45 rfl rfl rfv_r ?_
  refine h_iconst (v := 5) C dX7_init_46 (by decide) ?_
  refine h_iload_w C dX7_init_47 rfl ?_
  refine h_iload_w C dX7_init_49 rfl ?_
  refine h_if_eq (tgt := 58) C dX7_init_51 (by decide) (fun c1 => ?_) (fun c1 => absurd (by decide) c1)
  refine h_iconst (v := 1) C dX7_init_58 (by decide) ?_
  refine h_callS3 C (k_X4_mix Z.l Z.G _ _ _ _) cw_X7_38 st_X4_mix dX7_init_59 (by first | decide | exact Nat.le_of_ble_eq_true rfl) (by decide) (by decide) (by decide) (by decide) (kI fun r1 μ1 hp1 => ?_) kN
  obtain ⟨rfl, rfl⟩ := hp1
  rw [show MIX [(5 : Int32).toInt, (nI K).toInt, (1 : Int32).toInt] = MIX [5, (K : Int), 1] from by rw [nI_toInt (by omega)]; rfl]
  refine pf_X7_44 C dX7_init_62 k8 MT ?_
  refine h_abs (fun m9 e9 => ?_)
  have k9 : m9.kd q % 32 = 8 := by rw [kd_sfi' e9]; exact k8
  have w9 := fk_sfi w8 e9 kq8
  have kq9 : m9.kd q = μ.kd q := (kd_sfi' e9).trans kq8
  refine h_al_g C dX7_init_65 rfl rfl rfv_r ?_
  refine h_iconst (v := 5) C dX7_init_66 (by decide) ?_
  refine h_iload_w C dX7_init_67 rfl ?_
  refine h_iload_w C dX7_init_69 rfl ?_
  refine h_if_eq (tgt := 78) C dX7_init_71 (by decide) (fun c2 => ?_) (fun c2 => absurd (by decide) c2)
  refine h_iconst (v := 0) C dX7_init_78 (by decide) ?_
  refine h_callS3 C (k_X4_mix Z.l Z.G _ _ _ _) cw_X7_38 st_X4_mix dX7_init_79 (by first | decide | exact Nat.le_of_ble_eq_true rfl) (by decide) (by decide) (by decide) (by decide) (kI fun r2 μ2 hp2 => ?_) kN
  obtain ⟨rfl, rfl⟩ := hp2
  rw [show MIX [(5 : Int32).toInt, (nI K).toInt, (0 : Int32).toInt] = MIX [5, (K : Int), 0] from by rw [nI_toInt (by omega)]; rfl]
  refine pf_X7_47 C dX7_init_82 k9 MT ?_
  refine h_abs (fun m10 e10 => ?_)
  have k10 : m10.kd q % 32 = 8 := by rw [kd_sfi' e10]; exact k9
  have w10 := fk_sfi w9 e10 kq9
  have kq10 : m10.kd q = μ.kd q := (kd_sfi' e10).trans kq9
  refine h_ret C E dX7_init_85 (by decide) (by decide) ?_
  exact ⟨rfl, kq10, w10, ((fi_ap e10 (Or.inl (by decide))).trans ((fi_ap e9 (Or.inl (by decide))).trans ((fi_ap e8 (Or.inl (by decide))).trans ((fi_ap e7 (Or.inl (by decide))).trans ((fi_ap e6 (Or.inl (by decide))).trans (fi_at e5)))))), ((fi_ap e10 (Or.inl (by decide))).trans ((fi_ap e9 (Or.inl (by decide))).trans ((fi_ap e8 (Or.inl (by decide))).trans ((fi_ap e7 (Or.inl (by decide))).trans (fi_at e6))))), ((fi_ap e10 (Or.inl (by decide))).trans ((fi_ap e9 (Or.inl (by decide))).trans ((fi_ap e8 (Or.inl (by decide))).trans (fi_at e7)))), ((fi_ap e10 (Or.inl (by decide))).trans ((fi_ap e9 (Or.inl (by decide))).trans (fi_at e8))), ((fi_ap e10 (Or.inl (by decide))).trans (fi_at e9)), (fi_at e10), ((fi_ap e10 (Or.inl (by decide))).trans ((fi_ap e9 (Or.inl (by decide))).trans ((fi_ap e8 (Or.inl (by decide))).trans ((fi_ap e7 (Or.inl (by decide))).trans ((fi_ap e6 (Or.inl (by decide))).trans ((fi_ap e5 (Or.inl (by decide))).trans ((congrFun (congrFun (fi_l e4) _) _).trans ((fi_ap e3 (Or.inl (by decide))).trans ((fi_ap e2 (Or.inl (by decide))).trans (fi_at e1)))))))))), ((fi_ap e10 (Or.inl (by decide))).trans ((fi_ap e9 (Or.inl (by decide))).trans ((fi_ap e8 (Or.inl (by decide))).trans ((fi_ap e7 (Or.inl (by decide))).trans ((fi_ap e6 (Or.inl (by decide))).trans ((fi_ap e5 (Or.inl (by decide))).trans ((congrFun (congrFun (fi_l e4) _) _).trans ((fi_ap e3 (Or.inl (by decide))).trans (fi_at e2))))))))), ((fi_ap e10 (Or.inl (by decide))).trans ((fi_ap e9 (Or.inl (by decide))).trans ((fi_ap e8 (Or.inl (by decide))).trans ((fi_ap e7 (Or.inl (by decide))).trans ((fi_ap e6 (Or.inl (by decide))).trans ((fi_ap e5 (Or.inl (by decide))).trans ((congrFun (congrFun (fi_l e4) _) _).trans (fi_at e3)))))))), ((congrFun (congrFun (fl_i e10) _) _).trans ((congrFun (congrFun (fl_i e9) _) _).trans ((congrFun (congrFun (fl_i e8) _) _).trans ((congrFun (congrFun (fl_i e7) _) _).trans ((congrFun (congrFun (fl_i e6) _) _).trans ((congrFun (congrFun (fl_i e5) _) _).trans (fl_at e4)))))))⟩

set_option maxRecDepth 100000 in
set_option maxHeartbeats 4000000 in
theorem k_X7_init1 (l : Launch) (G : Gx) (q : Nat) (a b c : Int32) (K : Nat) (μ : Mem) (hk : μ.kd q % 32 = 8) (hK : K < 65521) : Kon l yX7_init cX7_init 6 none 3 0 0 68 G [.ref q, .int a, .int b, .int c, .int 1, .int (nI K)] μ (pV fun μ' => μ'.kd q = μ.kd q ∧ FrK (fun k => k = μ.kd q) μ μ' ∧ μ'.fi 224 q = a ∧ μ'.fi 225 q = b ∧ μ'.fi 226 q = c ∧ μ'.fi 227 q = 1 ∧ μ'.fi 228 q = nI (MIX [5, (K : Int), 0]) ∧ μ'.fi 229 q = nI (MIX [5, (K : Int), 1]) ∧ μ'.fi 230 q = 0 ∧ μ'.fi 231 q = 0 ∧ μ'.fi 232 q = -1 ∧ μ'.fl 233 q = 0) noX := by
  refine Kon.ofG (by decide +kernel) (Nat.le_of_ble_eq_true rfl) (Nat.le_of_ble_eq_true rfl) (fun Z hZG C E NT MT => ?_)
  subst hZG
  have C : Cx Z RX7 cX7_init 3 0 0 68 := C
  show HW Z 0 0 0 [some (.ref q), some (.int a), some (.int b), some (.int c), some (.int 1), some (.int (nI K))] [] μ
  refine h_al_g C dX7_init_0 rfl rfl rfv_r ?_
  refine h_objInit C ol_X7_3 im_obj cd_obj dX7_init_1 (by decide) (by decide) ?_
  refine h_al_g C dX7_init_4 rfl rfl rfv_r ?_
  refine h_iconst (v := 0) C dX7_init_5 (by decide) ?_
  refine pf_X7_9 C dX7_init_6 hk ?_
  refine h_abs (fun m1 e1 => ?_)
  have k1 : m1.kd q % 32 = 8 := by rw [kd_sfi' e1]; exact hk
  have w1 := fk_sfi (FrK.rf (W := fun k => k = μ.kd q)) e1 rfl
  have kq1 : m1.kd q = μ.kd q := kd_sfi' e1
  refine h_al_g C dX7_init_9 rfl rfl rfv_r ?_
  refine h_iconst (v := 0) C dX7_init_10 (by decide) ?_
  refine pf_X7_15 C dX7_init_11 k1 ?_
  refine h_abs (fun m2 e2 => ?_)
  have k2 : m2.kd q % 32 = 8 := by rw [kd_sfi' e2]; exact k1
  have w2 := fk_sfi w1 e2 kq1
  have kq2 : m2.kd q = μ.kd q := (kd_sfi' e2).trans kq1
  refine h_al_g C dX7_init_14 rfl rfl rfv_r ?_
  refine h_iconst (v := (-1)) C dX7_init_15 (by decide) ?_
  refine pf_X7_18 C dX7_init_16 k2 ?_
  refine h_abs (fun m3 e3 => ?_)
  have k3 : m3.kd q % 32 = 8 := by rw [kd_sfi' e3]; exact k2
  have w3 := fk_sfi w2 e3 kq2
  have kq3 : m3.kd q = μ.kd q := (kd_sfi' e3).trans kq2
  refine h_al_g C dX7_init_19 rfl rfl rfv_r ?_
  refine h_lconst (v := 0) C dX7_init_20 (by decide) ?_
  refine pf_X7_21 C dX7_init_21 k3 ?_
  refine h_abs (fun m4 e4 => ?_)
  have k4 : m4.kd q % 32 = 8 := by rw [kd_sfl' e4]; exact k3
  have w4 := fk_sfl w3 e4 kq3
  have kq4 : m4.kd q = μ.kd q := (kd_sfl' e4).trans kq3
  refine h_al_g C dX7_init_24 rfl rfl rfv_r ?_
  refine h_iload_g C dX7_init_25 rfl rfl ?_
  refine pf_X7_25 C dX7_init_26 k4 MT ?_
  refine h_abs (fun m5 e5 => ?_)
  have k5 : m5.kd q % 32 = 8 := by rw [kd_sfi' e5]; exact k4
  have w5 := fk_sfi w4 e5 kq4
  have kq5 : m5.kd q = μ.kd q := (kd_sfi' e5).trans kq4
  refine h_al_g C dX7_init_29 rfl rfl rfv_r ?_
  refine h_iload_g C dX7_init_30 rfl rfl ?_
  refine pf_X7_28 C dX7_init_31 k5 MT ?_
  refine h_abs (fun m6 e6 => ?_)
  have k6 : m6.kd q % 32 = 8 := by rw [kd_sfi' e6]; exact k5
  have w6 := fk_sfi w5 e6 kq5
  have kq6 : m6.kd q = μ.kd q := (kd_sfi' e6).trans kq5
  refine h_al_g C dX7_init_34 rfl rfl rfv_r ?_
  refine h_iload_g C dX7_init_35 rfl rfl ?_
  refine pf_X7_31 C dX7_init_36 k6 MT ?_
  refine h_abs (fun m7 e7 => ?_)
  have k7 : m7.kd q % 32 = 8 := by rw [kd_sfi' e7]; exact k6
  have w7 := fk_sfi w6 e7 kq6
  have kq7 : m7.kd q = μ.kd q := (kd_sfi' e7).trans kq6
  refine h_al_g C dX7_init_39 rfl rfl rfv_r ?_
  refine h_iload_w C dX7_init_40 rfl ?_
  refine pf_X7_34 C dX7_init_42 k7 MT (Or.inr rfl) ?_
  refine h_abs (fun m8 e8 => ?_)
  have k8 : m8.kd q % 32 = 8 := by rw [kd_sfi' e8]; exact k7
  have w8 := fk_sfi w7 e8 kq7
  have kq8 : m8.kd q = μ.kd q := (kd_sfi' e8).trans kq7
  refine h_al_g C dX7_init_45 rfl rfl rfv_r ?_
  refine h_iconst (v := 5) C dX7_init_46 (by decide) ?_
  refine h_iload_w C dX7_init_47 rfl ?_
  refine h_iload_w C dX7_init_49 rfl ?_
  refine h_if_eq (tgt := 58) C dX7_init_51 (by decide) (fun c1 => absurd c1 (by decide)) (fun c1 => ?_)
  refine h_iconst (v := 0) C dX7_init_54 (by decide) ?_
  refine h_goto (tgt := 59) C dX7_init_55 (by decide) ?_
  refine h_callS3 C (k_X4_mix Z.l Z.G _ _ _ _) cw_X7_38 st_X4_mix dX7_init_59 (by first | decide | exact Nat.le_of_ble_eq_true rfl) (by decide) (by decide) (by decide) (by decide) (kI fun r1 μ1 hp1 => ?_) kN
  obtain ⟨rfl, rfl⟩ := hp1
  rw [show MIX [(5 : Int32).toInt, (nI K).toInt, (0 : Int32).toInt] = MIX [5, (K : Int), 0] from by rw [nI_toInt (by omega)]; rfl]
  refine pf_X7_44 C dX7_init_62 k8 MT ?_
  refine h_abs (fun m9 e9 => ?_)
  have k9 : m9.kd q % 32 = 8 := by rw [kd_sfi' e9]; exact k8
  have w9 := fk_sfi w8 e9 kq8
  have kq9 : m9.kd q = μ.kd q := (kd_sfi' e9).trans kq8
  refine h_al_g C dX7_init_65 rfl rfl rfv_r ?_
  refine h_iconst (v := 5) C dX7_init_66 (by decide) ?_
  refine h_iload_w C dX7_init_67 rfl ?_
  refine h_iload_w C dX7_init_69 rfl ?_
  refine h_if_eq (tgt := 78) C dX7_init_71 (by decide) (fun c2 => absurd c2 (by decide)) (fun c2 => ?_)
  refine h_iconst (v := 1) C dX7_init_74 (by decide) ?_
  refine h_goto (tgt := 79) C dX7_init_75 (by decide) ?_
  refine h_callS3 C (k_X4_mix Z.l Z.G _ _ _ _) cw_X7_38 st_X4_mix dX7_init_79 (by first | decide | exact Nat.le_of_ble_eq_true rfl) (by decide) (by decide) (by decide) (by decide) (kI fun r2 μ2 hp2 => ?_) kN
  obtain ⟨rfl, rfl⟩ := hp2
  rw [show MIX [(5 : Int32).toInt, (nI K).toInt, (1 : Int32).toInt] = MIX [5, (K : Int), 1] from by rw [nI_toInt (by omega)]; rfl]
  refine pf_X7_47 C dX7_init_82 k9 MT ?_
  refine h_abs (fun m10 e10 => ?_)
  have k10 : m10.kd q % 32 = 8 := by rw [kd_sfi' e10]; exact k9
  have w10 := fk_sfi w9 e10 kq9
  have kq10 : m10.kd q = μ.kd q := (kd_sfi' e10).trans kq9
  refine h_ret C E dX7_init_85 (by decide) (by decide) ?_
  exact ⟨rfl, kq10, w10, ((fi_ap e10 (Or.inl (by decide))).trans ((fi_ap e9 (Or.inl (by decide))).trans ((fi_ap e8 (Or.inl (by decide))).trans ((fi_ap e7 (Or.inl (by decide))).trans ((fi_ap e6 (Or.inl (by decide))).trans (fi_at e5)))))), ((fi_ap e10 (Or.inl (by decide))).trans ((fi_ap e9 (Or.inl (by decide))).trans ((fi_ap e8 (Or.inl (by decide))).trans ((fi_ap e7 (Or.inl (by decide))).trans (fi_at e6))))), ((fi_ap e10 (Or.inl (by decide))).trans ((fi_ap e9 (Or.inl (by decide))).trans ((fi_ap e8 (Or.inl (by decide))).trans (fi_at e7)))), ((fi_ap e10 (Or.inl (by decide))).trans ((fi_ap e9 (Or.inl (by decide))).trans (fi_at e8))), ((fi_ap e10 (Or.inl (by decide))).trans (fi_at e9)), (fi_at e10), ((fi_ap e10 (Or.inl (by decide))).trans ((fi_ap e9 (Or.inl (by decide))).trans ((fi_ap e8 (Or.inl (by decide))).trans ((fi_ap e7 (Or.inl (by decide))).trans ((fi_ap e6 (Or.inl (by decide))).trans ((fi_ap e5 (Or.inl (by decide))).trans ((congrFun (congrFun (fi_l e4) _) _).trans ((fi_ap e3 (Or.inl (by decide))).trans ((fi_ap e2 (Or.inl (by decide))).trans (fi_at e1)))))))))), ((fi_ap e10 (Or.inl (by decide))).trans ((fi_ap e9 (Or.inl (by decide))).trans ((fi_ap e8 (Or.inl (by decide))).trans ((fi_ap e7 (Or.inl (by decide))).trans ((fi_ap e6 (Or.inl (by decide))).trans ((fi_ap e5 (Or.inl (by decide))).trans ((congrFun (congrFun (fi_l e4) _) _).trans ((fi_ap e3 (Or.inl (by decide))).trans (fi_at e2))))))))), ((fi_ap e10 (Or.inl (by decide))).trans ((fi_ap e9 (Or.inl (by decide))).trans ((fi_ap e8 (Or.inl (by decide))).trans ((fi_ap e7 (Or.inl (by decide))).trans ((fi_ap e6 (Or.inl (by decide))).trans ((fi_ap e5 (Or.inl (by decide))).trans ((congrFun (congrFun (fi_l e4) _) _).trans (fi_at e3)))))))), ((congrFun (congrFun (fl_i e10) _) _).trans ((congrFun (congrFun (fl_i e9) _) _).trans ((congrFun (congrFun (fl_i e8) _) _).trans ((congrFun (congrFun (fl_i e7) _) _).trans ((congrFun (congrFun (fl_i e6) _) _).trans ((congrFun (congrFun (fl_i e5) _) _).trans (fl_at e4)))))))⟩

set_option maxRecDepth 100000 in
set_option maxHeartbeats 4000000 in
theorem k_X2_tagPlaceOf (l : Launch) (G : Gx) (x : Int32) (μ : Mem) : Kon l yX2_tagPlaceOf cX2_tagPlaceOf 1 (some .int) 0 0 0 0 G [.int x] μ (pI fun r μ' => μ = μ' ∧ r = TP x) noX := by
  refine Kon.ofG (by decide +kernel) (Nat.le_of_ble_eq_true rfl) (Nat.le_of_ble_eq_true rfl) (fun Z hZG C E NT MT => ?_)
  subst hZG
  have C : Cx Z RX2 cX2_tagPlaceOf 0 0 0 0 := C
  show HW Z 0 0 0 [some (.int x)] [] μ
  refine h_iload_g C dX2_tagPlaceOf_0 rfl rfl ?_
  by_cases hv1 : x = 1
  · refine h_tableIn (off := 27) (tgt := 28) C dX2_tagPlaceOf_1 (by rw [hv1]; decide) (by rw [hv1]; decide) (by rw [hv1]; rfl) (by decide) ?_
    refine h_iconst (v := 4) C dX2_tagPlaceOf_28 (by decide) ?_
    refine h_iret C E dX2_tagPlaceOf_29 (by decide) (by decide) ?_
    exact ⟨_, rfl, rfl, by rw [hv1]; rfl⟩
  by_cases hv2 : x = 2
  · refine h_tableIn (off := 29) (tgt := 30) C dX2_tagPlaceOf_1 (by rw [hv2]; decide) (by rw [hv2]; decide) (by rw [hv2]; rfl) (by decide) ?_
    refine h_iconst (v := 3) C dX2_tagPlaceOf_30 (by decide) ?_
    refine h_iret C E dX2_tagPlaceOf_31 (by decide) (by decide) ?_
    exact ⟨_, rfl, rfl, by rw [hv2]; rfl⟩
  by_cases hv3 : x = 3
  · refine h_tableIn (off := 31) (tgt := 32) C dX2_tagPlaceOf_1 (by rw [hv3]; decide) (by rw [hv3]; decide) (by rw [hv3]; rfl) (by decide) ?_
    refine h_iconst (v := 2) C dX2_tagPlaceOf_32 (by decide) ?_
    refine h_iret C E dX2_tagPlaceOf_33 (by decide) (by decide) ?_
    exact ⟨_, rfl, rfl, by rw [hv3]; rfl⟩
  refine h_tableOut (tgt := 34) C dX2_tagPlaceOf_1 (by have z0 := ne_ti 1 1 (by decide) hv1; have z1 := ne_ti 2 2 (by decide) hv2; have z2 := ne_ti 3 3 (by decide) hv3; omega) (by decide) ?_
  refine h_iconst (v := 5) C dX2_tagPlaceOf_34 (by decide) ?_
  refine h_iret C E dX2_tagPlaceOf_35 (by decide) (by decide) ?_
  exact ⟨_, rfl, rfl, by unfold TP; rw [if_neg hv1, if_neg hv2, if_neg hv3]⟩

theorem ORIG_0 {r : Row} (h : r 15 = -1) : ORIG r = 0 := if_pos h
def row0 (kind fr to : Int32) : Row := fun j => if j = 0 then fr else if j = 1 then to else if j = 2 then kind else if j = 15 then -1 else if j = 16 then 1 else 0
abbrev LeW (μ : Mem) (q k : Nat) : Prop := k = μ.kd q ∨ k = FM q
theorem row0_0 {kind fr to : Int32} : row0 kind fr to 0 = fr := by unfold row0; rw [if_pos rfl]
theorem row0_1 {kind fr to : Int32} : row0 kind fr to 1 = to := by unfold row0; rw [if_neg (by decide), if_pos rfl]
theorem row0_2 {kind fr to : Int32} : row0 kind fr to 2 = kind := by unfold row0; rw [if_neg (by decide), if_neg (by decide), if_pos rfl]
theorem row0_15 {kind fr to : Int32} : row0 kind fr to 15 = -1 := by unfold row0; rw [if_neg (by decide), if_neg (by decide), if_neg (by decide), if_pos rfl]
theorem row0_16 {kind fr to : Int32} : row0 kind fr to 16 = 1 := by unfold row0; rw [if_neg (by decide), if_neg (by decide), if_neg (by decide), if_neg (by decide), if_pos rfl]
theorem row0_f {kind fr to : Int32} {i : Nat} (hi : i < 6) : row0 kind fr to (3 + i) = 0 := by
  unfold row0
  rw [if_neg (by omega), if_neg (by omega), if_neg (by omega), if_neg (by omega), if_neg (by omega)]
theorem LeAt.mk {μ : Mem} {k p fa : Nat} {r : Row} (h0 : μ.kd p = k) (h1 : μ.fi 96 p = r 2) (h2 : μ.fi 97 p = r 1) (h3 : μ.fi 98 p = TP (r 2)) (h4 : μ.fi 100 p = r 0) (h5 : μ.fi 101 p = r 16) (h6 : μ.fi 102 p = r 15) (h7 : μ.fi 103 p = ORIG r) (g1 : μ.fr 99 p = some fa) (g2 : μ.kd fa = FM p) (g3 : μ.ln fa = 6) (g4 : ∀ i, i < 6 → μ.ei fa i = r (3 + i)) : LeAt μ k p r := ⟨h0, h1, h2, h3, h4, h5, h6, h7, fa, g1, g2, g3, g4⟩
theorem kd_newA_ne {μ μ' : Mem} {a k n q : Nat} (e : μ' = μ.newA a k n) (h : q ≠ a) : μ'.kd q = μ.kd q := by rw [e]; exact (same_newA h).1
set_option maxRecDepth 100000 in
set_option maxHeartbeats 4000000 in
theorem k_X2_init (l : Launch) (G : Gx) (q : Nat) (kind fr to : Int32) (μ : Mem) (hk : μ.kd q % 32 = 4) : Kon l yX2_init cX2_init 4 none 1 1 6 20 G [.ref q, .int kind, .int fr, .int to] μ (pV fun μ' => LeAt μ' (μ.kd q) q (row0 kind fr to) ∧ FrK (LeW μ q) μ μ') noX := by
  refine Kon.ofG (by decide +kernel) (Nat.le_of_ble_eq_true rfl) (Nat.le_of_ble_eq_true rfl) (fun Z hZG C E NT MT => ?_)
  subst hZG
  have C : Cx Z RX2 cX2_init 1 1 6 20 := C
  show HW Z 0 0 0 [some (.ref q), some (.int kind), some (.int fr), some (.int to)] [] μ
  refine h_al_g C dX2_init_0 rfl rfl rfv_r ?_
  refine h_objInit C ol_X2_3 im_obj cd_obj dX2_init_1 (by decide) (by decide) ?_
  refine h_al_g C dX2_init_4 rfl rfl rfv_r ?_
  refine h_bipush (v := 6) C dX2_init_5 (by decide) ?_
  refine h_newarr (atype := .int) (N := 6) (FM q) C ac_11 (by rw [(show (FM q) % 32 = 11 by first | decide | omega | (unfold FM; omega))]; rfl) (Or.inl (show (FM q) % 32 = 11 by first | decide | omega | (unfold FM; omega))) dX2_init_7 (by decide) (by decide) (by decide) (by first | decide | omega) (by first | decide | omega) (fun fa hfa => ?_)
  have hqa : q ≠ fa := fun h => by rw [h] at hk; omega
  refine h_abs (fun m0 e0 => ?_)
  have kq0 : m0.kd q = μ.kd q := kd_newA_ne e0 hqa
  have k0 : m0.kd q % 32 = 4 := by rw [kq0]; exact hk
  have w0 : FrK (LeW μ q) μ m0 := by rw [e0]; exact FrK.newA hfa (Or.inr rfl)
  have f0 : m0.kd fa = FM q := by rw [e0]; exact kd_newA
  have l0 : m0.ln fa = 6 := by rw [e0]; exact ln_newA
  have x0 : ∀ i, m0.ei fa i = 0 := fun i => by rw [e0]; show (if fa = fa then (0 : Int32) else _) = 0; rw [if_pos rfl]
  refine pf_X2_11 (some _) C dX2_init_9 k0 MT rfl ?_
  refine h_abs (fun m1 e1 => ?_)
  have k1 : m1.kd q % 32 = 4 := by rw [kd_sfr' e1]; exact k0
  have w1 := fk_sfr w0 e1 (Or.inl kq0)
  have kq1 : m1.kd q = μ.kd q := (kd_sfr' e1).trans kq0
  have f1 : m1.kd fa = FM q := (kd_sfr' e1).trans f0
  have l1 : m1.ln fa = 6 := by rw [ln_r e1]; exact l0
  have x1 : ∀ i, m1.ei fa i = 0 := fun i => by rw [ei_r e1]; exact x0 i
  refine h_al_g C dX2_init_12 rfl rfl rfv_r ?_
  refine h_iconst (v := 1) C dX2_init_13 (by decide) ?_
  refine pf_X2_15 C dX2_init_14 k1 ?_
  refine h_abs (fun m2 e2 => ?_)
  have k2 : m2.kd q % 32 = 4 := by rw [kd_sfi' e2]; exact k1
  have w2 := fk_sfi w1 e2 (Or.inl kq1)
  have kq2 : m2.kd q = μ.kd q := (kd_sfi' e2).trans kq1
  have f2 : m2.kd fa = FM q := (kd_sfi' e2).trans f1
  have l2 : m2.ln fa = 6 := by rw [ln_i e2]; exact l1
  have x2 : ∀ i, m2.ei fa i = 0 := fun i => by rw [ei_i e2]; exact x1 i
  refine h_al_g C dX2_init_17 rfl rfl rfv_r ?_
  refine h_iconst (v := (-1)) C dX2_init_18 (by decide) ?_
  refine pf_X2_19 C dX2_init_19 k2 ?_
  refine h_abs (fun m3 e3 => ?_)
  have k3 : m3.kd q % 32 = 4 := by rw [kd_sfi' e3]; exact k2
  have w3 := fk_sfi w2 e3 (Or.inl kq2)
  have kq3 : m3.kd q = μ.kd q := (kd_sfi' e3).trans kq2
  have f3 : m3.kd fa = FM q := (kd_sfi' e3).trans f2
  have l3 : m3.ln fa = 6 := by rw [ln_i e3]; exact l2
  have x3 : ∀ i, m3.ei fa i = 0 := fun i => by rw [ei_i e3]; exact x2 i
  refine h_al_g C dX2_init_22 rfl rfl rfv_r ?_
  refine h_iconst (v := 0) C dX2_init_23 (by decide) ?_
  refine pf_X2_22 C dX2_init_24 k3 ?_
  refine h_abs (fun m4 e4 => ?_)
  have k4 : m4.kd q % 32 = 4 := by rw [kd_sfi' e4]; exact k3
  have w4 := fk_sfi w3 e4 (Or.inl kq3)
  have kq4 : m4.kd q = μ.kd q := (kd_sfi' e4).trans kq3
  have f4 : m4.kd fa = FM q := (kd_sfi' e4).trans f3
  have l4 : m4.ln fa = 6 := by rw [ln_i e4]; exact l3
  have x4 : ∀ i, m4.ei fa i = 0 := fun i => by rw [ei_i e4]; exact x3 i
  refine h_al_g C dX2_init_27 rfl rfl rfv_r ?_
  refine h_iload_g C dX2_init_28 rfl rfl ?_
  refine pf_X2_25 C dX2_init_29 k4 MT ?_
  refine h_abs (fun m5 e5 => ?_)
  have k5 : m5.kd q % 32 = 4 := by rw [kd_sfi' e5]; exact k4
  have w5 := fk_sfi w4 e5 (Or.inl kq4)
  have kq5 : m5.kd q = μ.kd q := (kd_sfi' e5).trans kq4
  have f5 : m5.kd fa = FM q := (kd_sfi' e5).trans f4
  have l5 : m5.ln fa = 6 := by rw [ln_i e5]; exact l4
  have x5 : ∀ i, m5.ei fa i = 0 := fun i => by rw [ei_i e5]; exact x4 i
  refine h_al_g C dX2_init_32 rfl rfl rfv_r ?_
  refine h_iload_g C dX2_init_33 rfl rfl ?_
  refine pf_X2_28 C dX2_init_34 k5 ?_
  refine h_abs (fun m6 e6 => ?_)
  have k6 : m6.kd q % 32 = 4 := by rw [kd_sfi' e6]; exact k5
  have w6 := fk_sfi w5 e6 (Or.inl kq5)
  have kq6 : m6.kd q = μ.kd q := (kd_sfi' e6).trans kq5
  have f6 : m6.kd fa = FM q := (kd_sfi' e6).trans f5
  have l6 : m6.ln fa = 6 := by rw [ln_i e6]; exact l5
  have x6 : ∀ i, m6.ei fa i = 0 := fun i => by rw [ei_i e6]; exact x5 i
  refine h_al_g C dX2_init_37 rfl rfl rfv_r ?_
  refine h_iload_g C dX2_init_38 rfl rfl ?_
  refine pf_X2_31 C dX2_init_39 k6 MT ?_
  refine h_abs (fun m7 e7 => ?_)
  have k7 : m7.kd q % 32 = 4 := by rw [kd_sfi' e7]; exact k6
  have w7 := fk_sfi w6 e7 (Or.inl kq6)
  have kq7 : m7.kd q = μ.kd q := (kd_sfi' e7).trans kq6
  have f7 : m7.kd fa = FM q := (kd_sfi' e7).trans f6
  have l7 : m7.ln fa = 6 := by rw [ln_i e7]; exact l6
  have x7 : ∀ i, m7.ei fa i = 0 := fun i => by rw [ei_i e7]; exact x6 i
  refine h_al_g C dX2_init_42 rfl rfl rfv_r ?_
  refine h_iload_g C dX2_init_43 rfl rfl ?_
  refine h_callS1 C (k_X2_tagPlaceOf Z.l Z.G kind _) cw_X2_34 st_X2_tagPlaceOf dX2_init_44 (by first | decide | exact Nat.le_of_ble_eq_true rfl) (by decide) (by decide) (by decide) (by decide) (kI fun r1 μ1 hp1 => ?_) kN
  obtain ⟨rfl, rfl⟩ := hp1
  refine pf_X2_38 C dX2_init_47 k7 MT ?_
  refine h_abs (fun m8 e8 => ?_)
  have k8 : m8.kd q % 32 = 4 := by rw [kd_sfi' e8]; exact k7
  have w8 := fk_sfi w7 e8 (Or.inl kq7)
  have kq8 : m8.kd q = μ.kd q := (kd_sfi' e8).trans kq7
  have f8 : m8.kd fa = FM q := (kd_sfi' e8).trans f7
  have l8 : m8.ln fa = 6 := by rw [ln_i e8]; exact l7
  have x8 : ∀ i, m8.ei fa i = 0 := fun i => by rw [ei_i e8]; exact x7 i
  refine h_ret C E dX2_init_50 (by decide) (by decide) ?_
  exact ⟨rfl, LeAt.mk (fa := fa) kq8 (((fi_ap e8 (Or.inl (by decide))).trans ((fi_ap e7 (Or.inl (by decide))).trans ((fi_ap e6 (Or.inl (by decide))).trans (fi_at e5)))).trans row0_2.symm) (((fi_ap e8 (Or.inl (by decide))).trans (fi_at e7)).trans row0_1.symm) ((fi_at e8).trans (congrArg TP row0_2).symm) (((fi_ap e8 (Or.inl (by decide))).trans ((fi_ap e7 (Or.inl (by decide))).trans (fi_at e6))).trans row0_0.symm) (((fi_ap e8 (Or.inl (by decide))).trans ((fi_ap e7 (Or.inl (by decide))).trans ((fi_ap e6 (Or.inl (by decide))).trans ((fi_ap e5 (Or.inl (by decide))).trans ((fi_ap e4 (Or.inl (by decide))).trans ((fi_ap e3 (Or.inl (by decide))).trans (fi_at e2))))))).trans row0_16.symm) (((fi_ap e8 (Or.inl (by decide))).trans ((fi_ap e7 (Or.inl (by decide))).trans ((fi_ap e6 (Or.inl (by decide))).trans ((fi_ap e5 (Or.inl (by decide))).trans ((fi_ap e4 (Or.inl (by decide))).trans (fi_at e3)))))).trans row0_15.symm) (((fi_ap e8 (Or.inl (by decide))).trans ((fi_ap e7 (Or.inl (by decide))).trans ((fi_ap e6 (Or.inl (by decide))).trans ((fi_ap e5 (Or.inl (by decide))).trans (fi_at e4))))).trans (ORIG_0 row0_15).symm) ((congrFun (congrFun (fr_i e8) _) _).trans ((congrFun (congrFun (fr_i e7) _) _).trans ((congrFun (congrFun (fr_i e6) _) _).trans ((congrFun (congrFun (fr_i e5) _) _).trans ((congrFun (congrFun (fr_i e4) _) _).trans ((congrFun (congrFun (fr_i e3) _) _).trans ((congrFun (congrFun (fr_i e2) _) _).trans (fr_at e1)))))))) f8 l8 (fun i hi => (x8 i).trans (row0_f hi).symm), w8⟩

def LinkAt (G : Gx) (μ : Mem) (q w a b : Nat) : Prop := μ.kd q = KS (16 + 3 * a + b) ∧ μ.kd w = KS (25 + 3 * a + b) ∧ μ.fi 128 q = nI b ∧ μ.fi 129 q = nI (NAME b) ∧ μ.fi 130 q = nI (PW (NAME b) (211 + 307 * a)) ∧ μ.fr 131 q = some w ∧ μ.fi 132 q = nI (10 + 10 * b) ∧ μ.fi 137 q = 0 ∧ μ.fi 138 q = 0 ∧ μ.fi 139 q = -1 ∧ μ.fi 140 q = 0 ∧ μ.fr 133 q = none ∧ μ.fr 134 q = none ∧ μ.fr 135 q = none ∧ μ.fr 136 q = none ∧ ListAt G μ w []
theorem LinkAt.kept {W : Nat → Prop} {G : Gx} {μ μ' : Mem} {q w a b : Nat} (h : LinkAt G μ q w a b) (hf : FrK W μ μ') (h1 : ¬ W (KS (16 + 3 * a + b))) (h2 : ¬ W (KS (25 + 3 * a + b))) (h3 : ¬ W (LM w)) : LinkAt G μ' q w a b := by
  obtain ⟨k1, k2, a1, a2, a3, a4, a5, a6, a7, a8, a9, a10, a11, a12, a13, a14⟩ := h
  obtain ⟨s1, s2, s3, -⟩ := hf.st k1 (KS_ne _) h1
  exact ⟨by rw [s1]; exact k1, by rw [hf.ke (by rw [k2]; exact KS_ne _)]; exact k2, by rw [s2]; exact a1, by rw [s2]; exact a2, by rw [s2]; exact a3, by rw [s3]; exact a4, by rw [s2]; exact a5, by rw [s2]; exact a6, by rw [s2]; exact a7, by rw [s2]; exact a8, by rw [s2]; exact a9, by rw [s3]; exact a10, by rw [s3]; exact a11, by rw [s3]; exact a12, by rw [s3]; exact a13, a14.kept hf (by rw [k2]; exact h2) h3⟩
theorem list0 {G : Gx} {μ : Mem} {q : Nat} (hk : μ.kd q % 32 = 1) (h1 : μ.fr 1 q = some G.2.2.1) (h2 : μ.fi 2 q = 0) : ListAt G μ q [] := ⟨hk, by decide, h2, (fun x hx => by cases hx), _, h1, Or.inl ⟨rfl, rfl⟩⟩
abbrev KW (j1 j2 k : Nat) : Prop := k = KS j1 ∨ k = KS j2
theorem KS_LM {i ρ : Nat} (h : i < 34) : LM ρ ≠ KS i := fun e => by
  have h1 := KS_div i
  rw [← e] at h1
  unfold LM at h1
  omega
theorem KS_ap {i j : Nat} (h : i ≠ j) : KS i ≠ KS j := fun e => h (KS_inj e)
/-- a new list, its constructor through -/
theorem newL {G : Gx} {μ m : Mem} {w k : Nat} (hw : μ.kd w = 0) (hk : k % 32 = 1) (e : m = ((μ.newO w k).sfi 0 w 0).sfr 1 w (some G.2.2.1)) : m.kd w = k ∧ ListAt G m w [] ∧ (∀ q, q ≠ w → SameAt μ m q) := by
  have h1 : m.kd w = k := by rw [e]; exact kd_newO
  refine ⟨h1, list0 (by rw [h1]; exact hk) (fr_at e) ?_, fun q hq => ?_⟩
  · rw [fi_r e, fi_ap rfl (Or.inl (by decide)), z_fi_newO, if_pos rfl]
  · rw [e]
    exact ((same_newO hq).tr (same_sfi hq)).tr (same_sfr hq)
set_option maxRecDepth 100000 in
set_option maxHeartbeats 4000000 in
theorem k_X3_init (l : Launch) (G : Gx) (q a b : Nat) (x s : Int32) (μ : Mem) (hq : μ.kd q = KS (16 + 3 * a + b)) (ha : a < 3) (hb : b < 3) (hx : x = nI b) (hs : s = nI (211 + 307 * a)) : Kon l yX3_init cX3_init 3 none 4 1 3 72 G [.ref q, .int x, .int s] μ (pV fun μ' => ∃ w, LinkAt G μ' q w a b ∧ FrK (KW (16 + 3 * a + b) (25 + 3 * a + b)) μ μ') noX := by
  refine Kon.ofG (by decide +kernel) (Nat.le_of_ble_eq_true rfl) (Nat.le_of_ble_eq_true rfl) (fun Z hZG C E NT MT => ?_)
  subst hZG
  have C : Cx Z RX3 cX3_init 4 1 3 72 := C
  show HW Z 0 0 0 [some (.ref q), some (.int x), some (.int s)] [] μ
  subst hx
  subst hs
  have hk : μ.kd q % 32 = 5 := by rw [hq]; unfold KS; rw [if_neg (by omega), if_neg (by omega), if_neg (by omega), if_neg (by omega), if_neg (by omega), if_neg (by omega), if_neg (by omega), if_pos (by omega)]; omega
  have hw1 : KS (25 + 3 * a + b) % 32 = 1 := by unfold KS; rw [if_neg (by omega), if_neg (by omega), if_neg (by omega), if_neg (by omega), if_neg (by omega), if_neg (by omega), if_neg (by omega), if_neg (by omega)]; omega
  refine h_al_g C dX3_init_0 rfl rfl rfv_r ?_
  refine h_objInit C ol_X3_3 im_obj cd_obj dX3_init_1 (by decide) (by decide) ?_
  refine h_al_g C dX3_init_4 rfl rfl rfv_r ?_
  refine nw_X3_9 (KS (25 + 3 * a + b)) C dX3_init_5 hw1 (by decide) (by decide) (fun w hw => ?_)
  refine h_dup C dX3_init_8 rfl ?_
  refine h_callI0 (a_ := .null) C (k_Jx4a65c_init_da8c8 Z.l Z.G w _ (by rw [kd_newO]; exact hw1)) cw_X3_11 im_Jx4a65c_init_da8c8 rfl dX3_init_9 (by first | decide | exact Nat.le_of_ble_eq_true rfl) (by decide) (by decide) (by decide) (by decide) (kV fun μ1 hp1 => ?_) kN
  obtain rfl := hp1
  refine h_abs (fun m0 e0 => ?_)
  have hqw : q ≠ w := fun h => by rw [h, hw] at hk; exact absurd hk (by decide)
  obtain ⟨kw0, lw0, sw0⟩ := newL hw hw1 e0
  have kq0 : m0.kd q = KS (16 + 3 * a + b) := (sw0 q hqw).1.trans hq
  have k0 : m0.kd q % 32 = 5 := by rw [(sw0 q hqw).1]; exact hk
  have w0 : FrK (KW (16 + 3 * a + b) (25 + 3 * a + b)) μ m0 := FrK.new sw0 hw (by rw [kw0]; exact Or.inr rfl)
  refine pf_X3_12 (some _) C dX3_init_12 k0 MT rfl ?_
  refine h_abs (fun m1 e1 => ?_)
  have k1 : m1.kd q % 32 = 5 := by rw [kd_sfr' e1]; exact k0
  have w1 := fk_sfr w0 e1 (Or.inl kq0)
  have kq1 : m1.kd q = KS (16 + 3 * a + b) := (kd_sfr' e1).trans kq0
  refine h_al_g C dX3_init_15 rfl rfl rfv_r ?_
  refine h_null C dX3_init_16 ?_
  refine pf_X3_18 none C dX3_init_17 k1 rfl ?_
  refine h_abs (fun m2 e2 => ?_)
  have k2 : m2.kd q % 32 = 5 := by rw [kd_sfr' e2]; exact k1
  have w2 := fk_sfr w1 e2 (Or.inl kq1)
  have kq2 : m2.kd q = KS (16 + 3 * a + b) := (kd_sfr' e2).trans kq1
  refine h_al_g C dX3_init_20 rfl rfl rfv_r ?_
  refine h_null C dX3_init_21 ?_
  refine pf_X3_22 none C dX3_init_22 k2 rfl ?_
  refine h_abs (fun m3 e3 => ?_)
  have k3 : m3.kd q % 32 = 5 := by rw [kd_sfr' e3]; exact k2
  have w3 := fk_sfr w2 e3 (Or.inl kq2)
  have kq3 : m3.kd q = KS (16 + 3 * a + b) := (kd_sfr' e3).trans kq2
  refine h_al_g C dX3_init_25 rfl rfl rfv_r ?_
  refine h_null C dX3_init_26 ?_
  refine pf_X3_25 none C dX3_init_27 k3 rfl ?_
  refine h_abs (fun m4 e4 => ?_)
  have k4 : m4.kd q % 32 = 5 := by rw [kd_sfr' e4]; exact k3
  have w4 := fk_sfr w3 e4 (Or.inl kq3)
  have kq4 : m4.kd q = KS (16 + 3 * a + b) := (kd_sfr' e4).trans kq3
  refine h_al_g C dX3_init_30 rfl rfl rfv_r ?_
  refine h_null C dX3_init_31 ?_
  refine pf_X3_28 none C dX3_init_32 k4 rfl ?_
  refine h_abs (fun m5 e5 => ?_)
  have k5 : m5.kd q % 32 = 5 := by rw [kd_sfr' e5]; exact k4
  have w5 := fk_sfr w4 e5 (Or.inl kq4)
  have kq5 : m5.kd q = KS (16 + 3 * a + b) := (kd_sfr' e5).trans kq4
  refine h_al_g C dX3_init_35 rfl rfl rfv_r ?_
  refine h_iconst (v := 0) C dX3_init_36 (by decide) ?_
  refine pf_X3_32 C dX3_init_37 k5 ?_
  refine h_abs (fun m6 e6 => ?_)
  have k6 : m6.kd q % 32 = 5 := by rw [kd_sfi' e6]; exact k5
  have w6 := fk_sfi w5 e6 (Or.inl kq5)
  have kq6 : m6.kd q = KS (16 + 3 * a + b) := (kd_sfi' e6).trans kq5
  refine h_al_g C dX3_init_40 rfl rfl rfv_r ?_
  refine h_iconst (v := 0) C dX3_init_41 (by decide) ?_
  refine pf_X3_36 C dX3_init_42 k6 ?_
  refine h_abs (fun m7 e7 => ?_)
  have k7 : m7.kd q % 32 = 5 := by rw [kd_sfi' e7]; exact k6
  have w7 := fk_sfi w6 e7 (Or.inl kq6)
  have kq7 : m7.kd q = KS (16 + 3 * a + b) := (kd_sfi' e7).trans kq6
  refine h_al_g C dX3_init_45 rfl rfl rfv_r ?_
  refine h_iconst (v := (-1)) C dX3_init_46 (by decide) ?_
  refine pf_X3_39 C dX3_init_47 k7 ?_
  refine h_abs (fun m8 e8 => ?_)
  have k8 : m8.kd q % 32 = 5 := by rw [kd_sfi' e8]; exact k7
  have w8 := fk_sfi w7 e8 (Or.inl kq7)
  have kq8 : m8.kd q = KS (16 + 3 * a + b) := (kd_sfi' e8).trans kq7
  refine h_al_g C dX3_init_50 rfl rfl rfv_r ?_
  refine h_iconst (v := 0) C dX3_init_51 (by decide) ?_
  refine pf_X3_42 C dX3_init_52 k8 ?_
  refine h_abs (fun m9 e9 => ?_)
  have k9 : m9.kd q % 32 = 5 := by rw [kd_sfi' e9]; exact k8
  have w9 := fk_sfi w8 e9 (Or.inl kq8)
  have kq9 : m9.kd q = KS (16 + 3 * a + b) := (kd_sfi' e9).trans kq8
  refine h_al_g C dX3_init_55 rfl rfl rfv_r ?_
  refine h_iload_g C dX3_init_56 rfl rfl ?_
  refine pf_X3_45 C dX3_init_57 k9 MT ?_
  refine h_abs (fun m10 e10 => ?_)
  have k10 : m10.kd q % 32 = 5 := by rw [kd_sfi' e10]; exact k9
  have w10 := fk_sfi w9 e10 (Or.inl kq9)
  have kq10 : m10.kd q = KS (16 + 3 * a + b) := (kd_sfi' e10).trans kq9
  refine h_al_g C dX3_init_60 rfl rfl rfv_r ?_
  refine h_iload_g C dX3_init_61 rfl rfl ?_
  refine h_callS1 C (k_X4_secretOfEnd Z.l Z.G (nI b) _) cw_X3_48 st_X4_secretOfEnd dX3_init_62 (by first | decide | exact Nat.le_of_ble_eq_true rfl) (by decide) (by decide) (by decide) (by decide) (kI fun r2 μ2 hp2 => ?_) kN
  obtain ⟨rfl, rfl⟩ := hp2
  rw [show (211 + 307 * nI b : Int32) = nI (211 + 307 * b) from by rw [show (307 : Int32) = nI 307 from rfl, pk_mul, show (211 : Int32) = nI 211 from rfl, nI_add]]
  refine h_callS1 C (k_X4_publicNumber Z.l Z.G _ (211 + 307 * b) rfl (by omega) _) cw_X3_54 st_X4_publicNumber dX3_init_65 (by first | decide | exact Nat.le_of_ble_eq_true rfl) (by decide) (by decide) (by decide) (by decide) (kI fun r3 μ3 hp3 => ?_) kN
  obtain ⟨rfl, rfl⟩ := hp3
  refine pf_X3_57 C dX3_init_68 k10 MT ?_
  refine h_abs (fun m11 e11 => ?_)
  have k11 : m11.kd q % 32 = 5 := by rw [kd_sfi' e11]; exact k10
  have w11 := fk_sfi w10 e11 (Or.inl kq10)
  have kq11 : m11.kd q = KS (16 + 3 * a + b) := (kd_sfi' e11).trans kq10
  refine h_al_g C dX3_init_71 rfl rfl rfv_r ?_
  refine h_al_g C dX3_init_72 rfl rfl rfv_r ?_
  refine gf_X3_57 C dX3_init_73 k11 (fi_at e11) ?_
  refine h_iload_g C dX3_init_76 rfl rfl ?_
  refine h_callS2 C (k_X4_power Z.l Z.G _ _ (PW 7 (211 + 307 * b)) (211 + 307 * a) rfl (PW_lt _ _) rfl (by omega) _) cw_X3_60 st_X4_power dX3_init_77 (by first | decide | exact Nat.le_of_ble_eq_true rfl) (by decide) (by decide) (by decide) (by decide) (kI fun r4 μ4 hp4 => ?_) kN
  obtain ⟨rfl, rfl⟩ := hp4
  refine pf_X3_64 C dX3_init_80 k11 MT ?_
  refine h_abs (fun m12 e12 => ?_)
  have k12 : m12.kd q % 32 = 5 := by rw [kd_sfi' e12]; exact k11
  have w12 := fk_sfi w11 e12 (Or.inl kq11)
  have kq12 : m12.kd q = KS (16 + 3 * a + b) := (kd_sfi' e12).trans kq11
  refine h_al_g C dX3_init_83 rfl rfl rfv_r ?_
  refine h_bipush (v := 10) C dX3_init_84 (by decide) ?_
  refine h_bipush (v := 10) C dX3_init_86 (by decide) ?_
  refine h_iload_g C dX3_init_88 rfl rfl ?_
  refine h_imul C dX3_init_89 ?_
  refine h_iadd C dX3_init_90 ?_
  rw [show (10 + 10 * nI b : Int32) = nI (10 + 10 * b) from by rw [show (10 : Int32) = nI 10 from rfl, pk_mul, nI_add]]
  refine pf_X3_67 C dX3_init_91 k12 ?_
  refine h_abs (fun m13 e13 => ?_)
  have k13 : m13.kd q % 32 = 5 := by rw [kd_sfi' e13]; exact k12
  have w13 := fk_sfi w12 e13 (Or.inl kq12)
  have kq13 : m13.kd q = KS (16 + 3 * a + b) := (kd_sfi' e13).trans kq12
  refine h_ret C E dX3_init_94 (by decide) (by decide) ?_
  have fw : FrK (fun k => k = KS (16 + 3 * a + b)) m0 m13 := (fk_sfi (fk_sfi (fk_sfi (fk_sfi (fk_sfi (fk_sfi (fk_sfi (fk_sfi (fk_sfr (fk_sfr (fk_sfr (fk_sfr (fk_sfr (FrK.rf (W := fun k => k = KS (16 + 3 * a + b))) e1 kq0) e2 kq1) e3 kq2) e4 kq3) e5 kq4) e6 kq5) e7 kq6) e8 kq7) e9 kq8) e10 kq9) e11 kq10) e12 kq11) e13 kq12)
  exact ⟨rfl, w, ⟨kq13, (fw.ke (by rw [kw0]; exact KS_ne _)).trans kw0, ((fi_ap e13 (Or.inl (by decide))).trans ((fi_ap e12 (Or.inl (by decide))).trans ((fi_ap e11 (Or.inl (by decide))).trans (fi_at e10)))), ((fi_ap e13 (Or.inl (by decide))).trans ((fi_ap e12 (Or.inl (by decide))).trans (fi_at e11))), ((fi_ap e13 (Or.inl (by decide))).trans (fi_at e12)), ((congrFun (congrFun (fr_i e13) _) _).trans ((congrFun (congrFun (fr_i e12) _) _).trans ((congrFun (congrFun (fr_i e11) _) _).trans ((congrFun (congrFun (fr_i e10) _) _).trans ((congrFun (congrFun (fr_i e9) _) _).trans ((congrFun (congrFun (fr_i e8) _) _).trans ((congrFun (congrFun (fr_i e7) _) _).trans ((congrFun (congrFun (fr_i e6) _) _).trans ((fr_ap e5 (Or.inl (by decide))).trans ((fr_ap e4 (Or.inl (by decide))).trans ((fr_ap e3 (Or.inl (by decide))).trans ((fr_ap e2 (Or.inl (by decide))).trans (fr_at e1))))))))))))), (fi_at e13), ((fi_ap e13 (Or.inl (by decide))).trans ((fi_ap e12 (Or.inl (by decide))).trans ((fi_ap e11 (Or.inl (by decide))).trans ((fi_ap e10 (Or.inl (by decide))).trans ((fi_ap e9 (Or.inl (by decide))).trans ((fi_ap e8 (Or.inl (by decide))).trans ((fi_ap e7 (Or.inl (by decide))).trans (fi_at e6)))))))), ((fi_ap e13 (Or.inl (by decide))).trans ((fi_ap e12 (Or.inl (by decide))).trans ((fi_ap e11 (Or.inl (by decide))).trans ((fi_ap e10 (Or.inl (by decide))).trans ((fi_ap e9 (Or.inl (by decide))).trans ((fi_ap e8 (Or.inl (by decide))).trans (fi_at e7))))))), ((fi_ap e13 (Or.inl (by decide))).trans ((fi_ap e12 (Or.inl (by decide))).trans ((fi_ap e11 (Or.inl (by decide))).trans ((fi_ap e10 (Or.inl (by decide))).trans ((fi_ap e9 (Or.inl (by decide))).trans (fi_at e8)))))), ((fi_ap e13 (Or.inl (by decide))).trans ((fi_ap e12 (Or.inl (by decide))).trans ((fi_ap e11 (Or.inl (by decide))).trans ((fi_ap e10 (Or.inl (by decide))).trans (fi_at e9))))), ((congrFun (congrFun (fr_i e13) _) _).trans ((congrFun (congrFun (fr_i e12) _) _).trans ((congrFun (congrFun (fr_i e11) _) _).trans ((congrFun (congrFun (fr_i e10) _) _).trans ((congrFun (congrFun (fr_i e9) _) _).trans ((congrFun (congrFun (fr_i e8) _) _).trans ((congrFun (congrFun (fr_i e7) _) _).trans ((congrFun (congrFun (fr_i e6) _) _).trans ((fr_ap e5 (Or.inl (by decide))).trans ((fr_ap e4 (Or.inl (by decide))).trans ((fr_ap e3 (Or.inl (by decide))).trans (fr_at e2)))))))))))), ((congrFun (congrFun (fr_i e13) _) _).trans ((congrFun (congrFun (fr_i e12) _) _).trans ((congrFun (congrFun (fr_i e11) _) _).trans ((congrFun (congrFun (fr_i e10) _) _).trans ((congrFun (congrFun (fr_i e9) _) _).trans ((congrFun (congrFun (fr_i e8) _) _).trans ((congrFun (congrFun (fr_i e7) _) _).trans ((congrFun (congrFun (fr_i e6) _) _).trans ((fr_ap e5 (Or.inl (by decide))).trans ((fr_ap e4 (Or.inl (by decide))).trans (fr_at e3))))))))))), ((congrFun (congrFun (fr_i e13) _) _).trans ((congrFun (congrFun (fr_i e12) _) _).trans ((congrFun (congrFun (fr_i e11) _) _).trans ((congrFun (congrFun (fr_i e10) _) _).trans ((congrFun (congrFun (fr_i e9) _) _).trans ((congrFun (congrFun (fr_i e8) _) _).trans ((congrFun (congrFun (fr_i e7) _) _).trans ((congrFun (congrFun (fr_i e6) _) _).trans ((fr_ap e5 (Or.inl (by decide))).trans (fr_at e4)))))))))), ((congrFun (congrFun (fr_i e13) _) _).trans ((congrFun (congrFun (fr_i e12) _) _).trans ((congrFun (congrFun (fr_i e11) _) _).trans ((congrFun (congrFun (fr_i e10) _) _).trans ((congrFun (congrFun (fr_i e9) _) _).trans ((congrFun (congrFun (fr_i e8) _) _).trans ((congrFun (congrFun (fr_i e7) _) _).trans ((congrFun (congrFun (fr_i e6) _) _).trans (fr_at e5))))))))), lw0.kept fw (by rw [kw0]; exact KS_ap (by omega)) (KS_LM (by omega))⟩, w13⟩

end
