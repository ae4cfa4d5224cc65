section
set_option maxRecDepth 100000 in
set_option maxHeartbeats 1000000 in
theorem k_X9_keyN (l : Launch) (G : Gx) (x9 a b e : Nat) (x y z : Int32) (hx : x = nI a) (ha : a < 3) (hy : y = nI b) (hb : b < 3) (hz : z = nI e) (he : e < 2 ^ 31) (μ : Mem) : Kon l yX9_keyOf cX9_keyOf 4 (some .int) 3 1 3 66 G [.ref x9, .int x, .int y, .int z] μ (pI fun v μ' => v = nI (HKY a b e) ∧ Nw μ μ') noX := by
  refine Kon.ofG (by decide +kernel) (Nat.le_of_ble_eq_true rfl) (Nat.le_of_ble_eq_true rfl) (fun Z hZG C E NT MT => ?_)
  subst hZG
  have C : Cx Z RX9 cX9_keyOf 3 1 3 66 := C
  show HW Z 0 0 0 [some (.ref x9), some (.int x), some (.int y), some (.int z)] [] μ
  have hnb := NAME_lt b
  refine h_iconst (v := 3) C dX9_keyOf_0 (by decide) ?_
  refine h_newarr (atype := .int) (N := 3) (11 + 32 * 100) C ac_11 (by rw [(show (11 + 32 * 100) % 32 = 11 by first | decide | omega | (unfold FM; omega))]; rfl) (Or.inl (show (11 + 32 * 100) % 32 = 11 by first | decide | omega | (unfold FM; omega))) dX9_keyOf_1 (by decide) (by decide) (by decide) (by first | decide | omega) (by first | decide | omega) (fun q hq => ?_)
  have hka : (μ.newA q (11 + 32 * 100) 3).kd q = 11 + 32 * 100 := kd_newA
  have hla : (μ.newA q (11 + 32 * 100) 3).ln q = 3 := ln_newA
  refine h_dup C dX9_keyOf_3 rfl ?_
  refine h_iconst (v := 0) C dX9_keyOf_4 (by decide) ?_
  refine h_iconst (v := 1) C dX9_keyOf_5 (by decide) ?_
  refine h_iast C dX9_keyOf_6 (by show (μ.newA q (11 + 32 * 100) 3).kd q % 32 = 11; rw [hka]) (by show vp_in _ ((μ.newA q (11 + 32 * 100) 3).ln q); rw [hla]; exact vp_in_nI (show 0 < 3 by decide) (by decide)) ?_
  refine h_dup C dX9_keyOf_7 rfl ?_
  refine h_iconst (v := 1) C dX9_keyOf_8 (by decide) ?_
  refine h_iload_g C dX9_keyOf_9 rfl rfl ?_
  refine h_iload_g C dX9_keyOf_10 rfl rfl ?_
  refine h_callS1 C (k_X9_nameOf Z.l Z.G _ b hy (by omega) _) cw_X9_132 st_X9_nameOf dX9_keyOf_11 (by first | decide | exact Nat.le_of_ble_eq_true rfl) (by decide) (by decide) (by decide) (by decide) (kI fun r1 μ1 hp1 => ?_) kN
  obtain ⟨rfl, rfl⟩ := hp1
  refine h_callS2 C (k_X9_both Z.l Z.G _ _ e (NAME b) hz he rfl (by omega) _) cw_X9_135 st_X9_both dX9_keyOf_14 (by first | decide | exact Nat.le_of_ble_eq_true rfl) (by decide) (by decide) (by decide) (by decide) (kI fun r2 μ2 hp2 => ?_) kN
  obtain ⟨rfl, rfl⟩ := hp2
  refine h_iast C dX9_keyOf_17 (by show (μ.newA q (11 + 32 * 100) 3).kd q % 32 = 11; rw [hka]) (by show vp_in _ ((μ.newA q (11 + 32 * 100) 3).ln q); rw [hla]; exact vp_in_nI (show 1 < 3 by decide) (by decide)) ?_
  refine h_dup C dX9_keyOf_18 rfl ?_
  refine h_iconst (v := 2) C dX9_keyOf_19 (by decide) ?_
  refine h_iload_g C dX9_keyOf_20 rfl rfl ?_
  refine h_callS1 C (k_X9_secretOf Z.l Z.G _ _) cw_X9_118 st_X9_secretOf dX9_keyOf_21 (by first | decide | exact Nat.le_of_ble_eq_true rfl) (by decide) (by decide) (by decide) (by decide) (kI fun r3 μ3 hp3 => ?_) kN
  obtain ⟨rfl, rfl⟩ := hp3
  rw [show (211 + 307 * x : Int32) = nI (211 + 307 * a) from by rw [hx, show (307 : Int32) = nI 307 from rfl, pk_mul, show (211 : Int32) = nI 211 from rfl, nI_add]]
  refine h_iload_g C dX9_keyOf_24 rfl rfl ?_
  refine h_callS1 C (k_X9_nameOf Z.l Z.G _ b hy (by omega) _) cw_X9_132 st_X9_nameOf dX9_keyOf_25 (by first | decide | exact Nat.le_of_ble_eq_true rfl) (by decide) (by decide) (by decide) (by decide) (kI fun r4 μ4 hp4 => ?_) kN
  obtain ⟨rfl, rfl⟩ := hp4
  refine h_callS2 C (k_X9_both Z.l Z.G _ _ (211 + 307 * a) (NAME b) rfl (by omega) rfl (by omega) _) cw_X9_135 st_X9_both dX9_keyOf_28 (by first | decide | exact Nat.le_of_ble_eq_true rfl) (by decide) (by decide) (by decide) (by decide) (kI fun r5 μ5 hp5 => ?_) kN
  obtain ⟨rfl, rfl⟩ := hp5
  refine h_iast C dX9_keyOf_31 (by show (μ.newA q (11 + 32 * 100) 3).kd q % 32 = 11; rw [hka]) (by show vp_in _ ((μ.newA q (11 + 32 * 100) 3).ln q); rw [hla]; exact vp_in_nI (show 2 < 3 by decide) (by decide)) ?_
  rw [show (0 : Int32).toNatClampNeg = 0 from by decide, show (1 : Int32).toNatClampNeg = 1 from by decide, show (2 : Int32).toNatClampNeg = 2 from by decide]
  have f1 : Nw μ (μ.newA q (11 + 32 * 100) 3) := Nw.rf.at hq (fun z hz => same_newA hz) hka
  have f2 : Nw μ ((μ.newA q (11 + 32 * 100) 3).sei q 0 1) := f1.at hq (fun z hz => same_sei hz) hka
  have f3 : Nw μ (((μ.newA q (11 + 32 * 100) 3).sei q 0 1).sei q 1 (nI (PW (NAME b) e))) := f2.at hq (fun z hz => same_sei hz) hka
  have f4 : Nw μ ((((μ.newA q (11 + 32 * 100) 3).sei q 0 1).sei q 1 (nI (PW (NAME b) e))).sei q 2 (nI (PW (NAME b) (211 + 307 * a)))) := f3.at hq (fun z hz => same_sei hz) hka
  refine h_callS1 C (k_X9_mix Z.l Z.G q [1, (nI (PW (NAME b) e)), (nI (PW (NAME b) (211 + 307 * a)))] _ (by show (μ.newA q (11 + 32 * 100) 3).kd q % 32 = 11; rw [hka]) (by show (μ.newA q (11 + 32 * 100) 3).ln q = 3; exact hla) (fun i hi => by
      have h9 : i = 0 ∨ i = 1 ∨ i = 2 := by have : i < 3 := hi; omega
      rcases h9 with rfl | rfl | rfl
      · show u2 (u2 (u2 _ q 0 1) q 1 _) q 2 _ q 0 = 1
        unfold u2
        rw [if_pos rfl, if_neg (by decide), if_pos rfl, if_neg (by decide), if_pos rfl, if_pos rfl]
      · show u2 (u2 _ q 1 (nI (PW (NAME b) e))) q 2 _ q 1 = (nI (PW (NAME b) e))
        unfold u2
        rw [if_pos rfl, if_neg (by decide), if_pos rfl, if_pos rfl]
      · exact u2_eq) (show 3 ≤ 100 by decide)) cw_X9_138 st_X9_mix dX9_keyOf_32 (by first | decide | exact Nat.le_of_ble_eq_true rfl) (by decide) (by decide) (by decide) (by decide) (kI fun r6 μ6 hp6 => ?_) kN
  obtain ⟨rfl, rfl⟩ := hp6
  refine h_iret C E dX9_keyOf_35 (by decide) (by decide) ?_
  refine ⟨_, rfl, ?_, f4⟩
  show nI (MIX [(1 : Int32).toInt, (nI (PW (NAME b) e)).toInt, (nI (PW (NAME b) (211 + 307 * a))).toInt]) = _
  rw [PW_i, PW_i]
  rfl

set_option maxRecDepth 100000 in
set_option maxHeartbeats 1000000 in
theorem k_X9_isThere (l : Launch) (G : Gx) (Q : Nat → Nat) (S : Sx) (t : Int32) (μ : Mem) (hM : MRq Q S (LXo S t) μ) (a : Nat) (ha : a < 3) (xa : Int32) (hxa : xa = nI a) (b : Nat) (hb : b < 3) (xb : Int32) (hxb : xb = nI b) (w : Nat) (hw : w < 3) (xw : Int32) (hxw : xw = nI w) : Kon l yX9_isThere cX9_isThere 4 (some .boolean) 0 0 0 0 G [.ref (Q 0), .int xa, .int xb, .int xw] μ (pB (fun μ' => μ = μ' ∧ ∃ r, S.ses a b w = some r) (fun μ' => μ = μ' ∧ S.ses a b w = none)) noX := by
  refine Kon.ofG (by decide +kernel) (Nat.le_of_ble_eq_true rfl) (Nat.le_of_ble_eq_true rfl) (fun Z hZG C E NT MT => ?_)
  subst hZG
  have C : Cx Z RX9 cX9_isThere 0 0 0 0 := C
  show HW Z 0 0 0 [some (.ref (Q 0)), some (.int xa), some (.int xb), some (.int xw)] [] μ
  subst hxa
  subst hxb
  subst hxw
  refine h_al_g C dX9_isThere_0 rfl rfl rfv_r ?_
  refine gs_X9_72 C dX9_isThere_1 hM.kX (hM.fA (i := 18) (by decide)) ?_
  refine h_iload_g C dX9_isThere_4 rfl rfl ?_
  refine h_aald (r := some _) C dX9_isThere_5 (hM.kr (by decide)) (inb (hM.ln3 (by decide)) (vp_in_nI ha (by decide))) (atI (cl_of (n := a) (by have h9 := ha; omega)) (hM.d1 (i := 1) (by decide) ha)) ?_
  refine h_iload_g C dX9_isThere_6 rfl rfl ?_
  refine h_aald (r := some _) C dX9_isThere_7 (hM.kr (by have h0_ := ha; omega)) (inb (hM.ln3 (by have h0_ := ha; omega)) (vp_in_nI hb (by decide))) (atI (cl_of (n := b) (by have h9 := hb; omega)) (hM.d2 (i := 1) (by decide) ha hb)) ?_
  obtain ⟨s, s1, s2, s3, s4⟩ := hM.se ha hb (w := w) hw (fun z => z)
  refine h_iload_g C dX9_isThere_8 rfl rfl ?_
  refine h_aald (r := some _) C dX9_isThere_9 (hM.kr (by omega)) (inb (hM.ln3 (by omega)) (vp_in_nI hw (by decide))) (atI (cl_of (n := w) (by have h9 := hw; omega)) s1) ?_
  refine h_iconst (v := 0) C dX9_isThere_10 (by decide) ?_
  refine h_iald C dX9_isThere_11 (by rw [s2]; exact KSE_m _ _ _) (inb s3 (vp_in_nI (n := 0) (by decide) (by decide))) rfl ?_
  refine h_if_le (tgt := 19) C dX9_isThere_12 (by decide) (fun c1 => ?_) (fun c1 => ?_)
  · refine h_iconst (v := 0) C dX9_isThere_19 (by decide) ?_
    refine h_zret C E dX9_isThere_20 (by decide) (by decide) (by first | exact Or.inl rfl | exact Or.inr rfl) ?_
    refine Or.inr ⟨rfl, rfl, ?_⟩
    cases hr : S.ses a b w with
    | none => rfl
    | some r =>
      rw [hr] at s4
      have h1 := s4.1
      have h2 := s4.2 0 (by decide)
      rw [Int32.le_iff_toInt_le, tl_0] at c1
      rw [← h2] at h1
      have h3 : (μ.ei s (Int32.toNatClampNeg 0)).toInt ≤ 0 := c1
      have h4 : (μ.ei s 0).toInt ≤ 0 := h3
      omega
  · refine h_iconst (v := 1) C dX9_isThere_15 (by decide) ?_
    refine h_goto (tgt := 20) C dX9_isThere_16 (by decide) ?_
    refine h_zret C E dX9_isThere_20 (by decide) (by decide) (by first | exact Or.inl rfl | exact Or.inr rfl) ?_
    refine Or.inl ⟨rfl, rfl, ?_⟩
    cases hr : S.ses a b w with
    | none =>
      rw [hr] at s4
      have h4 : μ.ei s 0 = 0 := s4
      exact absurd (show μ.ei s (Int32.toNatClampNeg 0) ≤ 0 by rw [show Int32.toNatClampNeg 0 = 0 from rfl, h4]; decide) c1
    | some r => exact ⟨r, rfl⟩

set_option maxRecDepth 100000 in
set_option maxHeartbeats 1000000 in
theorem k_X9_age (l : Launch) (G : Gx) (Q : Nat → Nat) (S : Sx) (t : Int32) (μ : Mem) (hM : MRq Q S (LXo S t) μ) (a : Nat) (ha : a < 3) (xa : Int32) (hxa : xa = nI a) (b : Nat) (hb : b < 3) (xb : Int32) (hxb : xb = nI b) (w : Nat) (hw : w < 3) (xw : Int32) (hxw : xw = nI w) (r : Ses) (hr : S.ses a b w = some r) : Kon l yX9_age cX9_age 4 (some .int) 0 0 0 0 G [.ref (Q 0), .int xa, .int xb, .int xw] μ (pI fun v μ' => μ = μ' ∧ v = S.sc 0 - r.1 2) noX := by
  refine Kon.ofG (by decide +kernel) (Nat.le_of_ble_eq_true rfl) (Nat.le_of_ble_eq_true rfl) (fun Z hZG C E NT MT => ?_)
  subst hZG
  have C : Cx Z RX9 cX9_age 0 0 0 0 := C
  show HW Z 0 0 0 [some (.ref (Q 0)), some (.int xa), some (.int xb), some (.int xw)] [] μ
  subst hxa
  subst hxb
  subst hxw
  refine h_al_g C dX9_age_0 rfl rfl rfv_r ?_
  refine gf_X9_129 C dX9_age_1 hM.kX hM.f288 ?_
  refine h_al_g C dX9_age_4 rfl rfl rfv_r ?_
  refine gs_X9_72 C dX9_age_5 hM.kX (hM.fA (i := 18) (by decide)) ?_
  refine h_iload_g C dX9_age_8 rfl rfl ?_
  refine h_aald (r := some _) C dX9_age_9 (hM.kr (by decide)) (inb (hM.ln3 (by decide)) (vp_in_nI ha (by decide))) (atI (cl_of (n := a) (by have h9 := ha; omega)) (hM.d1 (i := 1) (by decide) ha)) ?_
  refine h_iload_g C dX9_age_10 rfl rfl ?_
  refine h_aald (r := some _) C dX9_age_11 (hM.kr (by have h0_ := ha; omega)) (inb (hM.ln3 (by have h0_ := ha; omega)) (vp_in_nI hb (by decide))) (atI (cl_of (n := b) (by have h9 := hb; omega)) (hM.d2 (i := 1) (by decide) ha hb)) ?_
  obtain ⟨s, s1, s2, s3, s4⟩ := hM.se ha hb (w := w) hw (fun z => z)
  rw [hr] at s4
  refine h_iload_g C dX9_age_12 rfl rfl ?_
  refine h_aald (r := some _) C dX9_age_13 (hM.kr (by omega)) (inb (hM.ln3 (by omega)) (vp_in_nI hw (by decide))) (atI (cl_of (n := w) (by have h9 := hw; omega)) s1) ?_
  refine h_iconst (v := 2) C dX9_age_14 (by decide) ?_
  refine h_iald C dX9_age_15 (by rw [s2]; exact KSE_m _ _ _) (inb s3 (vp_in_nI (n := 2) (by decide) (by decide))) (s4.2 2 (by decide)) ?_
  refine h_isub C dX9_age_16 ?_
  refine h_iret C E dX9_age_17 (by decide) (by decide) ?_
  exact ⟨_, rfl, rfl, rfl⟩

set_option maxRecDepth 100000 in
set_option maxHeartbeats 1000000 in
theorem k_X9_usable (l : Launch) (G : Gx) (Q : Nat → Nat) (S : Sx) (t : Int32) (μ : Mem) (hM : MRq Q S (LXo S t) μ) (a : Nat) (ha : a < 3) (xa : Int32) (hxa : xa = nI a) (b : Nat) (hb : b < 3) (xb : Int32) (hxb : xb = nI b) : Kon l yX9_usable cX9_usable 3 (some .boolean) 1 0 0 23 G [.ref (Q 0), .int xa, .int xb] μ (pB (fun μ' => μ = μ' ∧ ∃ r, USE S a b = some r) (fun μ' => μ = μ' ∧ USE S a b = none)) noX := by
  refine Kon.ofG (by decide +kernel) (Nat.le_of_ble_eq_true rfl) (Nat.le_of_ble_eq_true rfl) (fun Z hZG C E NT MT => ?_)
  subst hZG
  have C : Cx Z RX9 cX9_usable 1 0 0 23 := C
  show HW Z 0 0 0 [some (.ref (Q 0)), some (.int xa), some (.int xb)] [] μ
  subst hxa
  subst hxb
  have h1_ : 1 < 3 := by decide
  refine h_al_g C dX9_usable_0 rfl rfl rfv_r ?_
  refine h_iload_g C dX9_usable_1 rfl rfl ?_
  refine h_iload_g C dX9_usable_2 rfl rfl ?_
  refine h_iconst (v := 1) C dX9_usable_3 (by decide) ?_
  refine h_callV3 (ci := 9) C (k_X9_isThere Z.l Z.G Q S t _ hM _ ha _ rfl _ hb _ rfl 1 h1_ 1 rfl) cw_X9_166 im_X9_isThere sl_X9_isThere rfl (by decide) hM.kX dX9_usable_4 (by first | decide | exact Nat.le_of_ble_eq_true rfl) (by decide) (by decide) (by decide) (by decide) (kB (fun μ1 hp1 => ?_) (fun μ1 hp1 => ?_)) kN
  · obtain ⟨rfl, r, hr⟩ := hp1
    refine h_if_eq (tgt := 43) C dX9_usable_7 (by decide) (fun c1 => absurd c1 (by decide)) (fun c1 => ?_)
    refine h_al_g C dX9_usable_10 rfl rfl rfv_r ?_
    refine h_iload_g C dX9_usable_11 rfl rfl ?_
    refine h_iload_g C dX9_usable_12 rfl rfl ?_
    refine h_iconst (v := 1) C dX9_usable_13 (by decide) ?_
    refine h_callV3 (ci := 9) C (k_X9_age Z.l Z.G Q S t _ hM _ ha _ rfl _ hb _ rfl 1 h1_ 1 rfl r hr) cw_X9_170 im_X9_age sl_X9_age rfl (by decide) hM.kX dX9_usable_14 (by first | decide | exact Nat.le_of_ble_eq_true rfl) (by decide) (by decide) (by decide) (by decide) (kI fun r2 μ2 hp2 => ?_) kN
    obtain ⟨rfl, rfl⟩ := hp2
    refine h_bipush (v := 30) C dX9_usable_17 (by decide) ?_
    refine h_icmp_ge (tgt := 43) C dX9_usable_19 (by decide) (fun c1 => ?_) (fun c1 => ?_)
    · refine h_iconst (v := 0) C dX9_usable_43 (by decide) ?_
      refine h_zret C E dX9_usable_44 (by decide) (by decide) (by first | exact Or.inl rfl | exact Or.inr rfl) ?_
      exact Or.inr ⟨rfl, rfl, by unfold USE; rw [hr]; exact if_neg fun z => absurd z.1 (Int32.not_lt.mpr c1)⟩
    · refine h_al_g C dX9_usable_22 rfl rfl rfv_r ?_
      refine gs_X9_72 C dX9_usable_23 hM.kX (hM.fA (i := 18) (by decide)) ?_
      refine h_iload_g C dX9_usable_26 rfl rfl ?_
      refine h_aald (r := some _) C dX9_usable_27 (hM.kr (by decide)) (inb (hM.ln3 (by decide)) (vp_in_nI ha (by decide))) (atI (cl_of (n := a) (by have h9 := ha; omega)) (hM.d1 (i := 1) (by decide) ha)) ?_
      refine h_iload_g C dX9_usable_28 rfl rfl ?_
      refine h_aald (r := some _) C dX9_usable_29 (hM.kr (by have h0_ := ha; omega)) (inb (hM.ln3 (by have h0_ := ha; omega)) (vp_in_nI hb (by decide))) (atI (cl_of (n := b) (by have h9 := hb; omega)) (hM.d2 (i := 1) (by decide) ha hb)) ?_
      obtain ⟨s, s1, s2, s3, s4⟩ := hM.se ha hb (w := 1) (by decide) (fun z => z)
      rw [hr] at s4
      refine h_iconst (v := 1) C dX9_usable_30 (by decide) ?_
      refine h_aald (r := some _) C dX9_usable_31 (hM.kr (by omega)) (inb (hM.ln3 (by omega)) (vp_in_nI (n := 1) (by decide) (by decide))) (atI (show Int32.toNatClampNeg 1 = 1 from rfl) s1) ?_
      refine h_iconst (v := 5) C dX9_usable_32 (by decide) ?_
      refine h_iald C dX9_usable_33 (by rw [s2]; exact KSE_m _ _ _) (inb s3 (vp_in_nI (n := 5) (by decide) (by decide))) (s4.2 5 (by decide)) ?_
      refine h_bipush (v := 40) C dX9_usable_34 (by decide) ?_
      refine h_icmp_ge (tgt := 43) C dX9_usable_36 (by decide) (fun c2 => ?_) (fun c2 => ?_)
      · refine h_iconst (v := 0) C dX9_usable_43 (by decide) ?_
        refine h_zret C E dX9_usable_44 (by decide) (by decide) (by first | exact Or.inl rfl | exact Or.inr rfl) ?_
        exact Or.inr ⟨rfl, rfl, by unfold USE; rw [hr]; exact if_neg fun z => absurd z.2 (Int32.not_lt.mpr c2)⟩
      · refine h_iconst (v := 1) C dX9_usable_39 (by decide) ?_
        refine h_goto (tgt := 44) C dX9_usable_40 (by decide) ?_
        refine h_zret C E dX9_usable_44 (by decide) (by decide) (by first | exact Or.inl rfl | exact Or.inr rfl) ?_
        exact Or.inl ⟨rfl, rfl, r, by unfold USE; rw [hr]; exact if_pos ⟨Int32.not_le.mp c1, Int32.not_le.mp c2⟩⟩
  · obtain ⟨rfl, hr⟩ := hp1
    refine h_if_eq (tgt := 43) C dX9_usable_7 (by decide) (fun c4 => ?_) (fun c4 => absurd (by decide) c4)
    refine h_iconst (v := 0) C dX9_usable_43 (by decide) ?_
    refine h_zret C E dX9_usable_44 (by decide) (by decide) (by first | exact Or.inl rfl | exact Or.inr rfl) ?_
    exact Or.inr ⟨rfl, rfl, by unfold USE; rw [hr]⟩

set_option maxRecDepth 100000 in
set_option maxHeartbeats 1000000 in
theorem k_X9_wasTurned (l : Launch) (G : Gx) (x9 : Nat) (μ : Mem) (z : Nat) (r : Row) (z1 : RowAt μ KLR z 16 r) (hf : r 15 = -1 ∨ (0 ≤ (r 15).toInt ∧ (r 15).toInt < 6)) : Kon l yX9_wasTurned cX9_wasTurned 2 (some .boolean) 0 0 0 0 G [.ref x9, .ref z] μ (pB (fun μ' => μ = μ' ∧ DIF r) (fun μ' => μ = μ' ∧ ¬ DIF r)) noX := by
  refine Kon.ofG (by decide +kernel) (Nat.le_of_ble_eq_true rfl) (Nat.le_of_ble_eq_true rfl) (fun Z hZG C E NT MT => ?_)
  subst hZG
  have C : Cx Z RX9 cX9_wasTurned 0 0 0 0 := C
  show HW Z 0 0 0 [some (.ref x9), some (.ref z)] [] μ
  have g3 : 0 ≤ (r 15).toInt ∧ (r 15).toInt < 6 → (3 + r 15 : Int32).toNatClampNeg = 3 + cl (r 15) ∧ vp_in (3 + r 15) (μ.ln z) ∧ (9 + r 15 : Int32).toNatClampNeg = 9 + cl (r 15) ∧ vp_in (9 + r 15) (μ.ln z) := fun h => by
    have e1 := cl_eq h.1
    have e3 : (3 + r 15 : Int32) = nI (3 + cl (r 15)) := by
      refine (congrArg (fun q => 3 + q) (cl_nI h.1)).trans ?_
      exact nI_add 3 _
    have e9 : (9 + r 15 : Int32) = nI (9 + cl (r 15)) := by
      refine (congrArg (fun q => 9 + q) (cl_nI h.1)).trans ?_
      exact nI_add 9 _
    rw [z1.2.1]
    exact ⟨by rw [e3]; exact cl_of (by omega), by rw [e3]; exact vp_in_nI (by omega) (by decide), by rw [e9]; exact cl_of (by omega), by rw [e9]; exact vp_in_nI (by omega) (by decide)⟩
  refine h_al_g C dX9_wasTurned_0 rfl rfl rfv_r ?_
  refine h_bipush (v := 15) C dX9_wasTurned_1 (by decide) ?_
  refine h_iald C dX9_wasTurned_3 (by rw [z1.1]; decide) (inb z1.2.1 (vp_in_nI (n := 15) (by decide) (by decide))) (z1.2.2 15 (by decide)) ?_
  refine h_iconst (v := (-1)) C dX9_wasTurned_4 (by decide) ?_
  refine h_icmp_eq (tgt := 32) C dX9_wasTurned_5 (by decide) (fun c1 => ?_) (fun c1 => ?_)
  · refine h_iconst (v := 0) C dX9_wasTurned_32 (by decide) ?_
    refine h_zret C E dX9_wasTurned_33 (by decide) (by decide) (by first | exact Or.inl rfl | exact Or.inr rfl) ?_
    exact Or.inr ⟨rfl, rfl, fun h => h.1 c1⟩
  · have hf6 := hf.resolve_left c1
    obtain ⟨g4, g5, g6, g7⟩ := g3 hf6
    refine h_al_g C dX9_wasTurned_8 rfl rfl rfv_r ?_
    refine h_iconst (v := 3) C dX9_wasTurned_9 (by decide) ?_
    refine h_al_g C dX9_wasTurned_10 rfl rfl rfv_r ?_
    refine h_bipush (v := 15) C dX9_wasTurned_11 (by decide) ?_
    refine h_iald C dX9_wasTurned_13 (by rw [z1.1]; decide) (inb z1.2.1 (vp_in_nI (n := 15) (by decide) (by decide))) (z1.2.2 15 (by decide)) ?_
    refine h_iadd C dX9_wasTurned_14 ?_
    refine h_iald C dX9_wasTurned_15 (by rw [z1.1]; decide) g5 (atI g4 (z1.2.2 _ (by have := cl_eq hf6.1; omega))) ?_
    refine h_al_g C dX9_wasTurned_16 rfl rfl rfv_r ?_
    refine h_bipush (v := 9) C dX9_wasTurned_17 (by decide) ?_
    refine h_al_g C dX9_wasTurned_19 rfl rfl rfv_r ?_
    refine h_bipush (v := 15) C dX9_wasTurned_20 (by decide) ?_
    refine h_iald C dX9_wasTurned_22 (by rw [z1.1]; decide) (inb z1.2.1 (vp_in_nI (n := 15) (by decide) (by decide))) (z1.2.2 15 (by decide)) ?_
    refine h_iadd C dX9_wasTurned_23 ?_
    refine h_iald C dX9_wasTurned_24 (by rw [z1.1]; decide) g7 (atI g6 (z1.2.2 _ (by have := cl_eq hf6.1; omega))) ?_
    refine h_icmp_eq (tgt := 32) C dX9_wasTurned_25 (by decide) (fun c2 => ?_) (fun c2 => ?_)
    · refine h_iconst (v := 0) C dX9_wasTurned_32 (by decide) ?_
      refine h_zret C E dX9_wasTurned_33 (by decide) (by decide) (by first | exact Or.inl rfl | exact Or.inr rfl) ?_
      refine Or.inr ⟨rfl, rfl, fun h => h.2 ?_⟩
      unfold FLDv ORIG
      rw [if_pos hf6, if_neg c1]
      exact c2
    · refine h_iconst (v := 1) C dX9_wasTurned_28 (by decide) ?_
      refine h_goto (tgt := 33) C dX9_wasTurned_29 (by decide) ?_
      refine h_zret C E dX9_wasTurned_33 (by decide) (by decide) (by first | exact Or.inl rfl | exact Or.inr rfl) ?_
      refine Or.inl ⟨rfl, rfl, c1, fun h => c2 ?_⟩
      unfold FLDv ORIG at h
      rw [if_pos hf6, if_neg c1] at h
      exact h

end
