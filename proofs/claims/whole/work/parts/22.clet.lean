section
def FLDv (r : Row) (f : Int32) : Int32 := if 0 ≤ f.toInt ∧ f.toInt < 6 then r (3 + cl f) else 0
def TPn (k : Int32) : Nat := if k = 1 then 4 else if k = 2 then 3 else if k = 3 then 2 else 5
theorem TP_n (k : Int32) : TP k = nI (TPn k) := by
  unfold TP TPn
  split; rfl; split; rfl; split <;> rfl
theorem TPn_rng (k : Int32) : 2 ≤ TPn k ∧ TPn k < 6 := by
  unfold TPn
  split; decide; split; decide; split <;> decide
def TAGR (r : Row) : Int32 := r (3 + TPn (r 2))
def SEALR (K : Nat) (r : Row) : Int32 := nI (SEALc K (r 2).toInt (fun i => (r (3 + i)).toInt) (TPn (r 2))).toNat
def CTN (k f : Int32) : Prop := (k = 1 ∧ (f = 3 ∨ f = 4)) ∨ (k = 2 ∧ f = 3) ∨ (k = 3 ∧ (f = 1 ∨ f = 2)) ∨ (¬ k = 1 ∧ ¬ k = 2 ∧ ¬ k = 3 ∧ 1 ≤ f ∧ f ≤ 5)
theorem CTN1 {k f : Int32} (h : k = 1) : CTN k f ↔ (f = 3 ∨ f = 4) := ⟨fun z => by
  subst h
  rcases z with ⟨_, z⟩ | ⟨z, _⟩ | ⟨z, _⟩ | ⟨z, _⟩
  · exact z
  · exact absurd z (by decide)
  · exact absurd z (by decide)
  · exact absurd rfl z, fun z => Or.inl ⟨h, z⟩⟩
theorem CTN2 {k f : Int32} (h : k = 2) : CTN k f ↔ f = 3 := ⟨fun z => by
  subst h
  rcases z with ⟨z, _⟩ | ⟨_, z⟩ | ⟨z, _⟩ | ⟨_, z, _⟩
  · exact absurd z (by decide)
  · exact z
  · exact absurd z (by decide)
  · exact absurd rfl z, fun z => Or.inr (Or.inl ⟨h, z⟩)⟩
theorem CTN3 {k f : Int32} (h : k = 3) : CTN k f ↔ (f = 1 ∨ f = 2) := ⟨fun z => by
  subst h
  rcases z with ⟨z, _⟩ | ⟨z, _⟩ | ⟨_, z⟩ | ⟨_, _, z, _⟩
  · exact absurd z (by decide)
  · exact absurd z (by decide)
  · exact z
  · exact absurd rfl z, fun z => Or.inr (Or.inr (Or.inl ⟨h, z⟩))⟩
theorem CTN4 {k f : Int32} (h1 : ¬ k = 1) (h2 : ¬ k = 2) (h3 : ¬ k = 3) : CTN k f ↔ (1 ≤ f ∧ f ≤ 5) := ⟨fun z => by
  rcases z with ⟨z, _⟩ | ⟨z, _⟩ | ⟨z, _⟩ | ⟨_, _, _, z⟩
  · exact absurd z h1
  · exact absurd z h2
  · exact absurd z h3
  · exact z, fun z => Or.inr (Or.inr (Or.inr ⟨h1, h2, h3, z⟩))⟩
def DIF (r : Row) : Prop := ¬ r 15 = -1 ∧ ¬ FLDv r (r 15) = ORIG r
def LTR (S : Sx) (i : Nat) : Row := (S.nt[i]?).getD (fun _ => 0)
theorem LTR_eq {S : Sx} {i : Nat} {r : Row} (h : S.nt[i]? = some r) : LTR S i = r := by unfold LTR; rw [h]; rfl
set_option maxRecDepth 100000 in
set_option maxHeartbeats 4000000 in
theorem k_X2_fieldAt (l : Launch) (G : Gx) (μ : Mem) (k p : Nat) (r : Row) (hl : LeAt μ k p r) (hk : k % 32 = 4) (f : Int32) : Kon l yX2_fieldAt cX2_fieldAt 2 (some .int) 0 0 0 0 G [.ref p, .int f] μ (pI fun v μ' => μ = μ' ∧ v = FLDv r f) noX := by
  refine Kon.ofG (by decide +kernel) (Nat.le_of_ble_eq_true rfl) (Nat.le_of_ble_eq_true rfl) (fun Z hZG C E NT MT => ?_)
  subst hZG
  have C : Cx Z RX2 cX2_fieldAt 0 0 0 0 := C
  show HW Z 0 0 0 [some (.ref p), some (.int f)] [] μ
  obtain ⟨fa, b1, b2, b3, b4⟩ := LeAt.fa hl
  refine h_iload_g C dX2_fieldAt_0 rfl rfl ?_
  refine h_if_lt (tgt := 22) C dX2_fieldAt_1 (by decide) (fun c1 => ?_) (fun c1 => ?_)
  · refine h_iconst (v := 0) C dX2_fieldAt_22 (by decide) ?_
    refine h_iret C E dX2_fieldAt_23 (by decide) (by decide) ?_
    exact ⟨_, rfl, rfl, (if_neg fun h => by simp only [Int32.lt_iff_toInt_lt, Int32.le_iff_toInt_le, tl_m10000, tl_m1000, tl_m500, tl_m7, tl_m6, tl_m5, tl_m4, tl_m3, tl_m2, tl_m1, tl_0, tl_1, tl_2, tl_3, tl_4, tl_5, tl_6, tl_7, tl_8, tl_9, tl_10, tl_11, tl_15, tl_16, tl_20, tl_30, tl_40, tl_60, tl_99, tl_100, tl_211, tl_255, tl_307, tl_500, tl_1018, tl_2038, tl_2039, tl_9999, tl_10000, tl_65280, tl_65520, tl_65521, tl_1000000, tl_500000000] at c1; omega).symm⟩
  · refine h_iload_g C dX2_fieldAt_4 rfl rfl ?_
    refine h_al_g C dX2_fieldAt_5 rfl rfl rfv_r ?_
    refine gs_X2_11 C dX2_fieldAt_6 (LeAt.k hl hk) b1 ?_
    refine h_alen C dX2_fieldAt_9 (⟨by rw [b2]; decide, by rw [b2]; decide⟩) b3 ?_
    rw [show (Int32.ofNat 6 : Int32) = 6 from rfl]
    refine h_icmp_ge (tgt := 22) C dX2_fieldAt_10 (by decide) (fun c2 => ?_) (fun c2 => ?_)
    · refine h_iconst (v := 0) C dX2_fieldAt_22 (by decide) ?_
      refine h_iret C E dX2_fieldAt_23 (by decide) (by decide) ?_
      exact ⟨_, rfl, rfl, (if_neg fun h => by simp only [Int32.lt_iff_toInt_lt, Int32.le_iff_toInt_le, tl_m10000, tl_m1000, tl_m500, tl_m7, tl_m6, tl_m5, tl_m4, tl_m3, tl_m2, tl_m1, tl_0, tl_1, tl_2, tl_3, tl_4, tl_5, tl_6, tl_7, tl_8, tl_9, tl_10, tl_11, tl_15, tl_16, tl_20, tl_30, tl_40, tl_60, tl_99, tl_100, tl_211, tl_255, tl_307, tl_500, tl_1018, tl_2038, tl_2039, tl_9999, tl_10000, tl_65280, tl_65520, tl_65521, tl_1000000, tl_500000000] at c1 c2; omega).symm⟩
    · simp only [Int32.lt_iff_toInt_lt, Int32.le_iff_toInt_le, tl_m10000, tl_m1000, tl_m500, tl_m7, tl_m6, tl_m5, tl_m4, tl_m3, tl_m2, tl_m1, tl_0, tl_1, tl_2, tl_3, tl_4, tl_5, tl_6, tl_7, tl_8, tl_9, tl_10, tl_11, tl_15, tl_16, tl_20, tl_30, tl_40, tl_60, tl_99, tl_100, tl_211, tl_255, tl_307, tl_500, tl_1018, tl_2038, tl_2039, tl_9999, tl_10000, tl_65280, tl_65520, tl_65521, tl_1000000, tl_500000000] at c1 c2
      have hf6 : 0 ≤ f.toInt ∧ f.toInt < 6 := ⟨by omega, by omega⟩
      refine h_al_g C dX2_fieldAt_13 rfl rfl rfv_r ?_
      refine gs_X2_11 C dX2_fieldAt_14 (LeAt.k hl hk) b1 ?_
      refine h_iload_g C dX2_fieldAt_17 rfl rfl ?_
      refine h_iald C dX2_fieldAt_18 b2 (by rw [b3]; exact vp_isE hf6.1 hf6.2 (by decide)) (b4 (cl f) (by have := cl_eq hf6.1; omega)) ?_
      refine h_goto (tgt := 23) C dX2_fieldAt_19 (by decide) ?_
      refine h_iret C E dX2_fieldAt_23 (by decide) (by decide) ?_
      exact ⟨_, rfl, rfl, (if_pos hf6).symm⟩

set_option maxRecDepth 100000 in
set_option maxHeartbeats 4000000 in
theorem k_X2_tag (l : Launch) (G : Gx) (μ : Mem) (k p : Nat) (r : Row) (hl : LeAt μ k p r) (hk : k % 32 = 4) : Kon l yX2_tag cX2_tag 1 (some .int) 1 0 0 21 G [.ref p] μ (pI fun v μ' => μ = μ' ∧ v = TAGR r) noX := by
  refine Kon.ofG (by decide +kernel) (Nat.le_of_ble_eq_true rfl) (Nat.le_of_ble_eq_true rfl) (fun Z hZG C E NT MT => ?_)
  subst hZG
  have C : Cx Z RX2 cX2_tag 1 0 0 21 := C
  show HW Z 0 0 0 [some (.ref p)] [] μ
  refine h_al_g C dX2_tag_0 rfl rfl rfv_r ?_
  refine h_al_g C dX2_tag_1 rfl rfl rfv_r ?_
  refine gf_X2_38 C dX2_tag_2 (LeAt.k hl hk) (LeAt.f98 hl) ?_
  refine h_callV1 (ci := 3) C (k_X2_fieldAt Z.l Z.G _ _ _ _ hl hk _) cw_X2_44 im_X2_fieldAt sl_X2_fieldAt rfl (by decide) (LeAt.k hl hk) dX2_tag_5 (by first | decide | exact Nat.le_of_ble_eq_true rfl) (by decide) (by decide) (by decide) (by decide) (kI fun r1 μ1 hp1 => ?_) kN
  obtain ⟨rfl, rfl⟩ := hp1
  refine h_iret C E dX2_tag_8 (by decide) (by decide) ?_
  refine ⟨_, rfl, rfl, ?_⟩
  have h9 := TPn_rng (r 2)
  have e9 : (nI (TPn (r 2))).toInt = (TPn (r 2) : Int) := nI_toInt (by omega)
  unfold FLDv TAGR
  rw [TP_n, if_pos ⟨by omega, by omega⟩, cl_of (by omega)]

set_option maxRecDepth 100000 in
set_option maxHeartbeats 4000000 in
theorem k_X2_isRightBy (l : Launch) (G : Gx) (μ : Mem) (k p : Nat) (r : Row) (hl : LeAt μ k p r) (hk : k % 32 = 4) (x : Int32) (K : Nat) (hx : x = nI K) (hK : K < 65521) : Kon l yX2_isRightBy cX2_isRightBy 2 (some .boolean) 2 0 0 126 G [.ref p, .int x] μ (pB (fun μ' => μ = μ' ∧ TAGR r = SEALR K r) (fun μ' => μ = μ' ∧ ¬ TAGR r = SEALR K r)) noX := by
  refine Kon.ofG (by decide +kernel) (Nat.le_of_ble_eq_true rfl) (Nat.le_of_ble_eq_true rfl) (fun Z hZG C E NT MT => ?_)
  subst hZG
  have C : Cx Z RX2 cX2_isRightBy 2 0 0 126 := C
  show HW Z 0 0 0 [some (.ref p), some (.int x)] [] μ
  subst hx
  obtain ⟨fa, b1, b2, b3, b4⟩ := LeAt.fa hl
  have h9 := TPn_rng (r 2)
  refine h_al_g C dX2_isRightBy_0 rfl rfl rfv_r ?_
  refine h_callV0 (ci := 3) (a_ := .null) C (k_X2_tag Z.l Z.G _ _ _ _ hl hk) cw_X2_57 im_X2_tag sl_X2_tag rfl (by decide) (LeAt.k hl hk) dX2_isRightBy_1 (by first | decide | exact Nat.le_of_ble_eq_true rfl) (by decide) (by decide) (by decide) (by decide) (kI fun r1 μ1 hp1 => ?_) kN
  obtain ⟨rfl, rfl⟩ := hp1
  refine h_iload_g C dX2_isRightBy_4 rfl rfl ?_
  refine h_al_g C dX2_isRightBy_5 rfl rfl rfv_r ?_
  refine gf_X2_25 C dX2_isRightBy_6 (LeAt.k hl hk) (LeAt.f96 hl) ?_
  refine h_al_g C dX2_isRightBy_9 rfl rfl rfv_r ?_
  refine gs_X2_11 C dX2_isRightBy_10 (LeAt.k hl hk) b1 ?_
  refine h_al_g C dX2_isRightBy_13 rfl rfl rfv_r ?_
  refine gf_X2_38 C dX2_isRightBy_14 (LeAt.k hl hk) (LeAt.f98 hl) ?_
  refine h_callS4 C (k_X4_sealOf Z.l Z.G _ _ _ fa K (TPn (r 2)) (fun i => r (3 + i)) rfl hK (TP_n _) (by omega) _ b2 (by rw [b3]; decide) (by rw [b3]; omega) (fun i hi => b4 i (by omega))) cw_X2_51 st_X4_sealOf dX2_isRightBy_17 (by first | decide | exact Nat.le_of_ble_eq_true rfl) (by decide) (by decide) (by decide) (by decide) (kI fun r2 μ2 hp2 => ?_) kN
  obtain ⟨rfl, rfl⟩ := hp2
  refine h_icmp_ne (tgt := 27) C dX2_isRightBy_20 (by decide) (fun c9 => ?_) (fun c9 => ?_)
  · refine h_iconst (v := 0) C dX2_isRightBy_27 (by decide) ?_
    refine h_zret C E dX2_isRightBy_28 (by decide) (by decide) (by first | exact Or.inl rfl | exact Or.inr rfl) ?_
    exact Or.inr ⟨rfl, rfl, fun h => c9 h⟩
  · refine h_iconst (v := 1) C dX2_isRightBy_23 (by decide) ?_
    refine h_goto (tgt := 28) C dX2_isRightBy_24 (by decide) ?_
    refine h_zret C E dX2_isRightBy_28 (by decide) (by decide) (by first | exact Or.inl rfl | exact Or.inr rfl) ?_
    exact Or.inl ⟨rfl, rfl, c9⟩

set_option maxRecDepth 100000 in
set_option maxHeartbeats 4000000 in
theorem k_X2_canTurn (l : Launch) (G : Gx) (μ : Mem) (k p : Nat) (r : Row) (hl : LeAt μ k p r) (hk : k % 32 = 4) (f : Int32) : Kon l yX2_canTurn cX2_canTurn 2 (some .boolean) 0 0 0 0 G [.ref p, .int f] μ (pB (fun μ' => μ = μ' ∧ CTN (r 2) f) (fun μ' => μ = μ' ∧ ¬ CTN (r 2) f)) noX := by
  refine Kon.ofG (by decide +kernel) (Nat.le_of_ble_eq_true rfl) (Nat.le_of_ble_eq_true rfl) (fun Z hZG C E NT MT => ?_)
  subst hZG
  have C : Cx Z RX2 cX2_canTurn 0 0 0 0 := C
  show HW Z 0 0 0 [some (.ref p), some (.int f)] [] μ
  refine h_al_g C dX2_canTurn_0 rfl rfl rfv_r ?_
  refine gf_X2_25 C dX2_canTurn_1 (LeAt.k hl hk) (LeAt.f96 hl) ?_
  by_cases hv1 : r 2 = 1
  · refine h_tableIn (off := 28) (tgt := 32) C dX2_canTurn_4 (by rw [hv1]; decide) (by rw [hv1]; decide) (by rw [hv1]; rfl) (by decide) ?_
    refine h_iload_g C dX2_canTurn_32 rfl rfl ?_
    refine h_iconst (v := 3) C dX2_canTurn_33 (by decide) ?_
    refine h_icmp_eq (tgt := 42) C dX2_canTurn_34 (by decide) (fun c1 => ?_) (fun c1 => ?_)
    · refine h_iconst (v := 1) C dX2_canTurn_42 (by decide) ?_
      refine h_goto (tgt := 47) C dX2_canTurn_43 (by decide) ?_
      refine h_zret C E dX2_canTurn_47 (by decide) (by decide) (by first | exact Or.inl rfl | exact Or.inr rfl) ?_
      exact Or.inl ⟨rfl, rfl, (CTN1 hv1).mpr (Or.inl c1)⟩
    · refine h_iload_g C dX2_canTurn_37 rfl rfl ?_
      refine h_iconst (v := 4) C dX2_canTurn_38 (by decide) ?_
      refine h_icmp_ne (tgt := 46) C dX2_canTurn_39 (by decide) (fun c2 => ?_) (fun c2 => ?_)
      · refine h_iconst (v := 0) C dX2_canTurn_46 (by decide) ?_
        refine h_zret C E dX2_canTurn_47 (by decide) (by decide) (by first | exact Or.inl rfl | exact Or.inr rfl) ?_
        exact Or.inr ⟨rfl, rfl, fun h => ((CTN1 hv1).mp h).elim c1 c2⟩
      · refine h_iconst (v := 1) C dX2_canTurn_42 (by decide) ?_
        refine h_goto (tgt := 47) C dX2_canTurn_43 (by decide) ?_
        refine h_zret C E dX2_canTurn_47 (by decide) (by decide) (by first | exact Or.inl rfl | exact Or.inr rfl) ?_
        exact Or.inl ⟨rfl, rfl, (CTN1 hv1).mpr (Or.inr (c2))⟩
  by_cases hv2 : r 2 = 2
  · refine h_tableIn (off := 44) (tgt := 48) C dX2_canTurn_4 (by rw [hv2]; decide) (by rw [hv2]; decide) (by rw [hv2]; rfl) (by decide) ?_
    refine h_iload_g C dX2_canTurn_48 rfl rfl ?_
    refine h_iconst (v := 3) C dX2_canTurn_49 (by decide) ?_
    refine h_icmp_ne (tgt := 57) C dX2_canTurn_50 (by decide) (fun c1 => ?_) (fun c1 => ?_)
    · refine h_iconst (v := 0) C dX2_canTurn_57 (by decide) ?_
      refine h_zret C E dX2_canTurn_58 (by decide) (by decide) (by first | exact Or.inl rfl | exact Or.inr rfl) ?_
      exact Or.inr ⟨rfl, rfl, fun h => c1 ((CTN2 hv2).mp h)⟩
    · refine h_iconst (v := 1) C dX2_canTurn_53 (by decide) ?_
      refine h_goto (tgt := 58) C dX2_canTurn_54 (by decide) ?_
      refine h_zret C E dX2_canTurn_58 (by decide) (by decide) (by first | exact Or.inl rfl | exact Or.inr rfl) ?_
      exact Or.inl ⟨rfl, rfl, (CTN2 hv2).mpr (c1)⟩
  by_cases hv3 : r 2 = 3
  · refine h_tableIn (off := 55) (tgt := 59) C dX2_canTurn_4 (by rw [hv3]; decide) (by rw [hv3]; decide) (by rw [hv3]; rfl) (by decide) ?_
    refine h_iload_g C dX2_canTurn_59 rfl rfl ?_
    refine h_iconst (v := 1) C dX2_canTurn_60 (by decide) ?_
    refine h_icmp_eq (tgt := 69) C dX2_canTurn_61 (by decide) (fun c1 => ?_) (fun c1 => ?_)
    · refine h_iconst (v := 1) C dX2_canTurn_69 (by decide) ?_
      refine h_goto (tgt := 74) C dX2_canTurn_70 (by decide) ?_
      refine h_zret C E dX2_canTurn_74 (by decide) (by decide) (by first | exact Or.inl rfl | exact Or.inr rfl) ?_
      exact Or.inl ⟨rfl, rfl, (CTN3 hv3).mpr (Or.inl c1)⟩
    · refine h_iload_g C dX2_canTurn_64 rfl rfl ?_
      refine h_iconst (v := 2) C dX2_canTurn_65 (by decide) ?_
      refine h_icmp_ne (tgt := 73) C dX2_canTurn_66 (by decide) (fun c2 => ?_) (fun c2 => ?_)
      · refine h_iconst (v := 0) C dX2_canTurn_73 (by decide) ?_
        refine h_zret C E dX2_canTurn_74 (by decide) (by decide) (by first | exact Or.inl rfl | exact Or.inr rfl) ?_
        exact Or.inr ⟨rfl, rfl, fun h => ((CTN3 hv3).mp h).elim c1 c2⟩
      · refine h_iconst (v := 1) C dX2_canTurn_69 (by decide) ?_
        refine h_goto (tgt := 74) C dX2_canTurn_70 (by decide) ?_
        refine h_zret C E dX2_canTurn_74 (by decide) (by decide) (by first | exact Or.inl rfl | exact Or.inr rfl) ?_
        exact Or.inl ⟨rfl, rfl, (CTN3 hv3).mpr (Or.inr (c2))⟩
  refine h_tableOut (tgt := 75) C dX2_canTurn_4 (by have z0 := ne_ti 1 1 (by decide) hv1; have z1 := ne_ti 2 2 (by decide) hv2; have z2 := ne_ti 3 3 (by decide) hv3; omega) (by decide) ?_
  refine h_iload_g C dX2_canTurn_75 rfl rfl ?_
  refine h_iconst (v := 1) C dX2_canTurn_76 (by decide) ?_
  refine h_icmp_lt (tgt := 89) C dX2_canTurn_77 (by decide) (fun c1 => ?_) (fun c1 => ?_)
  · refine h_iconst (v := 0) C dX2_canTurn_89 (by decide) ?_
    refine h_zret C E dX2_canTurn_90 (by decide) (by decide) (by first | exact Or.inl rfl | exact Or.inr rfl) ?_
    exact Or.inr ⟨rfl, rfl, fun h => absurd c1 (Int32.not_lt.mpr ((CTN4 hv1 hv2 hv3).mp h).1)⟩
  · refine h_iload_g C dX2_canTurn_80 rfl rfl ?_
    refine h_iconst (v := 5) C dX2_canTurn_81 (by decide) ?_
    refine h_icmp_gt (tgt := 89) C dX2_canTurn_82 (by decide) (fun c2 => ?_) (fun c2 => ?_)
    · refine h_iconst (v := 0) C dX2_canTurn_89 (by decide) ?_
      refine h_zret C E dX2_canTurn_90 (by decide) (by decide) (by first | exact Or.inl rfl | exact Or.inr rfl) ?_
      exact Or.inr ⟨rfl, rfl, fun h => absurd c2 (Int32.not_lt.mpr ((CTN4 hv1 hv2 hv3).mp h).2)⟩
    · refine h_iconst (v := 1) C dX2_canTurn_85 (by decide) ?_
      refine h_goto (tgt := 90) C dX2_canTurn_86 (by decide) ?_
      refine h_zret C E dX2_canTurn_90 (by decide) (by decide) (by first | exact Or.inl rfl | exact Or.inr rfl) ?_
      exact Or.inl ⟨rfl, rfl, (CTN4 hv1 hv2 hv3).mpr ⟨Int32.not_lt.mp c1, Int32.not_lt.mp c2⟩⟩

set_option maxRecDepth 100000 in
set_option maxHeartbeats 4000000 in
theorem k_X2_differs (l : Launch) (G : Gx) (μ : Mem) (k p : Nat) (r : Row) (hl : LeAt μ k p r) (hk : k % 32 = 4) : Kon l yX2_differs cX2_differs 1 (some .boolean) 1 0 0 21 G [.ref p] μ (pB (fun μ' => μ = μ' ∧ DIF r) (fun μ' => μ = μ' ∧ ¬ DIF r)) noX := by
  refine Kon.ofG (by decide +kernel) (Nat.le_of_ble_eq_true rfl) (Nat.le_of_ble_eq_true rfl) (fun Z hZG C E NT MT => ?_)
  subst hZG
  have C : Cx Z RX2 cX2_differs 1 0 0 21 := C
  show HW Z 0 0 0 [some (.ref p)] [] μ
  refine h_al_g C dX2_differs_0 rfl rfl rfv_r ?_
  refine gf_X2_19 C dX2_differs_1 (LeAt.k hl hk) (LeAt.f102 hl) ?_
  refine h_iconst (v := (-1)) C dX2_differs_4 (by decide) ?_
  refine h_icmp_eq (tgt := 27) C dX2_differs_5 (by decide) (fun c1 => ?_) (fun c1 => ?_)
  · refine h_iconst (v := 0) C dX2_differs_27 (by decide) ?_
    refine h_zret C E dX2_differs_28 (by decide) (by decide) (by first | exact Or.inl rfl | exact Or.inr rfl) ?_
    exact Or.inr ⟨rfl, rfl, fun h => h.1 c1⟩
  · refine h_al_g C dX2_differs_8 rfl rfl rfv_r ?_
    refine h_al_g C dX2_differs_9 rfl rfl rfv_r ?_
    refine gf_X2_19 C dX2_differs_10 (LeAt.k hl hk) (LeAt.f102 hl) ?_
    refine h_callV1 (ci := 3) C (k_X2_fieldAt Z.l Z.G _ _ _ _ hl hk _) cw_X2_44 im_X2_fieldAt sl_X2_fieldAt rfl (by decide) (LeAt.k hl hk) dX2_differs_13 (by first | decide | exact Nat.le_of_ble_eq_true rfl) (by decide) (by decide) (by decide) (by decide) (kI fun r1 μ1 hp1 => ?_) kN
    obtain ⟨rfl, rfl⟩ := hp1
    refine h_al_g C dX2_differs_16 rfl rfl rfv_r ?_
    refine gf_X2_22 C dX2_differs_17 (LeAt.k hl hk) (LeAt.f103 hl) ?_
    refine h_icmp_eq (tgt := 27) C dX2_differs_20 (by decide) (fun c2 => ?_) (fun c2 => ?_)
    · refine h_iconst (v := 0) C dX2_differs_27 (by decide) ?_
      refine h_zret C E dX2_differs_28 (by decide) (by decide) (by first | exact Or.inl rfl | exact Or.inr rfl) ?_
      exact Or.inr ⟨rfl, rfl, fun h => h.2 c2⟩
    · refine h_iconst (v := 1) C dX2_differs_23 (by decide) ?_
      refine h_goto (tgt := 28) C dX2_differs_24 (by decide) ?_
      refine h_zret C E dX2_differs_28 (by decide) (by decide) (by first | exact Or.inl rfl | exact Or.inr rfl) ?_
      exact Or.inl ⟨rfl, rfl, c1, c2⟩

end
