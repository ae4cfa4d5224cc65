section
set_option maxRecDepth 100000 in
set_option maxHeartbeats 4000000 in
theorem k_X1_init (l : Launch) (G : Gx) (q : Nat) (a b c e : Int32) (μ : Mem) (hk : μ.kd q % 32 = 3) : Kon l yX1_init cX1_init 5 none 1 0 0 12 G [.ref q, .int a, .int b, .int c, .int e] μ (pV fun μ' => μ' = ((((μ.sfi 64 q a).sfi 65 q b).sfi 66 q c).sfi 67 q e)) noX := by
  refine Kon.ofG (by decide +kernel) (Nat.le_of_ble_eq_true rfl) (Nat.le_of_ble_eq_true rfl) (fun Z hZG C E NT MT => ?_)
  subst hZG
  have C : Cx Z RX1 cX1_init 1 0 0 12 := C
  show HW Z 0 0 0 [some (.ref q), some (.int a), some (.int b), some (.int c), some (.int e)] [] μ
  refine h_al_g C dX1_init_0 rfl rfl rfv_r ?_
  refine h_objInit C ol_X1_1 im_obj cd_obj dX1_init_1 (by decide) (by decide) ?_
  refine h_al_g C dX1_init_4 rfl rfl rfv_r ?_
  refine h_iload_g C dX1_init_5 rfl rfl ?_
  refine pf_X1_7 C dX1_init_6 hk MT ?_
  refine h_al_g C dX1_init_9 rfl rfl rfv_r ?_
  refine h_iload_g C dX1_init_10 rfl rfl ?_
  refine pf_X1_13 C dX1_init_11 hk MT ?_
  refine h_al_g C dX1_init_14 rfl rfl rfv_r ?_
  refine h_iload_g C dX1_init_15 rfl rfl ?_
  refine pf_X1_16 C dX1_init_16 hk MT ?_
  refine h_al_g C dX1_init_19 rfl rfl rfv_r ?_
  refine h_iload_w C dX1_init_20 rfl ?_
  refine pf_X1_19 C dX1_init_22 hk MT ?_
  refine h_ret C E dX1_init_25 (by decide) (by decide) ?_
  exact ⟨rfl, rfl⟩

set_option maxRecDepth 100000 in
set_option maxHeartbeats 4000000 in
theorem k_X5_init (l : Launch) (G : Gx) (q : Nat) (a b c e : Int32) (μ : Mem) (hk : μ.kd q % 32 = 6) : Kon l yX5_init cX5_init 5 none 1 0 0 12 G [.ref q, .int a, .int b, .int c, .int e] μ (pV fun μ' => μ' = ((((μ.sfi 160 q a).sfi 161 q b).sfi 162 q c).sfi 163 q e)) noX := by
  refine Kon.ofG (by decide +kernel) (Nat.le_of_ble_eq_true rfl) (Nat.le_of_ble_eq_true rfl) (fun Z hZG C E NT MT => ?_)
  subst hZG
  have C : Cx Z RX5 cX5_init 1 0 0 12 := C
  show HW Z 0 0 0 [some (.ref q), some (.int a), some (.int b), some (.int c), some (.int e)] [] μ
  refine h_al_g C dX5_init_0 rfl rfl rfv_r ?_
  refine h_objInit C ol_X5_1 im_obj cd_obj dX5_init_1 (by decide) (by decide) ?_
  refine h_al_g C dX5_init_4 rfl rfl rfv_r ?_
  refine h_iload_g C dX5_init_5 rfl rfl ?_
  refine pf_X5_7 C dX5_init_6 hk MT ?_
  refine h_al_g C dX5_init_9 rfl rfl rfv_r ?_
  refine h_iload_g C dX5_init_10 rfl rfl ?_
  refine pf_X5_13 C dX5_init_11 hk MT ?_
  refine h_al_g C dX5_init_14 rfl rfl rfv_r ?_
  refine h_iload_g C dX5_init_15 rfl rfl ?_
  refine pf_X5_16 C dX5_init_16 hk MT ?_
  refine h_al_g C dX5_init_19 rfl rfl rfv_r ?_
  refine h_iload_w C dX5_init_20 rfl ?_
  refine pf_X5_19 C dX5_init_22 hk MT ?_
  refine h_ret C E dX5_init_25 (by decide) (by decide) ?_
  exact ⟨rfl, rfl⟩

set_option maxRecDepth 100000 in
set_option maxHeartbeats 4000000 in
theorem k_X6_init (l : Launch) (G : Gx) (q : Nat) (a b c : Int32) (μ : Mem) (hk : μ.kd q % 32 = 7) : Kon l yX6_init cX6_init 4 none 1 0 0 12 G [.ref q, .int a, .int b, .int c] μ (pV fun μ' => μ' = (((μ.sfi 192 q a).sfi 193 q b).sfi 194 q c)) noX := by
  refine Kon.ofG (by decide +kernel) (Nat.le_of_ble_eq_true rfl) (Nat.le_of_ble_eq_true rfl) (fun Z hZG C E NT MT => ?_)
  subst hZG
  have C : Cx Z RX6 cX6_init 1 0 0 12 := C
  show HW Z 0 0 0 [some (.ref q), some (.int a), some (.int b), some (.int c)] [] μ
  refine h_al_g C dX6_init_0 rfl rfl rfv_r ?_
  refine h_objInit C ol_X6_1 im_obj cd_obj dX6_init_1 (by decide) (by decide) ?_
  refine h_al_g C dX6_init_4 rfl rfl rfv_r ?_
  refine h_iload_g C dX6_init_5 rfl rfl ?_
  refine pf_X6_7 C dX6_init_6 hk MT ?_
  refine h_al_g C dX6_init_9 rfl rfl rfv_r ?_
  refine h_iload_g C dX6_init_10 rfl rfl ?_
  refine pf_X6_13 C dX6_init_11 hk MT ?_
  refine h_al_g C dX6_init_14 rfl rfl rfv_r ?_
  refine h_iload_g C dX6_init_15 rfl rfl ?_
  refine pf_X6_16 C dX6_init_16 hk ?_
  refine h_ret C E dX6_init_19 (by decide) (by decide) ?_
  exact ⟨rfl, rfl⟩

set_option maxRecDepth 100000 in
set_option maxHeartbeats 4000000 in
theorem k_X7_init (l : Launch) (G : Gx) (q : Nat) (a b c e : Int32) (μ : Mem) (hk : μ.kd q % 32 = 8) (hz : e = 0 ∨ e = 1) : Kon l yX7_init cX7_init 5 none 1 0 0 12 G [.ref q, .int a, .int b, .int c, .int e] μ (pV fun μ' => μ' = (((((((((((μ.sfi 228 q 0).sfi 229 q 0).sfi 230 q 0).sfi 231 q 0).sfi 232 q (-1)).sfl 233 q 0).sfi 224 q a).sfi 225 q b).sfi 226 q c).sfi 227 q e))) noX := by
  refine Kon.ofG (by decide +kernel) (Nat.le_of_ble_eq_true rfl) (Nat.le_of_ble_eq_true rfl) (fun Z hZG C E NT MT => ?_)
  subst hZG
  have C : Cx Z RX7 cX7_init 1 0 0 12 := C
  show HW Z 0 0 0 [some (.ref q), some (.int a), some (.int b), some (.int c), some (.int e)] [] μ
  refine h_al_g C dX7_init_0 rfl rfl rfv_r ?_
  refine h_objInit C ol_X7_3 im_obj cd_obj dX7_init_1 (by decide) (by decide) ?_
  refine h_al_g C dX7_init_4 rfl rfl rfv_r ?_
  refine h_iconst (v := 0) C dX7_init_5 (by decide) ?_
  refine pf_X7_9 C dX7_init_6 hk ?_
  refine h_al_g C dX7_init_9 rfl rfl rfv_r ?_
  refine h_iconst (v := 0) C dX7_init_10 (by decide) ?_
  refine pf_X7_15 C dX7_init_11 hk ?_
  refine h_al_g C dX7_init_14 rfl rfl rfv_r ?_
  refine h_iconst (v := 0) C dX7_init_15 (by decide) ?_
  refine pf_X7_18 C dX7_init_16 hk ?_
  refine h_al_g C dX7_init_19 rfl rfl rfv_r ?_
  refine h_iconst (v := 0) C dX7_init_20 (by decide) ?_
  refine pf_X7_21 C dX7_init_21 hk ?_
  refine h_al_g C dX7_init_24 rfl rfl rfv_r ?_
  refine h_iconst (v := (-1)) C dX7_init_25 (by decide) ?_
  refine pf_X7_24 C dX7_init_26 hk ?_
  refine h_al_g C dX7_init_29 rfl rfl rfv_r ?_
  refine h_lconst (v := 0) C dX7_init_30 (by decide) ?_
  refine pf_X7_27 C dX7_init_31 hk ?_
  refine h_al_g C dX7_init_34 rfl rfl rfv_r ?_
  refine h_iload_g C dX7_init_35 rfl rfl ?_
  refine pf_X7_31 C dX7_init_36 hk MT ?_
  refine h_al_g C dX7_init_39 rfl rfl rfv_r ?_
  refine h_iload_g C dX7_init_40 rfl rfl ?_
  refine pf_X7_34 C dX7_init_41 hk MT ?_
  refine h_al_g C dX7_init_44 rfl rfl rfv_r ?_
  refine h_iload_g C dX7_init_45 rfl rfl ?_
  refine pf_X7_37 C dX7_init_46 hk MT ?_
  refine h_al_g C dX7_init_49 rfl rfl rfv_r ?_
  refine h_iload_w C dX7_init_50 rfl ?_
  refine pf_X7_40 C dX7_init_52 hk MT hz ?_
  refine h_ret C E dX7_init_55 (by decide) (by decide) ?_
  exact ⟨rfl, rfl⟩

set_option maxRecDepth 100000 in
set_option maxHeartbeats 4000000 in
theorem k_X2_tagPlaceOf (l : Launch) (G : Gx) (x : Int32) (μ : Mem) : Kon l yX2_tagPlaceOf cX2_tagPlaceOf 1 (some .int) 0 0 0 0 G [.int x] μ (pI fun r μ' => μ = μ' ∧ r = TP x) noX := by
  refine Kon.ofG (by decide +kernel) (Nat.le_of_ble_eq_true rfl) (Nat.le_of_ble_eq_true rfl) (fun Z hZG C E NT MT => ?_)
  subst hZG
  have C : Cx Z RX2 cX2_tagPlaceOf 0 0 0 0 := C
  show HW Z 0 0 0 [some (.int x)] [] μ
  refine h_iload_g C dX2_tagPlaceOf_0 rfl rfl ?_
  by_cases hv1 : x = 1
  · refine h_tableIn (off := 27) (tgt := 28) C dX2_tagPlaceOf_1 (by rw [hv1]; decide) (by rw [hv1]; decide) (by rw [hv1]; rfl) (by decide) ?_
    refine h_iconst (v := 4) C dX2_tagPlaceOf_28 (by decide) ?_
    refine h_iret C E dX2_tagPlaceOf_29 (by decide) (by decide) ?_
    exact ⟨_, rfl, rfl, by rw [hv1]; rfl⟩
  by_cases hv2 : x = 2
  · refine h_tableIn (off := 29) (tgt := 30) C dX2_tagPlaceOf_1 (by rw [hv2]; decide) (by rw [hv2]; decide) (by rw [hv2]; rfl) (by decide) ?_
    refine h_iconst (v := 3) C dX2_tagPlaceOf_30 (by decide) ?_
    refine h_iret C E dX2_tagPlaceOf_31 (by decide) (by decide) ?_
    exact ⟨_, rfl, rfl, by rw [hv2]; rfl⟩
  by_cases hv3 : x = 3
  · refine h_tableIn (off := 31) (tgt := 32) C dX2_tagPlaceOf_1 (by rw [hv3]; decide) (by rw [hv3]; decide) (by rw [hv3]; rfl) (by decide) ?_
    refine h_iconst (v := 2) C dX2_tagPlaceOf_32 (by decide) ?_
    refine h_iret C E dX2_tagPlaceOf_33 (by decide) (by decide) ?_
    exact ⟨_, rfl, rfl, by rw [hv3]; rfl⟩
  refine h_tableOut (tgt := 34) C dX2_tagPlaceOf_1 (by have z0 := ne_ti 1 1 (by decide) hv1; have z1 := ne_ti 2 2 (by decide) hv2; have z2 := ne_ti 3 3 (by decide) hv3; omega) (by decide) ?_
  refine h_iconst (v := 5) C dX2_tagPlaceOf_34 (by decide) ?_
  refine h_iret C E dX2_tagPlaceOf_35 (by decide) (by decide) ?_
  exact ⟨_, rfl, rfl, by unfold TP; rw [if_neg hv1, if_neg hv2, if_neg hv3]⟩

theorem ORIG_0 {r : Row} (h : r 15 = -1) : ORIG r = 0 := if_pos h
def row0 (kind fr to : Int32) : Row := fun j => if j = 0 then fr else if j = 1 then to else if j = 2 then kind else if j = 15 then -1 else if j = 16 then 1 else 0
abbrev LeW (μ : Mem) (q k : Nat) : Prop := k = μ.kd q ∨ k = FM q

set_option maxRecDepth 100000 in
set_option maxHeartbeats 4000000 in
theorem k_X2_init (l : Launch) (G : Gx) (q : Nat) (kind fr to : Int32) (μ : Mem) (hk : μ.kd q % 32 = 4) : Kon l yX2_init cX2_init 4 none 1 1 6 20 G [.ref q, .int kind, .int fr, .int to] μ (pV fun μ' => LeAt μ' (μ.kd q) q (row0 kind fr to) ∧ FrK (LeW μ q) μ μ') noX := by
  refine Kon.ofG (by decide +kernel) (Nat.le_of_ble_eq_true rfl) (Nat.le_of_ble_eq_true rfl) (fun Z hZG C E NT MT => ?_)
  subst hZG
  have C : Cx Z RX2 cX2_init 1 1 6 20 := C
  show HW Z 0 0 0 [some (.ref q), some (.int kind), some (.int fr), some (.int to)] [] μ
  refine h_al_g C dX2_init_0 rfl rfl rfv_r ?_
  refine h_objInit C ol_X2_3 im_obj cd_obj dX2_init_1 (by decide) (by decide) ?_
  refine h_al_g C dX2_init_4 rfl rfl rfv_r ?_
  refine h_bipush (v := 6) C dX2_init_5 (by decide) ?_
  refine h_newarr (atype := .int) (N := 6) (FM q) C ac_11 (by rw [(show (FM q) % 32 = 11 by first | decide | omega | (unfold FM; omega))]; rfl) (Or.inl (show (FM q) % 32 = 11 by first | decide | omega | (unfold FM; omega))) dX2_init_7 (by decide) (by decide) (by decide) (by first | decide | omega) (by first | decide | omega) (fun fa hfa => ?_)
  have hqa : q ≠ fa := fun h => by rw [h] at hk; omega
  have hkq : u1 μ.kd fa (FM q) q = μ.kd q := by unfold u1; rw [if_neg hqa]
  have hk2 : u1 μ.kd fa (FM q) q % 32 = 4 := by rw [hkq]; exact hk
  refine pf_X2_11 (some _) C dX2_init_9 hk2 MT rfl ?_
  refine h_al_g C dX2_init_12 rfl rfl rfv_r ?_
  refine h_iconst (v := 1) C dX2_init_13 (by decide) ?_
  refine pf_X2_15 C dX2_init_14 hk2 ?_
  refine h_al_g C dX2_init_17 rfl rfl rfv_r ?_
  refine h_iconst (v := (-1)) C dX2_init_18 (by decide) ?_
  refine pf_X2_19 C dX2_init_19 hk2 ?_
  refine h_al_g C dX2_init_22 rfl rfl rfv_r ?_
  refine h_iconst (v := 0) C dX2_init_23 (by decide) ?_
  refine pf_X2_22 C dX2_init_24 hk2 ?_
  refine h_al_g C dX2_init_27 rfl rfl rfv_r ?_
  refine h_iload_g C dX2_init_28 rfl rfl ?_
  refine pf_X2_25 C dX2_init_29 hk2 MT ?_
  refine h_al_g C dX2_init_32 rfl rfl rfv_r ?_
  refine h_iload_g C dX2_init_33 rfl rfl ?_
  refine pf_X2_28 C dX2_init_34 hk2 ?_
  refine h_al_g C dX2_init_37 rfl rfl rfv_r ?_
  refine h_iload_g C dX2_init_38 rfl rfl ?_
  refine pf_X2_31 C dX2_init_39 hk2 MT ?_
  refine h_al_g C dX2_init_42 rfl rfl rfv_r ?_
  refine h_iload_g C dX2_init_43 rfl rfl ?_
  refine h_callS1 C (k_X2_tagPlaceOf Z.l Z.G kind _) cw_X2_34 st_X2_tagPlaceOf dX2_init_44 (by first | decide | exact Nat.le_of_ble_eq_true rfl) (by decide) (by decide) (by decide) (by decide) (kI fun r3 μ2 hp1 => ?_) kN
  obtain ⟨rfl, rfl⟩ := hp1
  refine pf_X2_38 C dX2_init_47 hk2 MT ?_
  refine h_ret C E dX2_init_50 (by decide) (by decide) ?_
  refine ⟨rfl, ⟨hkq, (show _ = kind by simp only [z_fi_sfi, z_fi_sfr, z_fi_sfl, z_fi_sei, z_fi_ser, z_fi_sel, z_fi_skd, z_fi_newO, z_fi_newA, eq_self, if_true, if_false, Nat.reduceEqDiff, reduceIte]), (show _ = to by simp only [z_fi_sfi, z_fi_sfr, z_fi_sfl, z_fi_sei, z_fi_ser, z_fi_sel, z_fi_skd, z_fi_newO, z_fi_newA, eq_self, if_true, if_false, Nat.reduceEqDiff, reduceIte]), (show _ = TP kind by simp only [z_fi_sfi, z_fi_sfr, z_fi_sfl, z_fi_sei, z_fi_ser, z_fi_sel, z_fi_skd, z_fi_newO, z_fi_newA, eq_self, if_true, if_false, Nat.reduceEqDiff, reduceIte]), (show _ = fr by simp only [z_fi_sfi, z_fi_sfr, z_fi_sfl, z_fi_sei, z_fi_ser, z_fi_sel, z_fi_skd, z_fi_newO, z_fi_newA, eq_self, if_true, if_false, Nat.reduceEqDiff, reduceIte]), (show _ = (1 : Int32) by simp only [z_fi_sfi, z_fi_sfr, z_fi_sfl, z_fi_sei, z_fi_ser, z_fi_sel, z_fi_skd, z_fi_newO, z_fi_newA, eq_self, if_true, if_false, Nat.reduceEqDiff, reduceIte]), (show _ = (-1 : Int32) by simp only [z_fi_sfi, z_fi_sfr, z_fi_sfl, z_fi_sei, z_fi_ser, z_fi_sel, z_fi_skd, z_fi_newO, z_fi_newA, eq_self, if_true, if_false, Nat.reduceEqDiff, reduceIte]), ((show _ = (0 : Int32) by simp only [z_fi_sfi, z_fi_sfr, z_fi_sfl, z_fi_sei, z_fi_ser, z_fi_sel, z_fi_skd, z_fi_newO, z_fi_newA, eq_self, if_true, if_false, Nat.reduceEqDiff, reduceIte]).trans (ORIG_0 rfl).symm), fa, (by simp only [z_fr_sfi, z_fr_sfr, z_fr_sfl, z_fr_sei, z_fr_ser, z_fr_sel, z_fr_skd, z_fr_newO, z_fr_newA, eq_self, if_true, if_false, Nat.reduceEqDiff, reduceIte]), ?_, ?_, fun i hi => ?_⟩, ?_⟩
  · show u1 μ.kd fa (FM q) fa = FM q; unfold u1; rw [if_pos rfl]
  · show u1 μ.ln fa 6 fa = 6; unfold u1; rw [if_pos rfl]
  · show (if fa = fa then (0 : Int32) else μ.ei fa i) = row0 kind fr to (3 + i)
    rw [if_pos rfl]
    have h6 : i = 0 ∨ i = 1 ∨ i = 2 ∨ i = 3 ∨ i = 4 ∨ i = 5 := by omega
    rcases h6 with rfl | rfl | rfl | rfl | rfl | rfl <;> rfl
  · have w9 : LeW μ q (u1 μ.kd fa (FM q) q) := Or.inl hkq
    exact (((((((((FrK.newA hfa (Or.inr rfl)).tr (FrK.sfr w9)).tr (FrK.sfi w9)).tr (FrK.sfi w9)).tr (FrK.sfi w9)).tr (FrK.sfi w9)).tr (FrK.sfi w9)).tr (FrK.sfi w9)).tr (FrK.sfi w9))

def LinkAt (G : Gx) (μ : Mem) (q w a b : Nat) : Prop := μ.kd q = KS (16 + 3 * a + b) ∧ μ.kd w = KS (25 + 3 * a + b) ∧ μ.fi 128 q = nI b ∧ μ.fi 129 q = nI (NAME b) ∧ μ.fi 130 q = nI (PW (NAME b) (211 + 307 * a)) ∧ μ.fr 131 q = some w ∧ μ.fi 132 q = nI (10 + 10 * b) ∧ μ.fi 137 q = 0 ∧ μ.fi 138 q = 0 ∧ μ.fi 139 q = -1 ∧ μ.fi 140 q = 0 ∧ μ.fr 133 q = none ∧ μ.fr 134 q = none ∧ μ.fr 135 q = none ∧ μ.fr 136 q = none ∧ ListAt G μ w []
theorem LinkAt.kept {W : Nat → Prop} {G : Gx} {μ μ' : Mem} {q w a b : Nat} (h : LinkAt G μ q w a b) (hf : FrK W μ μ') (h1 : ¬ W (KS (16 + 3 * a + b))) (h2 : ¬ W (KS (25 + 3 * a + b))) (h3 : ¬ W (LM w)) : LinkAt G μ' q w a b := by
  obtain ⟨k1, k2, a1, a2, a3, a4, a5, a6, a7, a8, a9, a10, a11, a12, a13, a14⟩ := h
  obtain ⟨s1, s2, s3, -⟩ := hf.st k1 (KS_ne _) h1
  exact ⟨by rw [s1]; exact k1, by rw [hf.ke (by rw [k2]; exact KS_ne _)]; exact k2, by rw [s2]; exact a1, by rw [s2]; exact a2, by rw [s2]; exact a3, by rw [s3]; exact a4, by rw [s2]; exact a5, by rw [s2]; exact a6, by rw [s2]; exact a7, by rw [s2]; exact a8, by rw [s2]; exact a9, by rw [s3]; exact a10, by rw [s3]; exact a11, by rw [s3]; exact a12, by rw [s3]; exact a13, a14.kept hf (by rw [k2]; exact h2) h3⟩
theorem list0 {G : Gx} {μ : Mem} {q : Nat} (hk : μ.kd q % 32 = 1) (h1 : μ.fr 1 q = some G.2.2.1) (h2 : μ.fi 2 q = 0) : ListAt G μ q [] := ⟨hk, by decide, h2, (fun x hx => by cases hx), _, h1, Or.inl ⟨rfl, rfl⟩⟩
abbrev KW (j1 j2 k : Nat) : Prop := k = KS j1 ∨ k = KS j2

set_option maxRecDepth 100000 in
set_option maxHeartbeats 4000000 in
theorem k_X3_init (l : Launch) (G : Gx) (q a b : Nat) (x s : Int32) (μ : Mem) (hq : μ.kd q = KS (16 + 3 * a + b)) (ha : a < 3) (hb : b < 3) (hx : x = nI b) (hs : s = nI (211 + 307 * a)) : Kon l yX3_init cX3_init 3 none 4 1 3 72 G [.ref q, .int x, .int s] μ (pV fun μ' => ∃ w, LinkAt G μ' q w a b ∧ FrK (KW (16 + 3 * a + b) (25 + 3 * a + b)) μ μ') noX := by
  refine Kon.ofG (by decide +kernel) (Nat.le_of_ble_eq_true rfl) (Nat.le_of_ble_eq_true rfl) (fun Z hZG C E NT MT => ?_)
  subst hZG
  have C : Cx Z RX3 cX3_init 4 1 3 72 := C
  show HW Z 0 0 0 [some (.ref q), some (.int x), some (.int s)] [] μ
  subst hx
  subst hs
  have hk : μ.kd q % 32 = 5 := by rw [hq]; unfold KS; rw [if_neg (by omega), if_neg (by omega), if_neg (by omega), if_neg (by omega), if_neg (by omega), if_neg (by omega), if_neg (by omega), if_pos (by omega)]; omega
  have hw1 : KS (25 + 3 * a + b) % 32 = 1 := by unfold KS; rw [if_neg (by omega), if_neg (by omega), if_neg (by omega), if_neg (by omega), if_neg (by omega), if_neg (by omega), if_neg (by omega), if_neg (by omega)]; omega
  refine h_al_g C dX3_init_0 rfl rfl rfv_r ?_
  refine h_objInit C ol_X3_3 im_obj cd_obj dX3_init_1 (by decide) (by decide) ?_
  refine h_al_g C dX3_init_4 rfl rfl rfv_r ?_
  refine nw_X3_9 (KS (25 + 3 * a + b)) C dX3_init_5 hw1 (by decide) (by decide) (fun w hw => ?_)
  refine h_dup C dX3_init_8 rfl ?_
  have hqw : q ≠ w := fun h => by rw [h] at hk; omega
  have hkq : u1 μ.kd w (KS (25 + 3 * a + b)) q = μ.kd q := by unfold u1; rw [if_neg hqw]
  have hkw : u1 μ.kd w (KS (25 + 3 * a + b)) w = KS (25 + 3 * a + b) := by unfold u1; rw [if_pos rfl]
  have hk2 : u1 μ.kd w (KS (25 + 3 * a + b)) q % 32 = 5 := by rw [hkq]; exact hk
  refine h_callI0 (a_ := .null) C (k_Jx4a65c_init_da8c8 Z.l Z.G w _ (by show u1 μ.kd w _ w % 32 = 1; rw [hkw]; exact hw1)) cw_X3_11 im_Jx4a65c_init_da8c8 rfl dX3_init_9 (by first | decide | exact Nat.le_of_ble_eq_true rfl) (by decide) (by decide) (by decide) (by decide) (kV fun μ3 hp2 => ?_) kN
  obtain rfl := hp2
  refine pf_X3_12 (some _) C dX3_init_12 hk2 MT rfl ?_
  refine h_al_g C dX3_init_15 rfl rfl rfv_r ?_
  refine h_null C dX3_init_16 ?_
  refine pf_X3_18 none C dX3_init_17 hk2 rfl ?_
  refine h_al_g C dX3_init_20 rfl rfl rfv_r ?_
  refine h_null C dX3_init_21 ?_
  refine pf_X3_22 none C dX3_init_22 hk2 rfl ?_
  refine h_al_g C dX3_init_25 rfl rfl rfv_r ?_
  refine h_null C dX3_init_26 ?_
  refine pf_X3_25 none C dX3_init_27 hk2 rfl ?_
  refine h_al_g C dX3_init_30 rfl rfl rfv_r ?_
  refine h_null C dX3_init_31 ?_
  refine pf_X3_28 none C dX3_init_32 hk2 rfl ?_
  refine h_al_g C dX3_init_35 rfl rfl rfv_r ?_
  refine h_iconst (v := 0) C dX3_init_36 (by decide) ?_
  refine pf_X3_32 C dX3_init_37 hk2 ?_
  refine h_al_g C dX3_init_40 rfl rfl rfv_r ?_
  refine h_iconst (v := 0) C dX3_init_41 (by decide) ?_
  refine pf_X3_36 C dX3_init_42 hk2 ?_
  refine h_al_g C dX3_init_45 rfl rfl rfv_r ?_
  refine h_iconst (v := (-1)) C dX3_init_46 (by decide) ?_
  refine pf_X3_39 C dX3_init_47 hk2 ?_
  refine h_al_g C dX3_init_50 rfl rfl rfv_r ?_
  refine h_iconst (v := 0) C dX3_init_51 (by decide) ?_
  refine pf_X3_42 C dX3_init_52 hk2 ?_
  refine h_al_g C dX3_init_55 rfl rfl rfv_r ?_
  refine h_iload_g C dX3_init_56 rfl rfl ?_
  refine pf_X3_45 C dX3_init_57 hk2 MT ?_
  refine h_al_g C dX3_init_60 rfl rfl rfv_r ?_
  refine h_iload_g C dX3_init_61 rfl rfl ?_
  refine h_callS1 C (k_X4_secretOfEnd Z.l Z.G (nI b) _) cw_X3_48 st_X4_secretOfEnd dX3_init_62 (by first | decide | exact Nat.le_of_ble_eq_true rfl) (by decide) (by decide) (by decide) (by decide) (kI fun r7 μ6 hp5 => ?_) kN
  obtain ⟨rfl, rfl⟩ := hp5
  rw [show (211 + 307 * nI b : Int32) = nI (211 + 307 * b) from by rw [show (307 : Int32) = nI 307 from rfl, pk_mul, show (211 : Int32) = nI 211 from rfl, nI_add]]
  refine h_callS1 C (k_X4_publicNumber Z.l Z.G _ (211 + 307 * b) rfl (by omega) _) cw_X3_54 st_X4_publicNumber dX3_init_65 (by first | decide | exact Nat.le_of_ble_eq_true rfl) (by decide) (by decide) (by decide) (by decide) (kI fun r10 μ9 hp8 => ?_) kN
  obtain ⟨rfl, rfl⟩ := hp8
  refine pf_X3_57 C dX3_init_68 hk2 MT ?_
  refine h_al_g C dX3_init_71 rfl rfl rfv_r ?_
  refine h_al_g C dX3_init_72 rfl rfl rfv_r ?_
  refine gf_X3_57 C dX3_init_73 hk2 (by simp only [z_fi_sfi, z_fi_sfr, z_fi_sfl, z_fi_sei, z_fi_ser, z_fi_sel, z_fi_skd, z_fi_newO, z_fi_newA, eq_self, if_true, if_false, Nat.reduceEqDiff, reduceIte]; rfl) ?_
  refine h_iload_g C dX3_init_76 rfl rfl ?_
  refine h_callS2 C (k_X4_power Z.l Z.G _ _ (PW 7 (211 + 307 * b)) (211 + 307 * a) rfl (PW_lt _ _) rfl (by omega) _) cw_X3_60 st_X4_power dX3_init_77 (by first | decide | exact Nat.le_of_ble_eq_true rfl) (by decide) (by decide) (by decide) (by decide) (kI fun r13 μ12 hp11 => ?_) kN
  obtain ⟨rfl, rfl⟩ := hp11
  refine pf_X3_64 C dX3_init_80 hk2 MT ?_
  refine h_al_g C dX3_init_83 rfl rfl rfv_r ?_
  refine h_bipush (v := 10) C dX3_init_84 (by decide) ?_
  refine h_bipush (v := 10) C dX3_init_86 (by decide) ?_
  refine h_iload_g C dX3_init_88 rfl rfl ?_
  refine h_imul C dX3_init_89 ?_
  refine h_iadd C dX3_init_90 ?_
  refine pf_X3_67 C dX3_init_91 hk2 ?_
  refine h_ret C E dX3_init_94 (by decide) (by decide) ?_
  refine ⟨rfl, w, ⟨hkq.trans hq, hkw, (by simp only [z_fi_sfi, z_fi_sfr, z_fi_sfl, z_fi_sei, z_fi_ser, z_fi_sel, z_fi_skd, z_fi_newO, z_fi_newA, eq_self, if_true, if_false, Nat.reduceEqDiff, reduceIte]), (by simp only [z_fi_sfi, z_fi_sfr, z_fi_sfl, z_fi_sei, z_fi_ser, z_fi_sel, z_fi_skd, z_fi_newO, z_fi_newA, eq_self, if_true, if_false, Nat.reduceEqDiff, reduceIte]), (by simp only [z_fi_sfi, z_fi_sfr, z_fi_sfl, z_fi_sei, z_fi_ser, z_fi_sel, z_fi_skd, z_fi_newO, z_fi_newA, eq_self, if_true, if_false, Nat.reduceEqDiff, reduceIte]), (by simp only [z_fr_sfi, z_fr_sfr, z_fr_sfl, z_fr_sei, z_fr_ser, z_fr_sel, z_fr_skd, z_fr_newO, z_fr_newA, eq_self, if_true, if_false, Nat.reduceEqDiff, reduceIte]), ?_, (by simp only [z_fi_sfi, z_fi_sfr, z_fi_sfl, z_fi_sei, z_fi_ser, z_fi_sel, z_fi_skd, z_fi_newO, z_fi_newA, eq_self, if_true, if_false, Nat.reduceEqDiff, reduceIte]), (by simp only [z_fi_sfi, z_fi_sfr, z_fi_sfl, z_fi_sei, z_fi_ser, z_fi_sel, z_fi_skd, z_fi_newO, z_fi_newA, eq_self, if_true, if_false, Nat.reduceEqDiff, reduceIte]), (by simp only [z_fi_sfi, z_fi_sfr, z_fi_sfl, z_fi_sei, z_fi_ser, z_fi_sel, z_fi_skd, z_fi_newO, z_fi_newA, eq_self, if_true, if_false, Nat.reduceEqDiff, reduceIte]), (by simp only [z_fi_sfi, z_fi_sfr, z_fi_sfl, z_fi_sei, z_fi_ser, z_fi_sel, z_fi_skd, z_fi_newO, z_fi_newA, eq_self, if_true, if_false, Nat.reduceEqDiff, reduceIte]), (by simp only [z_fr_sfi, z_fr_sfr, z_fr_sfl, z_fr_sei, z_fr_ser, z_fr_sel, z_fr_skd, z_fr_newO, z_fr_newA, eq_self, if_true, if_false, Nat.reduceEqDiff, reduceIte]), (by simp only [z_fr_sfi, z_fr_sfr, z_fr_sfl, z_fr_sei, z_fr_ser, z_fr_sel, z_fr_skd, z_fr_newO, z_fr_newA, eq_self, if_true, if_false, Nat.reduceEqDiff, reduceIte]), (by simp only [z_fr_sfi, z_fr_sfr, z_fr_sfl, z_fr_sei, z_fr_ser, z_fr_sel, z_fr_skd, z_fr_newO, z_fr_newA, eq_self, if_true, if_false, Nat.reduceEqDiff, reduceIte]), (by simp only [z_fr_sfi, z_fr_sfr, z_fr_sfl, z_fr_sei, z_fr_ser, z_fr_sel, z_fr_skd, z_fr_newO, z_fr_newA, eq_self, if_true, if_false, Nat.reduceEqDiff, reduceIte]), list0 (by show u1 μ.kd w _ w % 32 = 1; rw [hkw]; exact hw1) (by simp only [z_fr_sfi, z_fr_sfr, z_fr_sfl, z_fr_sei, z_fr_ser, z_fr_sel, z_fr_skd, z_fr_newO, z_fr_newA, eq_self, if_true, if_false, Nat.reduceEqDiff, reduceIte, if_neg (Ne.symm hqw)]) ?_⟩, ?_⟩
  · show u2 _ _ _ _ _ _ = _
    rw [u2_eq, show (10 : Int32) = nI 10 from rfl, pk_mul, nI_add]
  · show ua μ.fi w 0 2 w = 0; unfold ua; rw [if_pos rfl]
  · have w9 : KW (16 + 3 * a + b) (25 + 3 * a + b) (u1 μ.kd w (KS (25 + 3 * a + b)) q) := Or.inl (hkq.trans hq)
    have w8 : KW (16 + 3 * a + b) (25 + 3 * a + b) (u1 μ.kd w (KS (25 + 3 * a + b)) w) := Or.inr hkw
    have f1 := ((FrK.newO hw (Or.inr rfl)).tr (FrK.sfi w8)).tr (FrK.sfr w8)
    exact ((((((((((((f1.tr (FrK.sfr w9)).tr (FrK.sfr w9)).tr (FrK.sfr w9)).tr (FrK.sfr w9)).tr (FrK.sfr w9)).tr (FrK.sfi w9)).tr (FrK.sfi w9)).tr (FrK.sfi w9)).tr (FrK.sfi w9)).tr (FrK.sfi w9)).tr (FrK.sfi w9)).tr (FrK.sfi w9)).tr (FrK.sfi w9)

end
