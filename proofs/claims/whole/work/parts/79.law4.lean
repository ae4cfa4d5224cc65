section
theorem lp_more {i L : Nat} (hi : i ≤ 2560) (hL : L ≤ 2560) (h : ¬ nI i > nI L - 5) : i + 4 < L := by
  have e : (nI L - 5 : Int32).toInt = (L : Int) - 5 := by
    have hl := nI_toInt (n := L) (by omega)
    rw [Int32.toInt_sub, hl]
    have : (5 : Int32).toInt = 5 := by decide
    rw [this]
    exact Int.bmod_eq_of_le (by omega) (by omega)
  have h2 := Int32.not_lt.mp h
  rw [Int32.le_iff_toInt_le, e, nI_toInt (by omega)] at h2
  omega
theorem ctr (a : Nat) : ct (some (.ref a)) := fun w h => by cases h; rfl
set_option maxRecDepth 100000 in
set_option maxHeartbeats 1000000 in
theorem lp_law {Z : Zx} {P Q : Nat → Nat} {o sc L : Nat} {xs : Row} {okI : Nat → Sx → Prop} (C : Cx Z RL cL_law 15 601024 7293034 610) (NN : NcZ Z) (SZ : ScZ Z sc L xs) (hL : L ≤ 2560) (hinv : ∀ d S, okI (d + 1) S → okA S) (hstep : ∀ d S S', okI (d + 1) S → Sstep S S' → okI d S')
    (hend : ∀ (k n : Nat) (L9 : List (Option Value)) (m : Mem), k ≤ 601024 → n ≤ 7293034 → HW Z k n 2535 L9 [] m) :
    ∀ (d i k n : Nat) (S : Sx) (t : Int32) (μ : Mem) (z5 z6 z7 z8 : Option Value), i + 5 * d = 2560 → k + 64 * d ≤ 601024 → n + 12000 * d ≤ 7293034 → okI d S → CRep Z.G P S μ → MRq Q S (LXo S t) μ → OS o μ → HW Z k n 23 [some (.ref sc), some (.ref (P 0)), some (.ref (Q 0)), some (.ref o), some (.int (nI i)), z5, z6, z7, z8] [] μ := by
  intro d
  induction d with
  | zero =>
    intro i k n S t μ z5 z6 z7 z8 hi9 hk9 hn9 hI hC hM hO
    refine h_iload_w C dL_law_23 rfl ?_
    refine h_al_g C dL_law_25 rfl rfl rfv_r ?_
    refine h_sclen C SZ dL_law_26 ?_
    refine h_iconst (v := 5) C dL_law_27 (by decide) ?_
    refine h_isub C dL_law_28 ?_
    refine h_icmp_gt (tgt := 2535) C dL_law_29 (by decide) (fun cL => ?_) (fun cL => ?_)
    · exact hend _ _ _ _ (by omega) (by omega)
    · exact absurd (lp_more (by omega) hL cL) (by omega)
  | succ d ih =>
    intro i k n S t μ z5 z6 z7 z8 hi9 hk9 hn9 hI hC hM hO
    refine h_iload_w C dL_law_23 rfl ?_
    refine h_al_g C dL_law_25 rfl rfl rfv_r ?_
    refine h_sclen C SZ dL_law_26 ?_
    refine h_iconst (v := 5) C dL_law_27 (by decide) ?_
    refine h_isub C dL_law_28 ?_
    refine h_icmp_gt (tgt := 2535) C dL_law_29 (by decide) (fun cL => ?_) (fun cL => ?_)
    · exact hend _ _ _ _ (by omega) (by omega)
    · have hi4 := lp_more (by omega) hL cL
      have kk9 : ∀ S' t' m, Sstep S S' → CRep Z.G P S' m → MRq Q S' (LXo S' t') m → OS o m → ∀ z5 z6 z7 z8 : Option Value, HW Z (k + 64) (n + 12000) 2529 [some (.ref sc), some (.ref (P 0)), some (.ref (Q 0)), some (.ref o), some (.int (nI i)), z5, z6, z7, z8] [] m := fun S' t' m hs hC hM hO z5 z6 z7 z8 => by
        refine h_iinc_4 (q := 5) (z := 5) C dL_law_2529 (by decide) (ctr _) ?_
        refine h_goto (tgt := 23) C dL_law_2532 (by decide) ?_
        rw [show (nI i + 5 : Int32) = nI (i + 5) from nI_add i 5]
        exact ih _ _ _ S' t' m _ _ _ _ (by omega) (by omega) (by omega) (hstep _ _ _ hI hs) hC hM hO
      refine h_al_g C dL_law_32 rfl rfl rfv_r ?_
      refine h_iload_w C dL_law_33 rfl ?_
      refine h_scld (v := xs i) C SZ dL_law_35 (vp_in_nI (by omega) (by omega)) (congrArg xs (cl_of (by omega))) ?_
      refine h_bipush (v := 63) C dL_law_36 (by decide) ?_
      refine h_iand C dL_law_38 ?_
      by_cases q0 : (xs i &&& 63) = 0
      · refine h_tableIn (off := 161) (tgt := 200) C dL_law_39 (by rw [q0]; decide) (by rw [q0]; decide) (by rw [q0]; rfl) (by decide) ?_
        exact bl_L_pass C NN SZ (by omega) (by omega) hL hi4 hC hM hO (hinv _ _ hI) kk9 _ _ _ _
      by_cases q1 : (xs i &&& 63) = 1
      · refine h_tableIn (off := 217) (tgt := 256) C dL_law_39 (by rw [q1]; decide) (by rw [q1]; decide) (by rw [q1]; rfl) (by decide) ?_
        exact bl_L_move C NN SZ (by omega) (by omega) hL hi4 hC hM hO (hinv _ _ hI) kk9 _ _ _ _
      by_cases q2 : (xs i &&& 63) = 2
      · refine h_tableIn (off := 285) (tgt := 324) C dL_law_39 (by rw [q2]; decide) (by rw [q2]; decide) (by rw [q2]; rfl) (by decide) ?_
        exact bl_L_load C NN SZ (by omega) (by omega) hL hi4 hC hM hO (hinv _ _ hI) kk9 _ _ _ _
      by_cases q3 : (xs i &&& 63) = 3
      · refine h_tableIn (off := 376) (tgt := 415) C dL_law_39 (by rw [q3]; decide) (by rw [q3]; decide) (by rw [q3]; rfl) (by decide) ?_
        exact bl_L_allow C NN SZ (by omega) (by omega) hL hi4 hC hM hO (hinv _ _ hI) kk9 _ _ _ _
      by_cases q4 : (xs i &&& 63) = 4
      · refine h_tableIn (off := 468) (tgt := 507) C dL_law_39 (by rw [q4]; decide) (by rw [q4]; decide) (by rw [q4]; rfl) (by decide) ?_
        exact bl_L_forbid C NN SZ (by omega) (by omega) hL hi4 hC hM hO (hinv _ _ hI) kk9 _ _ _ _
      by_cases q5 : (xs i &&& 63) = 5
      · refine h_tableIn (off := 548) (tgt := 587) C dL_law_39 (by rw [q5]; decide) (by rw [q5]; decide) (by rw [q5]; rfl) (by decide) ?_
        exact bl_L_send C NN SZ (by omega) (by omega) hL hi4 hC hM hO (hinv _ _ hI) kk9 _ _ _ _
      by_cases q6 : (xs i &&& 63) = 6
      · refine h_tableIn (off := 640) (tgt := 679) C dL_law_39 (by rw [q6]; decide) (by rw [q6]; decide) (by rw [q6]; rfl) (by decide) ?_
        exact bl_L_keep C NN SZ (by omega) (by omega) hL hi4 hC hM hO (hinv _ _ hI) kk9 _ _ _ _
      by_cases q7 : (xs i &&& 63) = 7
      · refine h_tableIn (off := 715) (tgt := 754) C dL_law_39 (by rw [q7]; decide) (by rw [q7]; decide) (by rw [q7]; rfl) (by decide) ?_
        exact bl_L_greet C NN SZ (by omega) (by omega) hL hi4 hC hM hO (hinv _ _ hI) kk9 _ _ _ _
      by_cases q8 : (xs i &&& 63) = 8
      · refine h_tableIn (off := 783) (tgt := 822) C dL_law_39 (by rw [q8]; decide) (by rw [q8]; decide) (by rw [q8]; rfl) (by decide) ?_
        exact bl_L_deliver C NN SZ (by omega) (by omega) hL hi4 hC hM hO (hinv _ _ hI) kk9 _ _ _ _
      by_cases q9 : (xs i &&& 63) = 9
      · refine h_tableIn (off := 839) (tgt := 878) C dL_law_39 (by rw [q9]; decide) (by rw [q9]; decide) (by rw [q9]; rfl) (by decide) ?_
        exact bl_L_lose C NN SZ (by omega) (by omega) hL hi4 hC hM hO (hinv _ _ hI) kk9 _ _ _ _
      by_cases q10 : (xs i &&& 63) = 10
      · refine h_tableIn (off := 895) (tgt := 934) C dL_law_39 (by rw [q10]; decide) (by rw [q10]; decide) (by rw [q10]; rfl) (by decide) ?_
        exact bl_L_twice C NN SZ (by omega) (by omega) hL hi4 hC hM hO (hinv _ _ hI) kk9 _ _ _ _
      by_cases q11 : (xs i &&& 63) = 11
      · refine h_tableIn (off := 951) (tgt := 990) C dL_law_39 (by rw [q11]; decide) (by rw [q11]; decide) (by rw [q11]; rfl) (by decide) ?_
        exact bl_L_turn C NN SZ (by omega) (by omega) hL hi4 hC hM hO (hinv _ _ hI) kk9 _ _ _ _
      by_cases q12 : (xs i &&& 63) = 12
      · refine h_tableIn (off := 1031) (tgt := 1070) C dL_law_39 (by rw [q12]; decide) (by rw [q12]; decide) (by rw [q12]; rfl) (by decide) ?_
        exact bl_L_reroute C NN SZ (by omega) (by omega) hL hi4 hC hM hO (hinv _ _ hI) kk9 _ _ _ _
      by_cases q13 : (xs i &&& 63) = 13
      · refine h_tableIn (off := 1099) (tgt := 1138) C dL_law_39 (by rw [q13]; decide) (by rw [q13]; decide) (by rw [q13]; rfl) (by decide) ?_
        exact bl_L_later C NN SZ (by omega) (by omega) hL hi4 hC hM hO (hinv _ _ hI) kk9 _ _ _ _
      by_cases q14 : (xs i &&& 63) = 14
      · refine h_tableIn (off := 1155) (tgt := 1194) C dL_law_39 (by rw [q14]; decide) (by rw [q14]; decide) (by rw [q14]; rfl) (by decide) ?_
        exact bl_L_now C NN SZ (by omega) (by omega) hL hi4 hC hM hO (hinv _ _ hI) kk9 _ _ _ _
      by_cases q15 : (xs i &&& 63) = 15
      · refine h_tableIn (off := 1168) (tgt := 1207) C dL_law_39 (by rw [q15]; decide) (by rw [q15]; decide) (by rw [q15]; rfl) (by decide) ?_
        exact bl_L_letters C NN SZ (by omega) (by omega) hL hi4 hC hM hO (hinv _ _ hI) kk9 _ _ _ _
      by_cases q16 : (xs i &&& 63) = 16
      · refine h_tableIn (off := 1181) (tgt := 1220) C dL_law_39 (by rw [q16]; decide) (by rw [q16]; decide) (by rw [q16]; rfl) (by decide) ?_
        exact bl_L_letter C NN SZ (by omega) (by omega) hL hi4 hC hM hO (hinv _ _ hI) kk9 _ _ _ _
      by_cases q17 : (xs i &&& 63) = 17
      · refine h_tableIn (off := 1249) (tgt := 1288) C dL_law_39 (by rw [q17]; decide) (by rw [q17]; decide) (by rw [q17]; rfl) (by decide) ?_
        exact bl_L_isTurned C NN SZ (by omega) (by omega) hL hi4 hC hM hO (hinv _ _ hI) kk9 _ _ _ _
      by_cases q18 : (xs i &&& 63) = 18
      · refine h_tableIn (off := 1312) (tgt := 1351) C dL_law_39 (by rw [q18]; decide) (by rw [q18]; decide) (by rw [q18]; rfl) (by decide) ?_
        exact bl_L_address C NN SZ (by omega) (by omega) hL hi4 hC hM hO (hinv _ _ hI) kk9 _ _ _ _
      by_cases q19 : (xs i &&& 63) = 19
      · refine h_tableIn (off := 1368) (tgt := 1407) C dL_law_39 (by rw [q19]; decide) (by rw [q19]; decide) (by rw [q19]; rfl) (by decide) ?_
        exact bl_L_known C NN SZ (by omega) (by omega) hL hi4 hC hM hO (hinv _ _ hI) kk9 _ _ _ _
      by_cases q20 : (xs i &&& 63) = 20
      · refine h_tableIn (off := 1436) (tgt := 1475) C dL_law_39 (by rw [q20]; decide) (by rw [q20]; decide) (by rw [q20]; rfl) (by decide) ?_
        exact bl_L_route C NN SZ (by omega) (by omega) hL hi4 hC hM hO (hinv _ _ hI) kk9 _ _ _ _
      by_cases q21 : (xs i &&& 63) = 21
      · refine h_tableIn (off := 1504) (tgt := 1543) C dL_law_39 (by rw [q21]; decide) (by rw [q21]; decide) (by rw [q21]; rfl) (by decide) ?_
        exact bl_L_session C NN SZ (by omega) (by omega) hL hi4 hC hM hO (hinv _ _ hI) kk9 _ _ _ _
      by_cases q22 : (xs i &&& 63) = 22
      · refine h_tableIn (off := 1596) (tgt := 1635) C dL_law_39 (by rw [q22]; decide) (by rw [q22]; decide) (by rw [q22]; rfl) (by decide) ?_
        exact bl_L_isUsable C NN SZ (by omega) (by omega) hL hi4 hC hM hO (hinv _ _ hI) kk9 _ _ _ _
      by_cases q23 : (xs i &&& 63) = 23
      · refine h_tableIn (off := 1671) (tgt := 1710) C dL_law_39 (by rw [q23]; decide) (by rw [q23]; decide) (by rw [q23]; rfl) (by decide) ?_
        exact bl_L_flight C NN SZ (by omega) (by omega) hL hi4 hC hM hO (hinv _ _ hI) kk9 _ _ _ _
      by_cases q24 : (xs i &&& 63) = 24
      · refine h_tableIn (off := 1739) (tgt := 1778) C dL_law_39 (by rw [q24]; decide) (by rw [q24]; decide) (by rw [q24]; rfl) (by decide) ?_
        exact bl_L_waiting C NN SZ (by omega) (by omega) hL hi4 hC hM hO (hinv _ _ hI) kk9 _ _ _ _
      by_cases q25 : (xs i &&& 63) = 25
      · refine h_tableIn (off := 1807) (tgt := 1846) C dL_law_39 (by rw [q25]; decide) (by rw [q25]; decide) (by rw [q25]; rfl) (by decide) ?_
        exact bl_L_cookie C NN SZ (by omega) (by omega) hL hi4 hC hM hO (hinv _ _ hI) kk9 _ _ _ _
      by_cases q26 : (xs i &&& 63) = 26
      · refine h_tableIn (off := 1875) (tgt := 1914) C dL_law_39 (by rw [q26]; decide) (by rw [q26]; decide) (by rw [q26]; rfl) (by decide) ?_
        exact bl_L_stamp C NN SZ (by omega) (by omega) hL hi4 hC hM hO (hinv _ _ hI) kk9 _ _ _ _
      by_cases q27 : (xs i &&& 63) = 27
      · refine h_tableIn (off := 1971) (tgt := 2010) C dL_law_39 (by rw [q27]; decide) (by rw [q27]; decide) (by rw [q27]; rfl) (by decide) ?_
        exact bl_L_outs C NN SZ (by omega) (by omega) hL hi4 hC hM hO (hinv _ _ hI) kk9 _ _ _ _
      by_cases q28 : (xs i &&& 63) = 28
      · refine h_tableIn (off := 2027) (tgt := 2066) C dL_law_39 (by rw [q28]; decide) (by rw [q28]; decide) (by rw [q28]; rfl) (by decide) ?_
        exact bl_L_out C NN SZ (by omega) (by omega) hL hi4 hC hM hO (hinv _ _ hI) kk9 _ _ _ _
      by_cases q29 : (xs i &&& 63) = 29
      · refine h_tableIn (off := 2107) (tgt := 2146) C dL_law_39 (by rw [q29]; decide) (by rw [q29]; decide) (by rw [q29]; rfl) (by decide) ?_
        exact bl_L_drops C NN SZ (by omega) (by omega) hL hi4 hC hM hO (hinv _ _ hI) kk9 _ _ _ _
      by_cases q30 : (xs i &&& 63) = 30
      · refine h_tableIn (off := 2163) (tgt := 2202) C dL_law_39 (by rw [q30]; decide) (by rw [q30]; decide) (by rw [q30]; rfl) (by decide) ?_
        exact bl_L_publicOf C NN SZ (by omega) (by omega) hL hi4 hC hM hO (hinv _ _ hI) kk9 _ _ _ _
      by_cases q31 : (xs i &&& 63) = 31
      · refine h_tableIn (off := 2219) (tgt := 2258) C dL_law_39 (by rw [q31]; decide) (by rw [q31]; decide) (by rw [q31]; rfl) (by decide) ?_
        exact bl_L_shared C NN SZ (by omega) (by omega) hL hi4 hC hM hO (hinv _ _ hI) kk9 _ _ _ _
      by_cases q32 : (xs i &&& 63) = 32
      · refine h_tableIn (off := 2287) (tgt := 2326) C dL_law_39 (by rw [q32]; decide) (by rw [q32]; decide) (by rw [q32]; rfl) (by decide) ?_
        exact bl_L_seal C NN SZ (by omega) (by omega) hL hi4 hC hM hO (hinv _ _ hI) kk9 _ _ _ _
      by_cases q33 : (xs i &&& 63) = 33
      · refine h_tableIn (off := 2379) (tgt := 2418) C dL_law_39 (by rw [q33]; decide) (by rw [q33]; decide) (by rw [q33]; rfl) (by decide) ?_
        exact bl_L_share C NN SZ (by omega) (by omega) hL hi4 hC hM hO (hinv _ _ hI) kk9 _ _ _ _
      by_cases q34 : (xs i &&& 63) = 34
      · refine h_tableIn (off := 2422) (tgt := 2461) C dL_law_39 (by rw [q34]; decide) (by rw [q34]; decide) (by rw [q34]; rfl) (by decide) ?_
        exact bl_L_meanAge C NN SZ (by omega) (by omega) hL hi4 hC hM hO (hinv _ _ hI) kk9 _ _ _ _
      by_cases q35 : (xs i &&& 63) = 35
      · refine h_tableIn (off := 2463) (tgt := 2502) C dL_law_39 (by rw [q35]; decide) (by rw [q35]; decide) (by rw [q35]; rfl) (by decide) ?_
        exact bl_L_isSound C NN SZ (by omega) (by omega) hL hi4 hC hM hO (hinv _ _ hI) kk9 _ _ _ _
      by_cases q36 : (xs i &&& 63) = 36
      · refine h_tableIn (off := 2476) (tgt := 2515) C dL_law_39 (by rw [q36]; decide) (by rw [q36]; decide) (by rw [q36]; rfl) (by decide) ?_
        exact bl_L_checksum C NN SZ (by omega) (by omega) hL hi4 hC hM hO (hinv _ _ hI) kk9 _ _ _ _
      refine h_tableOut (tgt := 2529) C dL_law_39 (by have z0 := ne_ti 0 0 (by decide) q0; have z1 := ne_ti 1 1 (by decide) q1; have z2 := ne_ti 2 2 (by decide) q2; have z3 := ne_ti 3 3 (by decide) q3; have z4 := ne_ti 4 4 (by decide) q4; have z5 := ne_ti 5 5 (by decide) q5; have z6 := ne_ti 6 6 (by decide) q6; have z7 := ne_ti 7 7 (by decide) q7; have z8 := ne_ti 8 8 (by decide) q8; have z9 := ne_ti 9 9 (by decide) q9; have z10 := ne_ti 10 10 (by decide) q10; have z11 := ne_ti 11 11 (by decide) q11; have z12 := ne_ti 12 12 (by decide) q12; have z13 := ne_ti 13 13 (by decide) q13; have z14 := ne_ti 14 14 (by decide) q14; have z15 := ne_ti 15 15 (by decide) q15; have z16 := ne_ti 16 16 (by decide) q16; have z17 := ne_ti 17 17 (by decide) q17; have z18 := ne_ti 18 18 (by decide) q18; have z19 := ne_ti 19 19 (by decide) q19; have z20 := ne_ti 20 20 (by decide) q20; have z21 := ne_ti 21 21 (by decide) q21; have z22 := ne_ti 22 22 (by decide) q22; have z23 := ne_ti 23 23 (by decide) q23; have z24 := ne_ti 24 24 (by decide) q24; have z25 := ne_ti 25 25 (by decide) q25; have z26 := ne_ti 26 26 (by decide) q26; have z27 := ne_ti 27 27 (by decide) q27; have z28 := ne_ti 28 28 (by decide) q28; have z29 := ne_ti 29 29 (by decide) q29; have z30 := ne_ti 30 30 (by decide) q30; have z31 := ne_ti 31 31 (by decide) q31; have z32 := ne_ti 32 32 (by decide) q32; have z33 := ne_ti 33 33 (by decide) q33; have z34 := ne_ti 34 34 (by decide) q34; have z35 := ne_ti 35 35 (by decide) q35; have z36 := ne_ti 36 36 (by decide) q36; omega) (by decide) ?_
      exact h_widen (by omega) (by omega) (kk9 S t _ (Or.inl rfl) hC hM hO _ _ _ _)

end
