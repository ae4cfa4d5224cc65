section
def SHX (x : Int64) (y : Int32) : Int64 := (x.toUInt64 >>> (y.toInt64.toUInt64 &&& Int64.toUInt64 63)).toInt64
def BT1 (x : Int64) : Int64 := x - (SHX x 1 &&& 6148914691236517205)
def BT2 (x : Int64) : Int64 := (x &&& 3689348814741910323) + (SHX x 2 &&& 3689348814741910323)
def BT3 (x : Int64) : Int64 := (x + SHX x 4) &&& 1085102592571150095
def BT4 (x : Int64) : Int64 := x + SHX x 8
def BT5 (x : Int64) : Int64 := x + SHX x 16
def BT6 (x : Int64) : Int64 := x + SHX x 32
def BITC (x : Int64) : Int32 := (BT6 (BT5 (BT4 (BT3 (BT2 (BT1 x)))))).toInt32 &&& 127
/-- a session alone, two sessions, the picture: what isSound asks -/
def SAL (r : Ses) : Prop := BITC r.2 = r.1 8 ∧ (0 ≤ r.1 7 → SHX (SHX r.2 (r.1 7)) 1 = 0) ∧ (¬ 0 ≤ r.1 7 → r.2 = 0) ∧ r.1 5 ≤ 40
def SPA (r r' : Ses) : Prop := r.1 1 = r'.1 0 → r'.1 1 = r.1 0 → r.1 3 = r'.1 4 ∧ r.1 4 = r'.1 3 ∧ ¬ r.1 6 = r'.1 6
def HOU (S : Sx) (i : Nat) : Option Ses := S.ses (i / 9) (i / 3 % 3) (i % 3)
def SND0 (S : Sx) : Prop := (∀ g ∈ S.nt, DIF g → ∃ K, g 16 = nI K ∧ K < 65521 ∧ ¬ TAGR g = SEALR K g) ∧ ∀ i, i < 27 → ∀ r, HOU S i = some r → SAL r ∧ ∀ k, k < i → ∀ r', HOU S k = some r' → ¬ r.1 0 = r'.1 0 ∧ SPA r r'
theorem HOU_ar : ∀ i, i < 27 → nI i / 9 = nI (i / 9) ∧ nI i / 3 - nI i / 3 / 3 * 3 = nI (i / 3 % 3) ∧ nI i - nI i / 3 * 3 = nI (i % 3) := by decide +kernel
set_option maxRecDepth 100000 in
set_option maxHeartbeats 1000000 in
theorem k_J13_bitCount_95d88 (l : Launch) (G : Gx) (x : Int64) (μ : Mem) : Kon l yJ13_bitCount_95d88 cJ13_bitCount_95d88 2 (some .int) 0 0 0 0 G [.long x] μ (pI fun v μ' => μ = μ' ∧ v = BITC x) noX := by
  refine Kon.ofG (by decide +kernel) (Nat.le_of_ble_eq_true rfl) (Nat.le_of_ble_eq_true rfl) (fun Z hZG C E NT MT => ?_)
  subst hZG
  have C : Cx Z RJ13 cJ13_bitCount_95d88 0 0 0 0 := C
  show HW Z 0 0 0 [some (.long x), none] [] μ
  refine h_lload_g C dJ13_bitCount_95d88_0 rfl rfl ?_
  refine h_lload_g C dJ13_bitCount_95d88_1 rfl rfl ?_
  refine h_iconst (v := 1) C dJ13_bitCount_95d88_2 (by decide) ?_
  refine h_lushr C dJ13_bitCount_95d88_3 ?_
  refine h_ldc2 C kc_J13_314 dJ13_bitCount_95d88_4 ?_
  refine h_land C dJ13_bitCount_95d88_7 ?_
  refine h_lsub C dJ13_bitCount_95d88_8 ?_
  refine h_lst_0 C dJ13_bitCount_95d88_9 ?_
  show HW Z _ _ _ [some (.long (BT1 x)), none] [] μ
  refine h_lload_g C dJ13_bitCount_95d88_10 rfl rfl ?_
  refine h_ldc2 C kc_J13_316 dJ13_bitCount_95d88_11 ?_
  refine h_land C dJ13_bitCount_95d88_14 ?_
  refine h_lload_g C dJ13_bitCount_95d88_15 rfl rfl ?_
  refine h_iconst (v := 2) C dJ13_bitCount_95d88_16 (by decide) ?_
  refine h_lushr C dJ13_bitCount_95d88_17 ?_
  refine h_ldc2 C kc_J13_316 dJ13_bitCount_95d88_18 ?_
  refine h_land C dJ13_bitCount_95d88_21 ?_
  refine h_ladd C dJ13_bitCount_95d88_22 ?_
  refine h_lst_0 C dJ13_bitCount_95d88_23 ?_
  show HW Z _ _ _ [some (.long (BT2 (BT1 x))), none] [] μ
  refine h_lload_g C dJ13_bitCount_95d88_24 rfl rfl ?_
  refine h_lload_g C dJ13_bitCount_95d88_25 rfl rfl ?_
  refine h_iconst (v := 4) C dJ13_bitCount_95d88_26 (by decide) ?_
  refine h_lushr C dJ13_bitCount_95d88_27 ?_
  refine h_ladd C dJ13_bitCount_95d88_28 ?_
  refine h_ldc2 C kc_J13_318 dJ13_bitCount_95d88_29 ?_
  refine h_land C dJ13_bitCount_95d88_32 ?_
  refine h_lst_0 C dJ13_bitCount_95d88_33 ?_
  show HW Z _ _ _ [some (.long (BT3 (BT2 (BT1 x)))), none] [] μ
  refine h_lload_g C dJ13_bitCount_95d88_34 rfl rfl ?_
  refine h_lload_g C dJ13_bitCount_95d88_35 rfl rfl ?_
  refine h_bipush (v := 8) C dJ13_bitCount_95d88_36 (by decide) ?_
  refine h_lushr C dJ13_bitCount_95d88_38 ?_
  refine h_ladd C dJ13_bitCount_95d88_39 ?_
  refine h_lst_0 C dJ13_bitCount_95d88_40 ?_
  show HW Z _ _ _ [some (.long (BT4 (BT3 (BT2 (BT1 x))))), none] [] μ
  refine h_lload_g C dJ13_bitCount_95d88_41 rfl rfl ?_
  refine h_lload_g C dJ13_bitCount_95d88_42 rfl rfl ?_
  refine h_bipush (v := 16) C dJ13_bitCount_95d88_43 (by decide) ?_
  refine h_lushr C dJ13_bitCount_95d88_45 ?_
  refine h_ladd C dJ13_bitCount_95d88_46 ?_
  refine h_lst_0 C dJ13_bitCount_95d88_47 ?_
  show HW Z _ _ _ [some (.long (BT5 (BT4 (BT3 (BT2 (BT1 x)))))), none] [] μ
  refine h_lload_g C dJ13_bitCount_95d88_48 rfl rfl ?_
  refine h_lload_g C dJ13_bitCount_95d88_49 rfl rfl ?_
  refine h_bipush (v := 32) C dJ13_bitCount_95d88_50 (by decide) ?_
  refine h_lushr C dJ13_bitCount_95d88_52 ?_
  refine h_ladd C dJ13_bitCount_95d88_53 ?_
  refine h_lst_0 C dJ13_bitCount_95d88_54 ?_
  show HW Z _ _ _ [some (.long (BT6 (BT5 (BT4 (BT3 (BT2 (BT1 x))))))), none] [] μ
  refine h_lload_g C dJ13_bitCount_95d88_55 rfl rfl ?_
  refine h_l2i C dJ13_bitCount_95d88_56 ?_
  refine h_bipush (v := 127) C dJ13_bitCount_95d88_57 (by decide) ?_
  refine h_iand C dJ13_bitCount_95d88_59 ?_
  refine h_iret C E dJ13_bitCount_95d88_60 (by decide) (by decide) ?_
  exact ⟨_, rfl, rfl, rfl⟩

set_option maxRecDepth 100000 in
set_option maxHeartbeats 1000000 in
theorem k_X8_sessionInHouse (l : Launch) (G : Gx) (P : Nat → Nat) (S : Sx) (μ : Mem) (hC : CRep G P S μ) (i : Nat) (hi : i < 27) : Kon l yX8_sessionInHouse cX8_sessionInHouse 4 (some (.object "Burrowline$Session")) 1 0 0 21 G [.ref (P 0), .int (nI i)] μ (pO (fun μ' => μ = μ' ∧ HOU S i = none) (fun s μ' => μ = μ' ∧ ∃ r, HOU S i = some r ∧ SesIn μ (i / 9) (i / 3 % 3) (i % 3) s r)) noX := by
  refine Kon.ofG (by decide +kernel) (Nat.le_of_ble_eq_true rfl) (Nat.le_of_ble_eq_true rfl) (fun Z hZG C E NT MT => ?_)
  subst hZG
  have C : Cx Z RX8 cX8_sessionInHouse 1 0 0 21 := C
  show HW Z 0 0 0 [some (.ref (P 0)), some (.int (nI i)), none, none] [] μ
  obtain ⟨d1, d2, d3⟩ := HOU_ar i hi
  have ha : i / 9 < 3 := by omega
  have hb : i / 3 % 3 < 3 := by omega
  refine h_iload_g C dX8_sessionInHouse_0 rfl rfl ?_
  refine h_bipush (v := 9) C dX8_sessionInHouse_1 (by decide) ?_
  refine h_idiv C dX8_sessionInHouse_3 (by decide) ?_
  rw [d1]
  refine h_ist_2 C dX8_sessionInHouse_4 ct_i ?_
  refine h_iload_g C dX8_sessionInHouse_5 rfl rfl ?_
  refine h_if_lt (tgt := 18) C dX8_sessionInHouse_6 (by decide) (fun c1 => absurd c1 ((fun h => by rw [Int32.lt_iff_toInt_lt, nI_toInt (by omega), tl_0] at h; omega))) (fun c1 => ?_)
  refine h_iload_g C dX8_sessionInHouse_9 rfl rfl ?_
  refine h_al_g C dX8_sessionInHouse_10 rfl rfl rfv_r ?_
  refine gs_X8_11 C dX8_sessionInHouse_11 (CRep.kX hC) (CRep.f256 hC) ?_
  refine h_alen C dX8_sessionInHouse_14 (⟨by rw [CRep.kEA hC]; decide, by rw [CRep.kEA hC]; decide⟩) (CRep.lnE hC) ?_
  rw [show (Int32.ofNat 3 : Int32) = 3 from rfl]
  refine h_icmp_lt (tgt := 20) C dX8_sessionInHouse_15 (by decide) (fun c2 => ?_) (fun c2 => absurd ((by show nI (i / 9) < nI 3; exact nI_lt (by omega) (by omega))) c2)
  refine h_al_g C dX8_sessionInHouse_20 rfl rfl rfv_r ?_
  refine gs_X8_11 C dX8_sessionInHouse_21 (CRep.kX hC) (CRep.f256 hC) ?_
  refine h_iload_g C dX8_sessionInHouse_24 rfl rfl ?_
  refine h_aald (r := some _) C dX8_sessionInHouse_25 ⟨by rw [CRep.kEA hC]; decide, by rw [CRep.kEA hC]; decide⟩ (by rw [CRep.lnE hC]; exact vp_in_nI ha (by decide)) (by rw [nI_clamp (by omega)]; exact CRep.eE hC ha) ?_
  refine h_iload_g C dX8_sessionInHouse_26 rfl rfl ?_
  refine h_iconst (v := 3) C dX8_sessionInHouse_27 (by decide) ?_
  refine h_idiv C dX8_sessionInHouse_28 (by decide) ?_
  refine h_iconst (v := 3) C dX8_sessionInHouse_29 (by decide) ?_
  refine h_irem C dX8_sessionInHouse_30 (by decide) ?_
  rw [d2]
  refine h_callV1 (ci := 1) C (k_X0_linkTo Z.l Z.G P S _ hC (i / 9) ha _) cw_X8_119 im_X0_linkTo sl_X0_linkTo rfl (by decide) (CRep.kE hC ha) dX8_sessionInHouse_31 (by first | decide | exact Nat.le_of_ble_eq_true rfl) (by decide) (by decide) (by decide) (by decide) (kO (fun μ1 hp1 => ?_) (fun r1 μ1 hp1 => ?_)) kN
  · obtain ⟨rfl, hno⟩ := hp1
    exact absurd (show isE (nI (i / 3 % 3)) from ⟨by rw [nI_toInt (by omega)]; omega, by rw [nI_toInt (by omega)]; omega⟩) hno
  · obtain ⟨rfl, hIE, rfl⟩ := hp1
    rw [show cl (nI (i / 3 % 3)) = i / 3 % 3 from cl_of (by omega)]
    refine h_ast_3 C dX8_sessionInHouse_34 ct_i rfv_r ?_
    refine h_al_g C dX8_sessionInHouse_35 rfl rfl rfv_r ?_
    refine h_ifnonnull_r (tgt := 43) C dX8_sessionInHouse_36 (by decide) ?_
    refine h_al_g C dX8_sessionInHouse_43 rfl rfl rfv_r ?_
    refine h_iload_g C dX8_sessionInHouse_44 rfl rfl ?_
    refine h_iconst (v := 3) C dX8_sessionInHouse_45 (by decide) ?_
    refine h_irem C dX8_sessionInHouse_46 (by decide) ?_
    rw [d3]
    refine h_callV1 (ci := 4) C (k_X3_sessionAt Z.l Z.G P S _ hC (i / 9) (i / 3 % 3) ha hb _ (i % 3) (by omega) rfl) cw_X8_224 im_X3_sessionAt sl_X3_sessionAt rfl (by decide) (CRep.kL hC ha hb) dX8_sessionInHouse_47 (by first | decide | exact Nat.le_of_ble_eq_true rfl) (by decide) (by decide) (by decide) (by decide) (kO (fun μ2 hp2 => ?_) (fun r2 μ2 hp2 => ?_)) kN
    · obtain ⟨rfl, hn⟩ := hp2
      refine h_aret (r := none) C E (by first | exact Or.inl ⟨_, rfl⟩ | exact Or.inr ⟨_, rfl⟩) dX8_sessionInHouse_50 (by decide) (by decide) ?_
      exact Or.inl ⟨rfl, rfl, hn⟩
    · obtain ⟨rfl, r, hr, hsl, hs⟩ := hp2
      refine h_aret (r := (some _)) C E (by first | exact Or.inl ⟨_, rfl⟩ | exact Or.inr ⟨_, rfl⟩) dX8_sessionInHouse_50 (by decide) (by decide) ?_
      exact Or.inr ⟨_, rfl, rfl, r, hr, hs⟩

set_option maxRecDepth 100000 in
set_option maxHeartbeats 1000000 in
theorem k_X8_isSoundAlone (l : Launch) (G : Gx) (μ : Mem) (a b w s : Nat) (r : Ses) (hs : SesIn μ a b w s r) (hS : SAL r) : Kon l yX8_isSoundAlone cX8_isSoundAlone 3 (some .boolean) 1 0 0 21 G [.ref s] μ (pI fun v μ' => μ = μ' ∧ v = 1) noX := by
  refine Kon.ofG (by decide +kernel) (Nat.le_of_ble_eq_true rfl) (Nat.le_of_ble_eq_true rfl) (fun Z hZG C E NT MT => ?_)
  subst hZG
  have C : Cx Z RX8 cX8_isSoundAlone 1 0 0 21 := C
  show HW Z 0 0 0 [some (.ref s), none, none] [] μ
  refine h_al_g C dX8_isSoundAlone_0 rfl rfl rfv_r ?_
  refine gf_X8_480 C dX8_isSoundAlone_1 (SesIn.k hs) (SesIn.f233 hs) ?_
  refine h_callS1 C (k_J13_bitCount_95d88 Z.l Z.G _ _) cw_X8_484 st_J13_bitCount_95d88 dX8_isSoundAlone_4 (by first | decide | exact Nat.le_of_ble_eq_true rfl) (by decide) (by decide) (by decide) (by decide) (kI fun r1 μ1 hp1 => ?_) kN
  obtain ⟨rfl, rfl⟩ := hp1
  refine h_al_g C dX8_isSoundAlone_7 rfl rfl rfv_r ?_
  refine gf_X8_477 C dX8_isSoundAlone_8 (SesIn.k hs) (SesIn.f231 hs) ?_
  refine h_icmp_ne (tgt := 18) C dX8_isSoundAlone_11 (by decide) (fun c1 => absurd c1 ((fun z => z hS.1))) (fun c1 => ?_)
  refine h_iconst (v := 1) C dX8_isSoundAlone_14 (by decide) ?_
  refine h_goto (tgt := 19) C dX8_isSoundAlone_15 (by decide) ?_
  refine h_ist_1 C dX8_isSoundAlone_19 ct_r ?_
  refine h_al_g C dX8_isSoundAlone_20 rfl rfl rfv_r ?_
  refine gf_X8_480 C dX8_isSoundAlone_21 (SesIn.k hs) (SesIn.f233 hs) ?_
  refine h_al_g C dX8_isSoundAlone_24 rfl rfl rfv_r ?_
  refine gf_X8_474 C dX8_isSoundAlone_25 (SesIn.k hs) (SesIn.f232 hs) ?_
  refine h_lushr C dX8_isSoundAlone_28 ?_
  refine h_iconst (v := 1) C dX8_isSoundAlone_29 (by decide) ?_
  refine h_lushr C dX8_isSoundAlone_30 ?_
  refine h_lconst (v := 0) C dX8_isSoundAlone_31 (by decide) ?_
  refine h_lcmp C dX8_isSoundAlone_32 ?_
  refine h_if_ne (tgt := 40) C dX8_isSoundAlone_33 (by decide) (fun c3 => ?_) (fun c3 => ?_)
  · refine h_iconst (v := 0) C dX8_isSoundAlone_40 (by decide) ?_
    refine h_ist_2 C dX8_isSoundAlone_41 ct_i ?_
    refine h_al_g C dX8_isSoundAlone_42 rfl rfl rfv_r ?_
    refine gf_X8_474 C dX8_isSoundAlone_43 (SesIn.k hs) (SesIn.f232 hs) ?_
    refine h_if_ge (tgt := 64) C dX8_isSoundAlone_46 (by decide) (fun cg => ?_) (fun cg => ?_)
    · refine h_al_g C dX8_isSoundAlone_64 rfl rfl rfv_r ?_
      refine gf_X8_350 C dX8_isSoundAlone_65 (SesIn.k hs) (SesIn.f230 hs) ?_
      refine h_bipush (v := 40) C dX8_isSoundAlone_68 (by decide) ?_
      refine h_icmp_gt (tgt := 85) C dX8_isSoundAlone_70 (by decide) (fun c4 => absurd c4 ((fun h => absurd hS.2.2.2 (Int32.not_le.mpr h)))) (fun c4 => ?_)
      refine h_iload_g C dX8_isSoundAlone_73 rfl rfl ?_
      refine h_if_eq (tgt := 85) C dX8_isSoundAlone_74 (by decide) (fun c5 => absurd c5 (by decide)) (fun c5 => ?_)
      refine h_iload_g C dX8_isSoundAlone_77 rfl rfl ?_
      refine h_if_eq (tgt := 85) C dX8_isSoundAlone_78 (by decide) (fun c6 => ?_) (fun c6 => absurd (by decide) c6)
      refine h_iconst (v := 0) C dX8_isSoundAlone_85 (by decide) ?_
      refine h_zret C E dX8_isSoundAlone_86 (by decide) (by decide) (by first | exact Or.inl rfl | exact Or.inr rfl) ?_
      exact absurd (show lg_cmp (SHX (SHX r.2 (r.1 7)) 1) 0 = 0 by rw [hS.2.1 cg]; decide) c3
    · refine h_al_g C dX8_isSoundAlone_49 rfl rfl rfv_r ?_
      refine gf_X8_480 C dX8_isSoundAlone_50 (SesIn.k hs) (SesIn.f233 hs) ?_
      refine h_lconst (v := 0) C dX8_isSoundAlone_53 (by decide) ?_
      refine h_lcmp C dX8_isSoundAlone_54 ?_
      refine h_if_ne (tgt := 62) C dX8_isSoundAlone_55 (by decide) (fun c7 => absurd c7 ((fun z => z (by rw [hS.2.2.1 cg]; decide)))) (fun c7 => ?_)
      refine h_iconst (v := 1) C dX8_isSoundAlone_58 (by decide) ?_
      refine h_goto (tgt := 63) C dX8_isSoundAlone_59 (by decide) ?_
      refine h_ist_2 C dX8_isSoundAlone_63 ct_i ?_
      refine h_al_g C dX8_isSoundAlone_64 rfl rfl rfv_r ?_
      refine gf_X8_350 C dX8_isSoundAlone_65 (SesIn.k hs) (SesIn.f230 hs) ?_
      refine h_bipush (v := 40) C dX8_isSoundAlone_68 (by decide) ?_
      refine h_icmp_gt (tgt := 85) C dX8_isSoundAlone_70 (by decide) (fun c8 => absurd c8 ((fun h => absurd hS.2.2.2 (Int32.not_le.mpr h)))) (fun c8 => ?_)
      refine h_iload_g C dX8_isSoundAlone_73 rfl rfl ?_
      refine h_if_eq (tgt := 85) C dX8_isSoundAlone_74 (by decide) (fun c9 => absurd c9 (by decide)) (fun c9 => ?_)
      refine h_iload_g C dX8_isSoundAlone_77 rfl rfl ?_
      refine h_if_eq (tgt := 85) C dX8_isSoundAlone_78 (by decide) (fun c10 => absurd c10 (by decide)) (fun c10 => ?_)
      refine h_iconst (v := 1) C dX8_isSoundAlone_81 (by decide) ?_
      refine h_goto (tgt := 86) C dX8_isSoundAlone_82 (by decide) ?_
      refine h_zret C E dX8_isSoundAlone_86 (by decide) (by decide) (by first | exact Or.inl rfl | exact Or.inr rfl) ?_
      exact ⟨_, rfl, rfl, rfl⟩
  · refine h_iconst (v := 1) C dX8_isSoundAlone_36 (by decide) ?_
    refine h_goto (tgt := 41) C dX8_isSoundAlone_37 (by decide) ?_
    refine h_ist_2 C dX8_isSoundAlone_41 ct_i ?_
    refine h_al_g C dX8_isSoundAlone_42 rfl rfl rfv_r ?_
    refine gf_X8_474 C dX8_isSoundAlone_43 (SesIn.k hs) (SesIn.f232 hs) ?_
    refine h_if_ge (tgt := 64) C dX8_isSoundAlone_46 (by decide) (fun cg => ?_) (fun cg => ?_)
    · refine h_al_g C dX8_isSoundAlone_64 rfl rfl rfv_r ?_
      refine gf_X8_350 C dX8_isSoundAlone_65 (SesIn.k hs) (SesIn.f230 hs) ?_
      refine h_bipush (v := 40) C dX8_isSoundAlone_68 (by decide) ?_
      refine h_icmp_gt (tgt := 85) C dX8_isSoundAlone_70 (by decide) (fun c12 => absurd c12 ((fun h => absurd hS.2.2.2 (Int32.not_le.mpr h)))) (fun c12 => ?_)
      refine h_iload_g C dX8_isSoundAlone_73 rfl rfl ?_
      refine h_if_eq (tgt := 85) C dX8_isSoundAlone_74 (by decide) (fun c13 => absurd c13 (by decide)) (fun c13 => ?_)
      refine h_iload_g C dX8_isSoundAlone_77 rfl rfl ?_
      refine h_if_eq (tgt := 85) C dX8_isSoundAlone_78 (by decide) (fun c14 => absurd c14 (by decide)) (fun c14 => ?_)
      refine h_iconst (v := 1) C dX8_isSoundAlone_81 (by decide) ?_
      refine h_goto (tgt := 86) C dX8_isSoundAlone_82 (by decide) ?_
      refine h_zret C E dX8_isSoundAlone_86 (by decide) (by decide) (by first | exact Or.inl rfl | exact Or.inr rfl) ?_
      exact ⟨_, rfl, rfl, rfl⟩
    · refine h_al_g C dX8_isSoundAlone_49 rfl rfl rfv_r ?_
      refine gf_X8_480 C dX8_isSoundAlone_50 (SesIn.k hs) (SesIn.f233 hs) ?_
      refine h_lconst (v := 0) C dX8_isSoundAlone_53 (by decide) ?_
      refine h_lcmp C dX8_isSoundAlone_54 ?_
      refine h_if_ne (tgt := 62) C dX8_isSoundAlone_55 (by decide) (fun c15 => absurd c15 ((fun z => z (by rw [hS.2.2.1 cg]; decide)))) (fun c15 => ?_)
      refine h_iconst (v := 1) C dX8_isSoundAlone_58 (by decide) ?_
      refine h_goto (tgt := 63) C dX8_isSoundAlone_59 (by decide) ?_
      refine h_ist_2 C dX8_isSoundAlone_63 ct_i ?_
      refine h_al_g C dX8_isSoundAlone_64 rfl rfl rfv_r ?_
      refine gf_X8_350 C dX8_isSoundAlone_65 (SesIn.k hs) (SesIn.f230 hs) ?_
      refine h_bipush (v := 40) C dX8_isSoundAlone_68 (by decide) ?_
      refine h_icmp_gt (tgt := 85) C dX8_isSoundAlone_70 (by decide) (fun c16 => absurd c16 ((fun h => absurd hS.2.2.2 (Int32.not_le.mpr h)))) (fun c16 => ?_)
      refine h_iload_g C dX8_isSoundAlone_73 rfl rfl ?_
      refine h_if_eq (tgt := 85) C dX8_isSoundAlone_74 (by decide) (fun c17 => absurd c17 (by decide)) (fun c17 => ?_)
      refine h_iload_g C dX8_isSoundAlone_77 rfl rfl ?_
      refine h_if_eq (tgt := 85) C dX8_isSoundAlone_78 (by decide) (fun c18 => absurd c18 (by decide)) (fun c18 => ?_)
      refine h_iconst (v := 1) C dX8_isSoundAlone_81 (by decide) ?_
      refine h_goto (tgt := 86) C dX8_isSoundAlone_82 (by decide) ?_
      refine h_zret C E dX8_isSoundAlone_86 (by decide) (by decide) (by first | exact Or.inl rfl | exact Or.inr rfl) ?_
      exact ⟨_, rfl, rfl, rfl⟩

set_option maxRecDepth 100000 in
set_option maxHeartbeats 1000000 in
theorem k_X8_isSoundPair (l : Launch) (G : Gx) (μ : Mem) (a b w s : Nat) (r : Ses) (hs : SesIn μ a b w s r) (a2 b2 w2 s2 : Nat) (r2 : Ses) (hs2 : SesIn μ a2 b2 w2 s2 r2) (hS : SPA r r2) : Kon l yX8_isSoundPair cX8_isSoundPair 3 (some .boolean) 0 0 0 0 G [.ref s, .ref s2] μ (pI fun v μ' => μ = μ' ∧ v = 1) noX := by
  refine Kon.ofG (by decide +kernel) (Nat.le_of_ble_eq_true rfl) (Nat.le_of_ble_eq_true rfl) (fun Z hZG C E NT MT => ?_)
  subst hZG
  have C : Cx Z RX8 cX8_isSoundPair 0 0 0 0 := C
  show HW Z 0 0 0 [some (.ref s), some (.ref s2), none] [] μ
  refine h_al_g C dX8_isSoundPair_0 rfl rfl rfv_r ?_
  refine gf_X8_419 C dX8_isSoundPair_1 (SesIn.k hs) (SesIn.f225 hs) ?_
  refine h_al_g C dX8_isSoundPair_4 rfl rfl rfv_r ?_
  refine gf_X8_473 C dX8_isSoundPair_5 (SesIn.k hs2) (SesIn.f224 hs2) ?_
  refine h_icmp_ne (tgt := 22) C dX8_isSoundPair_8 (by decide) (fun c1 => ?_) (fun c1 => ?_)
  · refine h_iconst (v := 1) C dX8_isSoundPair_22 (by decide) ?_
    refine h_zret C E dX8_isSoundPair_23 (by decide) (by decide) (by first | exact Or.inl rfl | exact Or.inr rfl) ?_
    exact ⟨_, rfl, rfl, rfl⟩
  · refine h_al_g C dX8_isSoundPair_11 rfl rfl rfv_r ?_
    refine gf_X8_419 C dX8_isSoundPair_12 (SesIn.k hs2) (SesIn.f225 hs2) ?_
    refine h_al_g C dX8_isSoundPair_15 rfl rfl rfv_r ?_
    refine gf_X8_473 C dX8_isSoundPair_16 (SesIn.k hs) (SesIn.f224 hs) ?_
    refine h_icmp_eq (tgt := 24) C dX8_isSoundPair_19 (by decide) (fun c2 => ?_) (fun c2 => ?_)
    · refine h_al_g C dX8_isSoundPair_24 rfl rfl rfv_r ?_
      refine gf_X8_422 C dX8_isSoundPair_25 (SesIn.k hs) (SesIn.f228 hs) ?_
      refine h_al_g C dX8_isSoundPair_28 rfl rfl rfv_r ?_
      refine gf_X8_460 C dX8_isSoundPair_29 (SesIn.k hs2) (SesIn.f229 hs2) ?_
      refine h_icmp_ne (tgt := 50) C dX8_isSoundPair_32 (by decide) (fun c3 => absurd c3 ((fun z => z (hS c1 c2).1))) (fun c3 => ?_)
      refine h_al_g C dX8_isSoundPair_35 rfl rfl rfv_r ?_
      refine gf_X8_460 C dX8_isSoundPair_36 (SesIn.k hs) (SesIn.f229 hs) ?_
      refine h_al_g C dX8_isSoundPair_39 rfl rfl rfv_r ?_
      refine gf_X8_422 C dX8_isSoundPair_40 (SesIn.k hs2) (SesIn.f228 hs2) ?_
      refine h_icmp_ne (tgt := 50) C dX8_isSoundPair_43 (by decide) (fun c4 => absurd c4 ((fun z => z (hS c1 c2).2.1))) (fun c4 => ?_)
      refine h_iconst (v := 1) C dX8_isSoundPair_46 (by decide) ?_
      refine h_goto (tgt := 51) C dX8_isSoundPair_47 (by decide) ?_
      refine h_ist_2 C dX8_isSoundPair_51 ct_r ?_
      refine h_iload_g C dX8_isSoundPair_52 rfl rfl ?_
      refine h_if_eq (tgt := 71) C dX8_isSoundPair_53 (by decide) (fun c5 => absurd c5 (by decide)) (fun c5 => ?_)
      refine h_al_g C dX8_isSoundPair_56 rfl rfl rfv_r ?_
      refine gf_X8_353 C dX8_isSoundPair_57 (SesIn.k hs) (SesIn.f227 hs) ?_
      refine h_al_g C dX8_isSoundPair_60 rfl rfl rfv_r ?_
      refine gf_X8_353 C dX8_isSoundPair_61 (SesIn.k hs2) (SesIn.f227 hs2) ?_
      refine h_icmp_eq (tgt := 71) C dX8_isSoundPair_64 (by decide) (fun c6 => absurd c6 (((hS c1 c2).2.2))) (fun c6 => ?_)
      refine h_iconst (v := 1) C dX8_isSoundPair_67 (by decide) ?_
      refine h_goto (tgt := 72) C dX8_isSoundPair_68 (by decide) ?_
      refine h_zret C E dX8_isSoundPair_72 (by decide) (by decide) (by first | exact Or.inl rfl | exact Or.inr rfl) ?_
      exact ⟨_, rfl, rfl, rfl⟩
    · refine h_iconst (v := 1) C dX8_isSoundPair_22 (by decide) ?_
      refine h_zret C E dX8_isSoundPair_23 (by decide) (by decide) (by first | exact Or.inl rfl | exact Or.inr rfl) ?_
      exact ⟨_, rfl, rfl, rfl⟩

set_option maxRecDepth 100000 in
set_option maxHeartbeats 1000000 in
theorem lp_X8_isSoundBeside {Z : Zx} {Post : Option Value → Mem → Prop} {PostX : String → Mem → Prop} {rc rs mc ms : Nat} {P : Nat → Nat} {S : Sx} {μ : Mem} {a b w s i : Nat} {r : Ses} (hC : CRep Z.G P S μ) (hs : SesIn μ a b w s r) (hi : i < 27) (hB : ∀ k, k < i → ∀ r', HOU S k = some r' → ¬ r.1 0 = r'.1 0 ∧ SPA r r') (C : Cx Z RX8 cX8_isSoundBeside 2 rc rs 44) (E : Rt Z mc ms (some .boolean) Post PostX) {k n : Nat} (hk : k ≤ mc) (hn : n ≤ ms) (hk2 : k ≤ rc) (hn2 : n ≤ rs) (hP : ∀ v, (pI fun v μ' => μ = μ' ∧ v = 1) v μ → Post v μ) :
    ∀ (m j : Nat), j + m = i → ∀ z : Option Value, HW Z k n 2 [some (.ref (P 0)), some (.ref s), some (.int (nI i)), some (.int (nI j)), z] [] μ := by
  intro m
  induction m with
  | zero =>
    intro j hj z
    refine h_iload_g C dX8_isSoundBeside_2 rfl rfl ?_
    refine h_iload_g C dX8_isSoundBeside_3 rfl rfl ?_
    refine h_icmp_ge (tgt := 48) C dX8_isSoundBeside_4 (by decide) (fun c1 => ?_) (fun c1 => absurd ((nI_le (by omega) (by omega))) c1)
    refine h_iconst (v := 1) C dX8_isSoundBeside_48 (by decide) ?_
    refine h_zret C E dX8_isSoundBeside_49 hk hn (by first | exact Or.inl rfl | exact Or.inr rfl) ?_
    exact hP _ ⟨_, rfl, rfl, rfl⟩
  | succ m ih =>
    intro j hj z
    refine h_iload_g C dX8_isSoundBeside_2 rfl rfl ?_
    refine h_iload_g C dX8_isSoundBeside_3 rfl rfl ?_
    refine h_icmp_ge (tgt := 48) C dX8_isSoundBeside_4 (by decide) (fun c1 => absurd c1 ((nI_ge (by omega) (by omega)))) (fun c1 => ?_)
    refine h_al_g C dX8_isSoundBeside_7 rfl rfl rfv_r ?_
    refine h_iload_g C dX8_isSoundBeside_8 rfl rfl ?_
    refine h_callV1 (ci := 8) C (k_X8_sessionInHouse Z.l Z.G P S _ hC j (by omega)) cw_X8_303 im_X8_sessionInHouse sl_X8_sessionInHouse rfl (by decide) (CRep.kX hC) dX8_isSoundBeside_9 (by first | decide | exact Nat.le_of_ble_eq_true rfl) (by decide) (by decide) (by omega) (by omega) (kO (fun μ1 hp1 => ?_) (fun s2 μ1 hp1 => ?_)) kN
    · obtain ⟨rfl, hn9⟩ := hp1
      refine h_ast_4 C dX8_isSoundBeside_12 ct_i rfv_n ?_
      refine h_al_w (j := 0) C dX8_isSoundBeside_14 rfl rfv_n ?_
      refine h_ifnull_n (tgt := 42) C dX8_isSoundBeside_16 (by decide) ?_
      refine h_iinc_3 (q := 1) C dX8_isSoundBeside_42 (by decide) ct_i ?_
      refine h_goto (tgt := 2) C dX8_isSoundBeside_45 (by decide) ?_
      rw [nI_1]
      exact ih (j + 1) (by omega) _
    · obtain ⟨rfl, r2, hr2, hs2⟩ := hp1
      have hB2 := hB j (by omega) r2 hr2
      refine h_ast_4 C dX8_isSoundBeside_12 ct_i rfv_r ?_
      refine h_al_w (j := 0) C dX8_isSoundBeside_14 rfl rfv_r ?_
      refine h_ifnull_r C dX8_isSoundBeside_16 ?_
      refine h_al_g C dX8_isSoundBeside_19 rfl rfl rfv_r ?_
      refine gf_X8_473 C dX8_isSoundBeside_20 (SesIn.k hs) (SesIn.f224 hs) ?_
      refine h_al_w (j := 0) C dX8_isSoundBeside_23 rfl rfv_r ?_
      refine gf_X8_473 C dX8_isSoundBeside_25 (SesIn.k hs2) (SesIn.f224 hs2) ?_
      refine h_icmp_eq (tgt := 40) C dX8_isSoundBeside_28 (by decide) (fun c2 => absurd c2 (hB2.1)) (fun c2 => ?_)
      refine h_al_g C dX8_isSoundBeside_31 rfl rfl rfv_r ?_
      refine h_al_w (j := 0) C dX8_isSoundBeside_32 rfl rfv_r ?_
      refine h_callS2 C (k_X8_isSoundPair Z.l Z.G _ _ _ _ _ r hs _ _ _ _ r2 hs2 hB2.2) cw_X8_490 st_X8_isSoundPair dX8_isSoundBeside_34 (by first | decide | exact Nat.le_of_ble_eq_true rfl) (by decide) (by decide) (by omega) (by omega) (kI fun r1 μ2 hp2 => ?_) kN
      obtain ⟨rfl, rfl⟩ := hp2
      refine h_if_ne (tgt := 42) C dX8_isSoundBeside_37 (by decide) (fun c3 => ?_) (fun c3 => absurd c3 ((by decide)))
      refine h_iinc_3 (q := 1) C dX8_isSoundBeside_42 (by decide) ct_i ?_
      refine h_goto (tgt := 2) C dX8_isSoundBeside_45 (by decide) ?_
      rw [nI_1]
      exact ih (j + 1) (by omega) _

set_option maxRecDepth 100000 in
set_option maxHeartbeats 1000000 in
theorem k_X8_isSoundBeside (l : Launch) (G : Gx) (P : Nat → Nat) (S : Sx) (μ : Mem) (hC : CRep G P S μ) (a b w s i : Nat) (r : Ses) (hs : SesIn μ a b w s r) (hi : i < 27) (hB : ∀ k, k < i → ∀ r', HOU S k = some r' → ¬ r.1 0 = r'.1 0 ∧ SPA r r') : Kon l yX8_isSoundBeside cX8_isSoundBeside 5 (some .boolean) 2 0 0 44 G [.ref (P 0), .ref s, .int (nI i)] μ (pI fun v μ' => μ = μ' ∧ v = 1) noX := by
  refine Kon.ofG (by decide +kernel) (Nat.le_of_ble_eq_true rfl) (Nat.le_of_ble_eq_true rfl) (fun Z hZG C E NT MT => ?_)
  subst hZG
  have C : Cx Z RX8 cX8_isSoundBeside 2 0 0 44 := C
  show HW Z 0 0 0 [some (.ref (P 0)), some (.ref s), some (.int (nI i)), none, none] [] μ
  refine h_iconst (v := 0) C dX8_isSoundBeside_0 (by decide) ?_
  refine h_ist_3 C dX8_isSoundBeside_1 ct_i ?_
  exact lp_X8_isSoundBeside hC hs hi hB C E (Nat.le_refl _) (Nat.le_refl _) (Nat.le_refl _) (Nat.le_refl _) (fun v h => h) i 0 (by omega) _

set_option maxRecDepth 100000 in
set_option maxHeartbeats 1000000 in
theorem lp_X8_isSound1 {Z : Zx} {rc rs mc ms : Nat} {P : Nat → Nat} {S : Sx} {μ : Mem} (hC : CRep Z.G P S μ) (hS : SND0 S) (C : Cx Z RX8 cX8_isSound 3 rc rs 147) {k n : Nat} (hk : k ≤ mc) (hn : n ≤ ms) (hk2 : k ≤ rc) (hn2 : n ≤ rs) {xs : List Nat} (hx : ListAt Z.G μ (P 2) xs) (hR : LR (LeAt μ KLET) xs S.nt) (hP : ∀ z3 : Option Value, HW Z k n 56 [some (.ref (P 0)), some (.int 27), some (.int 0), z3] [] μ) :
    ∀ (m j : Nat), j + m = xs.length → ∀ z2 z3 : Option Value, HW Z k n 2 [some (.ref (P 0)), some (.int (nI j)), z2, z3] [] μ := by
  have hlen := hR.1
  have hmx := hx.2.1
  have hkk : KLET % 32 = 4 := by decide
  intro m
  induction m with
  | zero =>
    intro j hj z2 z3
    refine h_iload_g C dX8_isSound_2 rfl rfl ?_
    refine h_al_g C dX8_isSound_3 rfl rfl rfv_r ?_
    refine gs_X8_18 C dX8_isSound_4 (CRep.kX hC) (CRep.f257 hC) ?_
    refine h_callV0 (ci := 0) (a_ := .null) C (k_Jx4a65c_size_8abf5 Z.l Z.G _ xs _ hx) cw_X8_86 im_Jx4a65c_size_8abf5 sl_Jx4a65c_size_8abf5 rfl (by decide) hx.1 dX8_isSound_7 (by first | decide | exact Nat.le_of_ble_eq_true rfl) (by decide) (by decide) (by omega) (by omega) (kI fun r1 μ1 hp1 => ?_) kN
    obtain ⟨rfl, rfl⟩ := hp1
    refine h_icmp_ge (tgt := 51) C dX8_isSound_10 (by decide) (fun c1 => ?_) (fun c1 => absurd ((nI_le (by omega) (by omega))) c1)
    refine h_bipush (v := 27) C dX8_isSound_51 (by decide) ?_
    refine h_ist_1 C dX8_isSound_53 ct_r ?_
    refine h_iconst (v := 0) C dX8_isSound_54 (by decide) ?_
    refine h_ist_2 C dX8_isSound_55 ct_i ?_
    exact hP _
  | succ m ih =>
    intro j hj z2 z3
    have hjl : j < xs.length := by omega
    have hi : xs[j]? = some xs[j] := List.getElem?_eq_getElem hjl
    have hjo : j < S.nt.length := by omega
    have hir : S.nt[j]? = some S.nt[j] := List.getElem?_eq_getElem hjo
    have hpr := hR.2 j _ _ hi hir
    refine h_iload_g C dX8_isSound_2 rfl rfl ?_
    refine h_al_g C dX8_isSound_3 rfl rfl rfv_r ?_
    refine gs_X8_18 C dX8_isSound_4 (CRep.kX hC) (CRep.f257 hC) ?_
    refine h_callV0 (ci := 0) (a_ := .null) C (k_Jx4a65c_size_8abf5 Z.l Z.G _ xs _ hx) cw_X8_86 im_Jx4a65c_size_8abf5 sl_Jx4a65c_size_8abf5 rfl (by decide) hx.1 dX8_isSound_7 (by first | decide | exact Nat.le_of_ble_eq_true rfl) (by decide) (by decide) (by omega) (by omega) (kI fun r1 μ1 hp1 => ?_) kN
    obtain ⟨rfl, rfl⟩ := hp1
    refine h_icmp_ge (tgt := 51) C dX8_isSound_10 (by decide) (fun c1 => absurd c1 ((nI_ge (by omega) (by omega)))) (fun c1 => ?_)
    refine h_al_g C dX8_isSound_13 rfl rfl rfv_r ?_
    refine gs_X8_18 C dX8_isSound_14 (CRep.kX hC) (CRep.f257 hC) ?_
    refine h_iload_g C dX8_isSound_17 rfl rfl ?_
    refine h_callV1 (ci := 0) C (k_Jx4a65c_get_915e3 Z.l Z.G _ xs _ j _ _ hx rfl hi) cw_X8_92 im_Jx4a65c_get_915e3 sl_Jx4a65c_get_915e3 rfl (by decide) hx.1 dX8_isSound_18 (by first | decide | exact Nat.le_of_ble_eq_true rfl) (by decide) (by decide) (by omega) (by omega) (kA fun r2 μ2 hp2 => ?_) kN
    obtain ⟨rfl, rfl⟩ := hp2
    refine h_castO (ci := 3) C kl_X8_166 rfl (by decide) dX8_isSound_21 (LeAt.k hpr hkk) ?_
    refine h_ast_2 C dX8_isSound_24 ct_i rfv_r ?_
    refine h_al_g C dX8_isSound_25 rfl rfl rfv_r ?_
    refine h_callV0 (ci := 3) (a_ := .null) C (k_X2_differs Z.l Z.G _ KLET _ _ hpr hkk) cw_X8_217 im_X2_differs sl_X2_differs rfl (by decide) (LeAt.k hpr hkk) dX8_isSound_26 (by first | decide | exact Nat.le_of_ble_eq_true rfl) (by decide) (by decide) (by omega) (by omega) (kB (fun μ3 hp3 => ?_) (fun μ3 hp3 => ?_)) kN
    · obtain ⟨rfl, hDf⟩ := hp3
      obtain ⟨K, hK3, hK, hNe⟩ := hS.1 _ (List.mem_of_getElem? hir) hDf
      refine h_if_eq (tgt := 45) C dX8_isSound_29 (by decide) (fun c2 => absurd c2 (by decide)) (fun c2 => ?_)
      refine h_al_g C dX8_isSound_32 rfl rfl rfv_r ?_
      refine h_al_g C dX8_isSound_33 rfl rfl rfv_r ?_
      refine gf_X8_297 C dX8_isSound_34 (LeAt.k hpr hkk) hpr.f101 ?_
      refine h_callV1 (ci := 3) C (k_X2_isRightBy Z.l Z.G _ KLET _ _ hpr hkk _ K hK3 hK) cw_X8_300 im_X2_isRightBy sl_X2_isRightBy rfl (by decide) (LeAt.k hpr hkk) dX8_isSound_37 (by first | decide | exact Nat.le_of_ble_eq_true rfl) (by decide) (by decide) (by omega) (by omega) (kB (fun μ4 hp4 => ?_) (fun μ4 hp4 => ?_)) kN
      · obtain ⟨rfl, hRt⟩ := hp4
        exact absurd hRt hNe
      · obtain ⟨rfl, hRt⟩ := hp4
        refine h_if_eq (tgt := 45) C dX8_isSound_40 (by decide) (fun c3 => ?_) (fun c3 => absurd (by decide) c3)
        refine h_iinc_1 (q := 1) C dX8_isSound_45 (by decide) ct_r ?_
        refine h_goto (tgt := 2) C dX8_isSound_48 (by decide) ?_
        rw [nI_1]
        exact ih (j + 1) (by omega) _ _
    · obtain ⟨rfl, hDf⟩ := hp3
      refine h_if_eq (tgt := 45) C dX8_isSound_29 (by decide) (fun c4 => ?_) (fun c4 => absurd (by decide) c4)
      refine h_iinc_1 (q := 1) C dX8_isSound_45 (by decide) ct_r ?_
      refine h_goto (tgt := 2) C dX8_isSound_48 (by decide) ?_
      rw [nI_1]
      exact ih (j + 1) (by omega) _ _

set_option maxRecDepth 100000 in
set_option maxHeartbeats 1000000 in
theorem lp_X8_isSound2 {Z : Zx} {rc rs mc ms : Nat} {P : Nat → Nat} {S : Sx} {μ : Mem} (hC : CRep Z.G P S μ) (hS : SND0 S) (C : Cx Z RX8 cX8_isSound 3 rc rs 147) {k n : Nat} (hk : k ≤ mc) (hn : n ≤ ms) (hk2 : k ≤ rc) (hn2 : n ≤ rs) {Post : Option Value → Mem → Prop} {PostX : String → Mem → Prop} (E : Rt Z mc ms (some .boolean) Post PostX) (hP : ∀ v, (pI fun v μ' => μ = μ' ∧ v = 1) v μ → Post v μ) :
    ∀ (m j : Nat), j + m = 27 → ∀ z3 : Option Value, HW Z k n 56 [some (.ref (P 0)), some (.int 27), some (.int (nI j)), z3] [] μ := by
  intro m
  induction m with
  | zero =>
    intro j hj z3
    refine h_iload_g C dX8_isSound_56 rfl rfl ?_
    refine h_iload_g C dX8_isSound_57 rfl rfl ?_
    refine h_icmp_ge (tgt := 95) C dX8_isSound_58 (by decide) (fun c1 => ?_) (fun c1 => absurd ((show nI 27 ≤ _ from nI_le (by omega) (by omega))) c1)
    refine h_iconst (v := 1) C dX8_isSound_95 (by decide) ?_
    refine h_zret C E dX8_isSound_96 hk hn (by first | exact Or.inl rfl | exact Or.inr rfl) ?_
    exact hP _ ⟨_, rfl, rfl, rfl⟩
  | succ m ih =>
    intro j hj z3
    refine h_iload_g C dX8_isSound_56 rfl rfl ?_
    refine h_iload_g C dX8_isSound_57 rfl rfl ?_
    refine h_icmp_ge (tgt := 95) C dX8_isSound_58 (by decide) (fun c1 => absurd c1 ((by exact nI_ge (a := j) (b := 27) (by omega) (by decide)))) (fun c1 => ?_)
    refine h_al_g C dX8_isSound_61 rfl rfl rfv_r ?_
    refine h_iload_g C dX8_isSound_62 rfl rfl ?_
    refine h_callV1 (ci := 8) C (k_X8_sessionInHouse Z.l Z.G P S _ hC j (by omega)) cw_X8_303 im_X8_sessionInHouse sl_X8_sessionInHouse rfl (by decide) (CRep.kX hC) dX8_isSound_63 (by first | decide | exact Nat.le_of_ble_eq_true rfl) (by decide) (by decide) (by omega) (by omega) (kO (fun μ1 hp1 => ?_) (fun s9 μ1 hp1 => ?_)) kN
    · obtain ⟨rfl, hn9⟩ := hp1
      refine h_ast_3 C dX8_isSound_66 ct_i rfv_n ?_
      refine h_al_g C dX8_isSound_67 rfl rfl rfv_n ?_
      refine h_ifnull_n (tgt := 89) C dX8_isSound_68 (by decide) ?_
      refine h_iinc_2 (q := 1) C dX8_isSound_89 (by decide) ct_i ?_
      refine h_goto (tgt := 56) C dX8_isSound_92 (by decide) ?_
      rw [nI_1]
      exact ih (j + 1) (by omega) _
    · obtain ⟨rfl, r9, hr9, hs9⟩ := hp1
      obtain ⟨hA9, hB9⟩ := hS.2 j (by omega) r9 hr9
      refine h_ast_3 C dX8_isSound_66 ct_i rfv_r ?_
      refine h_al_g C dX8_isSound_67 rfl rfl rfv_r ?_
      refine h_ifnull_r C dX8_isSound_68 ?_
      refine h_al_g C dX8_isSound_71 rfl rfl rfv_r ?_
      refine h_callS1 C (k_X8_isSoundAlone Z.l Z.G _ _ _ _ _ r9 hs9 hA9) cw_X8_306 st_X8_isSoundAlone dX8_isSound_72 (by first | decide | exact Nat.le_of_ble_eq_true rfl) (by decide) (by decide) (by omega) (by omega) (kI fun r1 μ2 hp2 => ?_) kN
      obtain ⟨rfl, rfl⟩ := hp2
      refine h_if_eq (tgt := 87) C dX8_isSound_75 (by decide) (fun c2 => absurd c2 ((by decide))) (fun c2 => ?_)
      refine h_al_g C dX8_isSound_78 rfl rfl rfv_r ?_
      refine h_al_g C dX8_isSound_79 rfl rfl rfv_r ?_
      refine h_iload_g C dX8_isSound_80 rfl rfl ?_
      refine h_callV2 (ci := 8) C (k_X8_isSoundBeside Z.l Z.G P S _ hC _ _ _ _ j r9 hs9 (by omega) hB9) cw_X8_309 im_X8_isSoundBeside sl_X8_isSoundBeside rfl (by decide) (CRep.kX hC) dX8_isSound_81 (by first | decide | exact Nat.le_of_ble_eq_true rfl) (by decide) (by decide) (by omega) (by omega) (kI fun r2 μ3 hp3 => ?_) kN
      obtain ⟨rfl, rfl⟩ := hp3
      refine h_if_ne (tgt := 89) C dX8_isSound_84 (by decide) (fun c3 => ?_) (fun c3 => absurd c3 ((by decide)))
      refine h_iinc_2 (q := 1) C dX8_isSound_89 (by decide) ct_i ?_
      refine h_goto (tgt := 56) C dX8_isSound_92 (by decide) ?_
      rw [nI_1]
      exact ih (j + 1) (by omega) _

set_option maxRecDepth 100000 in
set_option maxHeartbeats 1000000 in
theorem k_X8_isSound (l : Launch) (G : Gx) (P : Nat → Nat) (S : Sx) (μ : Mem) (hC : CRep G P S μ) (hS : SND0 S) : Kon l yX8_isSound cX8_isSound 4 (some .boolean) 3 0 0 147 G [.ref (P 0)] μ (pI fun v μ' => μ = μ' ∧ v = 1) noX := by
  refine Kon.ofG (by decide +kernel) (Nat.le_of_ble_eq_true rfl) (Nat.le_of_ble_eq_true rfl) (fun Z hZG C E NT MT => ?_)
  subst hZG
  have C : Cx Z RX8 cX8_isSound 3 0 0 147 := C
  show HW Z 0 0 0 [some (.ref (P 0)), none, none, none] [] μ
  obtain ⟨xs, hx, hnd, hR⟩ := hC.nt
  refine h_iconst (v := 0) C dX8_isSound_0 (by decide) ?_
  refine h_ist_1 C dX8_isSound_1 ct_r ?_
  exact lp_X8_isSound1 hC hS C (mc := 0) (ms := 0) (Nat.zero_le _) (Nat.zero_le _) (Nat.zero_le _) (Nat.zero_le _) hx hR (fun z3 => lp_X8_isSound2 hC hS C (mc := 0) (ms := 0) (Nat.zero_le _) (Nat.zero_le _) (Nat.zero_le _) (Nat.zero_le _) E (fun v h => h) 27 0 (by decide) z3) xs.length 0 (by omega) _ _

end
