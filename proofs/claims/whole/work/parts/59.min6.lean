section
theorem MTo.lxMk {Q : Nat → Nat} {W : Nat → Prop} {S : Sx} {t : Int32} {μ0 μ : Mem} {a b w : Nat} {r : Row} (h : MTo Q W μ0 (S.sSes a b w (some (r, 0))) ((((LXo S t).sHs a b w False).sHt a b w False).sTk a b w 0) μ) : MTo Q W μ0 (S.sSes a b w (some (r, 0))) (LXo (S.sSes a b w (some (r, 0))) t) μ := by
  have hf : ∀ a9 b9 w9, ¬ w3 (fun _ _ _ => False) a b w False a9 b9 w9 := fun a9 b9 w9 z => by
    unfold w3 at z
    split at z <;> exact z
  refine h.lx rfl (fun _ _ => rfl) (fun _ _ => rfl) (fun _ _ _ _ => rfl) (fun a9 b9 w9 _ _ _ => ?_) (fun a9 b9 w9 _ _ _ => hf a9 b9 w9) (fun a9 b9 w9 _ _ _ => hf a9 b9 w9)
  show w3 (fun x y z => TKo (S.ses x y z)) a b w 0 a9 b9 w9 = TKo (w3 S.ses a b w (some (r, 0)) a9 b9 w9)
  by_cases c : a9 = a ∧ b9 = b ∧ w9 = w
  · obtain ⟨rfl, rfl, rfl⟩ := c
    rw [w3_eq, w3_eq]
    rfl
  · rw [w3_ne c, w3_ne c]
theorem MTo.lxTo {Q : Nat → Nat} {W : Nat → Prop} {S : Sx} {t : Int32} {μ0 μ : Mem} {a b : Nat} {r : Row} (h : MTo Q W μ0 ((S.sSes a b 0 (S.ses a b 1)).sSes a b 1 (some (r, 0))) ((((LTo (LXo S t) a b).sHs a b 1 False).sHt a b 1 False).sTk a b 1 0) μ) : MTo Q W μ0 ((S.sSes a b 0 (S.ses a b 1)).sSes a b 1 (some (r, 0))) (LXo ((S.sSes a b 0 (S.ses a b 1)).sSes a b 1 (some (r, 0))) t) μ := by
  have hf : ∀ a9 b9 w9, ¬ w3 (w3 (w3 (fun _ _ _ => False) a b 1 True) a b 0 False) a b 1 False a9 b9 w9 := fun a9 b9 w9 z => by
    unfold w3 at z
    by_cases c1 : a9 = a ∧ b9 = b ∧ w9 = 1
    · rw [if_pos c1] at z; exact z
    · rw [if_neg c1] at z
      by_cases c0 : a9 = a ∧ b9 = b ∧ w9 = 0
      · rw [if_pos c0] at z; exact z
      · rw [if_neg c0, if_neg c1] at z; exact z
  refine h.lx rfl (fun _ _ => rfl) (fun _ _ => rfl) (fun _ _ _ _ => rfl) (fun a9 b9 w9 _ _ _ => ?_) (fun a9 b9 w9 _ _ _ => hf a9 b9 w9) (fun a9 b9 w9 _ _ _ => hf a9 b9 w9)
  show w3 (w3 (fun x y z => TKo (S.ses x y z)) a b 0 (TKo (S.ses a b 1))) a b 1 0 a9 b9 w9 = TKo (w3 (w3 S.ses a b 0 (S.ses a b 1)) a b 1 (some (r, 0)) a9 b9 w9)
  by_cases c : a9 = a ∧ b9 = b ∧ w9 = 1
  · obtain ⟨rfl, rfl, rfl⟩ := c
    rw [w3_eq, w3_eq]
    rfl
  · rw [w3_ne c, w3_ne c]
    by_cases c0 : a9 = a ∧ b9 = b ∧ w9 = 0
    · obtain ⟨rfl, rfl, rfl⟩ := c0
      rw [w3_eq, w3_eq]
    · rw [w3_ne c0, w3_ne c0]
theorem mix3 {x : Int32} {y z : Nat} (hy : y < 2 ^ 31) (hz : z < 2 ^ 31) : nI (MIX ([x, nI y, nI z].map Int32.toInt)) = nI (MIX [x.toInt, (y : Int), (z : Int)]) := by
  show nI (MIX [x.toInt, (nI y).toInt, (nI z).toInt]) = _
  rw [nI_toInt hy, nI_toInt hz]
theorem mix4 {x : Int32} {y z u : Nat} (hy : y < 2 ^ 31) (hz : z < 2 ^ 31) (hu : u < 2 ^ 31) : nI (MIX ([x, nI y, nI z, nI u].map Int32.toInt)) = nI (MIX [x.toInt, (y : Int), (z : Int), (u : Int)]) := by
  show nI (MIX [x.toInt, (nI y).toInt, (nI z).toInt, (nI u).toInt]) = _
  rw [nI_toInt hy, nI_toInt hz, nI_toInt hu]
theorem mix3k {x : Int32} {y : Nat} {z : Int32} (hy : y < 2 ^ 31) : nI (MIX ([x, nI y, z].map Int32.toInt)) = nI (MIX [x.toInt, (y : Int), z.toInt]) := by
  show nI (MIX [x.toInt, (nI y).toInt, z.toInt]) = _
  rw [nI_toInt hy]
theorem lt31 {n m : Nat} (h : n < m) (hm : m ≤ 2 ^ 31) : n < 2 ^ 31 := by omega
set_option maxRecDepth 100000 in
set_option maxHeartbeats 1000000 in
theorem k_X9_gotHello (l : Launch) (G : Gx) (Q : Nat → Nat) (S : Sx) (t : Int32) (μ : Mem) (hM : MRq Q S (LXo S t) μ) (e : Nat) (he : e < 3) (xe : Int32) (hxe : xe = nI e) (z : Nat) (g : Row) (hR_z : RowAt μ KLR z 16 g) (a b : Nat) (ha : a < 3) (hb : b < 3) (hk1 : g 2 = 1) (hw9 : g 5 = nI (10 * a + b)) (hX : g 4 = nI (cl (g 4))) (hN : 0 < (HNUM S).toInt ∧ (HNUM S).toInt < 1000000) : Kon l yX9_gotHello cX9_gotHello 14 (some .int) 3 12 98 74 G [.ref (Q 0), .int xe, .ref z] μ (pI fun v μ' => v = THc S e a b g ∧ MTo Q WAll μ (THs S e a b g) (LXo (THs S e a b g) t) μ') noX := by
  refine Kon.ofG (by decide +kernel) (Nat.le_of_ble_eq_true rfl) (Nat.le_of_ble_eq_true rfl) (fun Z hZG C E NT MT => ?_)
  subst hZG
  have C : Cx Z RX9 cX9_gotHello 3 12 98 74 := C
  show HW Z 0 0 0 [some (.ref (Q 0)), some (.int xe), some (.ref z), none, none, none, none, none, none, none, none, none, none, none] [] μ
  subst hxe
  have hM0 := hM
  have hT : MTo Q WAll μ S (LXo S t) μ := MTo.rf hM
  have h211 : 211 + 307 * e < 2 ^ 31 := by omega
  have hnm : ∀ b, NAME b < 2 ^ 31 := fun b => lt31 (NAME_lt b) (by decide)
  have hkx : HSEC S < 2 ^ 31 := by have := SEC_lt (cl (HNUM S)); unfold HSEC; omega
  have eW : (nI (10 * a + b) - nI (10 * a + b) / 10 * 10 : Int32) = nI b := by rw [show (10 : Int32) = nI 10 from rfl, pk_rem (by omega) (by decide) (by decide), show (10 * a + b) % 10 = b by omega]
  have eD : (nI (10 * a + b) / 10 : Int32) = nI a := by rw [show (10 : Int32) = nI 10 from rfl, pk_div (by omega) (by decide) (by decide), show (10 * a + b) / 10 = a by omega]
  have hTG : TAGR g = g 7 := by unfold TAGR; rw [hk1]; rfl
  have hSR : SEALR (HKT e a g) g = SEALN (HKT e a g) 1 [g 3, g 4, nI (10 * a + b), g 6] := SEALR_N hk1 rfl (fun i hi => by
    have h9 : i = 0 ∨ i = 1 ∨ i = 2 ∨ i = 3 := by have : i < 4 := hi; omega
    rcases h9 with rfl | rfl | rfl | rfl
    · rfl
    · rfl
    · exact hw9
    · rfl)
  refine h_al_g C dX9_gotHello_0 rfl rfl rfv_r ?_
  refine h_iconst (v := 3) C dX9_gotHello_1 (by decide) ?_
  refine h_iald C dX9_gotHello_2 (by rw [hR_z.1]; first | decide | exact KSE_m _ _ _) (inb hR_z.2.1 (vp_in_nI (n := 3) (by decide) (by decide))) (hR_z.2.2 3 (by decide)) ?_
  refine h_ist_3 C dX9_gotHello_3 ct_r ?_
  refine h_al_g C dX9_gotHello_4 rfl rfl rfv_r ?_
  refine h_iconst (v := 4) C dX9_gotHello_5 (by decide) ?_
  refine h_iald C dX9_gotHello_6 (by rw [hR_z.1]; first | decide | exact KSE_m _ _ _) (inb hR_z.2.1 (vp_in_nI (n := 4) (by decide) (by decide))) (hR_z.2.2 4 (by decide)) ?_
  refine h_ist_4 C dX9_gotHello_7 ct_i ?_
  refine h_al_g C dX9_gotHello_9 rfl rfl rfv_r ?_
  refine h_iconst (v := 5) C dX9_gotHello_10 (by decide) ?_
  refine h_iald C dX9_gotHello_11 (by rw [hR_z.1]; first | decide | exact KSE_m _ _ _) (inb hR_z.2.1 (vp_in_nI (n := 5) (by decide) (by decide))) (hR_z.2.2 5 (by decide)) ?_
  rw [hw9]
  refine h_ist_5 C dX9_gotHello_12 ct_i ?_
  refine h_al_g C dX9_gotHello_14 rfl rfl rfv_r ?_
  refine h_bipush (v := 6) C dX9_gotHello_15 (by decide) ?_
  refine h_iald C dX9_gotHello_17 (by rw [hR_z.1]; first | decide | exact KSE_m _ _ _) (inb hR_z.2.1 (vp_in_nI (n := 6) (by decide) (by decide))) (hR_z.2.2 6 (by decide)) ?_
  refine h_ist_6 C dX9_gotHello_18 ct_i ?_
  refine h_al_g C dX9_gotHello_20 rfl rfl rfv_r ?_
  refine h_bipush (v := 7) C dX9_gotHello_21 (by decide) ?_
  refine h_iald C dX9_gotHello_23 (by rw [hR_z.1]; first | decide | exact KSE_m _ _ _) (inb hR_z.2.1 (vp_in_nI (n := 7) (by decide) (by decide))) (hR_z.2.2 7 (by decide)) ?_
  refine h_ist_7 C dX9_gotHello_24 ct_i ?_
  refine h_iload_w C dX9_gotHello_26 rfl ?_
  refine h_bipush (v := 10) C dX9_gotHello_28 (by decide) ?_
  refine h_idiv C dX9_gotHello_30 (by decide) ?_
  rw [eD]
  refine h_ist_8 C dX9_gotHello_31 ct_i ?_
  refine h_iload_w C dX9_gotHello_33 rfl ?_
  refine h_bipush (v := 10) C dX9_gotHello_35 (by decide) ?_
  refine h_irem C dX9_gotHello_37 (by decide) ?_
  rw [eW]
  refine h_iload_g C dX9_gotHello_38 rfl rfl ?_
  refine h_icmp_eq (tgt := 44) C dX9_gotHello_39 (by decide) (fun cbe => ?_) (fun cbe => ?_)
  · have hbe : ¬ ¬ b = e := fun z => z ((nI_eq (by omega) (by omega)).mp cbe)
    refine h_iconst (v := 4) C dX9_gotHello_44 (by decide) ?_
    refine h_newarr (atype := .int) (N := 4) (11 + 32 * 100) C ac_11 (by decide) (Or.inl (by decide)) dX9_gotHello_45 (by decide) (by decide) (by decide) (by first | decide | omega) (by first | decide | omega) (fun qa hqa => ?_)
    refine h_abs (fun m1 em1 => ?_)
    have hLqa := NL.new em1
    have hR_z := hR_z.newA (by first | decide | (unfold KSE; omega) | (unfold KSE KTMP; omega)) hqa em1
    have hwqa := hT.fresh hqa
    have hT := hT.newT hqa em1
    have hM := hT.1
    refine h_dup C dX9_gotHello_47 rfl ?_
    refine h_iconst (v := 0) C dX9_gotHello_48 (by decide) ?_
    refine h_bipush (v := 6) C dX9_gotHello_49 (by decide) ?_
    refine h_iast C dX9_gotHello_51 hLqa.k (inb hLqa.2.1 (vp_in_nI (n := 0) (by decide) (by decide))) ?_
    refine h_abs (fun m2 em2 => ?_)
    rw [show Int32.toNatClampNeg 0 = 0 from rfl] at em2
    have hR_z := hR_z.tmp hLqa (by first | decide | (unfold KSE; omega) | (unfold KSE KTMP; omega)) em2
    have hT := hT.tmp hLqa hwqa em2
    have hM := hT.1
    have hLqa := hLqa.push em2 rfl
    refine h_dup C dX9_gotHello_52 rfl ?_
    refine h_iconst (v := 1) C dX9_gotHello_53 (by decide) ?_
    refine h_iload_g C dX9_gotHello_54 rfl rfl ?_
    refine h_callS1 C (k_X9_secretOf Z.l Z.G _ _) cw_X9_118 st_X9_secretOf dX9_gotHello_55 (by first | decide | exact Nat.le_of_ble_eq_true rfl) (by decide) (by decide) (by decide) (by decide) (kI fun r1 μ1 hp1 => ?_) kN
    obtain ⟨rfl, rfl⟩ := hp1
    rw [show (211 + 307 * nI e : Int32) = nI (211 + 307 * e) from by rw [show (307 : Int32) = nI 307 from rfl, pk_mul, show (211 : Int32) = nI 211 from rfl, nI_add]]
    refine h_iast C dX9_gotHello_58 hLqa.k (inb hLqa.2.1 (vp_in_nI (n := 1) (by decide) (by decide))) ?_
    refine h_abs (fun m3 em3 => ?_)
    rw [show Int32.toNatClampNeg 1 = 1 from rfl] at em3
    have hR_z := hR_z.tmp hLqa (by first | decide | (unfold KSE; omega) | (unfold KSE KTMP; omega)) em3
    have hT := hT.tmp hLqa hwqa em3
    have hM := hT.1
    have hLqa := hLqa.push em3 rfl
    refine h_dup C dX9_gotHello_59 rfl ?_
    refine h_iconst (v := 2) C dX9_gotHello_60 (by decide) ?_
    refine h_al_g C dX9_gotHello_61 rfl rfl rfv_r ?_
    refine gf_X9_129 C dX9_gotHello_62 hM.kX hM.f288 ?_
    refine h_bipush (v := 60) C dX9_gotHello_65 (by decide) ?_
    refine h_idiv C dX9_gotHello_67 (by decide) ?_
    refine h_iast C dX9_gotHello_68 hLqa.k (inb hLqa.2.1 (vp_in_nI (n := 2) (by decide) (by decide))) ?_
    refine h_abs (fun m4 em4 => ?_)
    rw [show Int32.toNatClampNeg 2 = 2 from rfl] at em4
    have hR_z := hR_z.tmp hLqa (by first | decide | (unfold KSE; omega) | (unfold KSE KTMP; omega)) em4
    have hT := hT.tmp hLqa hwqa em4
    have hM := hT.1
    have hLqa := hLqa.push em4 rfl
    refine h_dup C dX9_gotHello_69 rfl ?_
    refine h_iconst (v := 3) C dX9_gotHello_70 (by decide) ?_
    refine h_al_g C dX9_gotHello_71 rfl rfl rfv_r ?_
    refine h_iconst (v := 0) C dX9_gotHello_72 (by decide) ?_
    refine h_iald C dX9_gotHello_73 (by rw [hR_z.1]; first | decide | exact KSE_m _ _ _) (inb hR_z.2.1 (vp_in_nI (n := 0) (by decide) (by decide))) (hR_z.2.2 0 (by decide)) ?_
    refine h_iast C dX9_gotHello_74 hLqa.k (inb hLqa.2.1 (vp_in_nI (n := 3) (by decide) (by decide))) ?_
    refine h_abs (fun m5 em5 => ?_)
    rw [show Int32.toNatClampNeg 3 = 3 from rfl] at em5
    have hR_z := hR_z.tmp hLqa (by first | decide | (unfold KSE; omega) | (unfold KSE KTMP; omega)) em5
    have hT := hT.tmp hLqa hwqa em5
    have hM := hT.1
    have hLqa := hLqa.push em5 rfl
    refine h_callS1 C (k_X9_mix Z.l Z.G qa [6, nI (211 + 307 * e), S.sc 0 / 60, g 0] _ hLqa.k hLqa.2.1 hLqa.2.2 (Nat.le_of_ble_eq_true rfl)) cw_X9_138 st_X9_mix dX9_gotHello_75 (by first | decide | exact Nat.le_of_ble_eq_true rfl) (by decide) (by decide) (by decide) (by decide) (kI fun r2 μ2 hp2 => ?_) kN
    obtain ⟨rfl, rfl⟩ := hp2
    rw [show nI (MIX ([6, nI (211 + 307 * e), S.sc 0 / 60, g 0].map Int32.toInt)) = nI (CKE S e g) from by
      show nI (MIX [(6 : Int32).toInt, (nI (211 + 307 * e)).toInt, (S.sc 0 / 60).toInt, (g 0).toInt]) = _
      rw [nI_toInt h211]
      rfl]
    refine h_ist_9 C dX9_gotHello_78 ct_i ?_
    refine h_al_g C dX9_gotHello_80 rfl rfl rfv_r ?_
    refine gs_X9_26 C dX9_gotHello_81 hM.kX (hM.fA (i := 5) (by decide)) ?_
    refine h_iload_g C dX9_gotHello_84 rfl rfl ?_
    refine h_zald C dX9_gotHello_85 hM.k12 (inb (hM.ln3 (by decide)) (vp_in_nI he (by decide))) (atI (cl_of (n := e) (by have h9 := he; omega)) (hM.a5 he)) ?_
    refine h_if_eq (tgt := 189) C dX9_gotHello_86 (by decide) (fun cL => ?_) (fun cL => ?_)
    · have hC : ¬ (¬ S.ef 1 e = 0 ∧ ¬ g 8 = nI (MIX [2, (CKE S e g : Int), (TAGR g).toInt])) := fun z => z.1 cL
      refine h_iconst (v := 3) C dX9_gotHello_189 (by decide) ?_
      refine h_newarr (atype := .int) (N := 3) (11 + 32 * 100) C ac_11 (by decide) (Or.inl (by decide)) dX9_gotHello_190 (by decide) (by decide) (by decide) (by first | decide | omega) (by first | decide | omega) (fun qf hqf => ?_)
      refine h_abs (fun m6 em6 => ?_)
      have hLqf := NL.new em6
      have hR_z := hR_z.newA (by first | decide | (unfold KSE; omega) | (unfold KSE KTMP; omega)) hqf em6
      have hwqf := hT.fresh hqf
      have hT := hT.newT hqf em6
      have hM := hT.1
      refine h_dup C dX9_gotHello_192 rfl ?_
      refine h_iconst (v := 0) C dX9_gotHello_193 (by decide) ?_
      refine h_iconst (v := 1) C dX9_gotHello_194 (by decide) ?_
      refine h_iast C dX9_gotHello_195 hLqf.k (inb hLqf.2.1 (vp_in_nI (n := 0) (by decide) (by decide))) ?_
      refine h_abs (fun m7 em7 => ?_)
      rw [show Int32.toNatClampNeg 0 = 0 from rfl] at em7
      have hR_z := hR_z.tmp hLqf (by first | decide | (unfold KSE; omega) | (unfold KSE KTMP; omega)) em7
      have hT := hT.tmp hLqf hwqf em7
      have hM := hT.1
      have hLqf := hLqf.push em7 rfl
      refine h_dup C dX9_gotHello_196 rfl ?_
      refine h_iconst (v := 1) C dX9_gotHello_197 (by decide) ?_
      refine h_iload_g C dX9_gotHello_198 rfl rfl ?_
      refine h_callS1 C (k_X9_secretOf Z.l Z.G _ _) cw_X9_118 st_X9_secretOf dX9_gotHello_199 (by first | decide | exact Nat.le_of_ble_eq_true rfl) (by decide) (by decide) (by decide) (by decide) (kI fun r3 μ3 hp3 => ?_) kN
      obtain ⟨rfl, rfl⟩ := hp3
      rw [show (211 + 307 * nI e : Int32) = nI (211 + 307 * e) from by rw [show (307 : Int32) = nI 307 from rfl, pk_mul, show (211 : Int32) = nI 211 from rfl, nI_add]]
      refine h_iload_w C dX9_gotHello_202 rfl ?_
      refine h_callS2 C (k_X9_both Z.l Z.G _ _ (211 + 307 * e) (cl (g 4)) rfl h211 hX (cl_lt _) _) cw_X9_135 st_X9_both dX9_gotHello_204 (by first | decide | exact Nat.le_of_ble_eq_true rfl) (by decide) (by decide) (by decide) (by decide) (kI fun r4 μ4 hp4 => ?_) kN
      obtain ⟨rfl, rfl⟩ := hp4
      refine h_iast C dX9_gotHello_207 hLqf.k (inb hLqf.2.1 (vp_in_nI (n := 1) (by decide) (by decide))) ?_
      refine h_abs (fun m8 em8 => ?_)
      rw [show Int32.toNatClampNeg 1 = 1 from rfl] at em8
      have hR_z := hR_z.tmp hLqf (by first | decide | (unfold KSE; omega) | (unfold KSE KTMP; omega)) em8
      have hT := hT.tmp hLqf hwqf em8
      have hM := hT.1
      have hLqf := hLqf.push em8 rfl
      refine h_dup C dX9_gotHello_208 rfl ?_
      refine h_iconst (v := 2) C dX9_gotHello_209 (by decide) ?_
      refine h_iload_g C dX9_gotHello_210 rfl rfl ?_
      refine h_callS1 C (k_X9_secretOf Z.l Z.G _ _) cw_X9_118 st_X9_secretOf dX9_gotHello_211 (by first | decide | exact Nat.le_of_ble_eq_true rfl) (by decide) (by decide) (by decide) (by decide) (kI fun r5 μ5 hp5 => ?_) kN
      obtain ⟨rfl, rfl⟩ := hp5
      rw [show (211 + 307 * nI e : Int32) = nI (211 + 307 * e) from by rw [show (307 : Int32) = nI 307 from rfl, pk_mul, show (211 : Int32) = nI 211 from rfl, nI_add]]
      refine h_iload_w C dX9_gotHello_214 rfl ?_
      refine h_callS1 C (k_X9_nameOf Z.l Z.G _ a rfl (by omega) _) cw_X9_132 st_X9_nameOf dX9_gotHello_216 (by first | decide | exact Nat.le_of_ble_eq_true rfl) (by decide) (by decide) (by decide) (by decide) (kI fun r6 μ6 hp6 => ?_) kN
      obtain ⟨rfl, rfl⟩ := hp6
      refine h_callS2 C (k_X9_both Z.l Z.G _ _ (211 + 307 * e) (NAME a) rfl h211 rfl (hnm a) _) cw_X9_135 st_X9_both dX9_gotHello_219 (by first | decide | exact Nat.le_of_ble_eq_true rfl) (by decide) (by decide) (by decide) (by decide) (kI fun r7 μ7 hp7 => ?_) kN
      obtain ⟨rfl, rfl⟩ := hp7
      refine h_iast C dX9_gotHello_222 hLqf.k (inb hLqf.2.1 (vp_in_nI (n := 2) (by decide) (by decide))) ?_
      refine h_abs (fun m9 em9 => ?_)
      rw [show Int32.toNatClampNeg 2 = 2 from rfl] at em9
      have hR_z := hR_z.tmp hLqf (by first | decide | (unfold KSE; omega) | (unfold KSE KTMP; omega)) em9
      have hT := hT.tmp hLqf hwqf em9
      have hM := hT.1
      have hLqf := hLqf.push em9 rfl
      refine h_callS1 C (k_X9_mix Z.l Z.G qf [1, nI (PW (cl (g 4)) (211 + 307 * e)), nI (PW (NAME a) (211 + 307 * e))] _ hLqf.k hLqf.2.1 hLqf.2.2 (Nat.le_of_ble_eq_true rfl)) cw_X9_138 st_X9_mix dX9_gotHello_223 (by first | decide | exact Nat.le_of_ble_eq_true rfl) (by decide) (by decide) (by decide) (by decide) (kI fun r8 μ8 hp8 => ?_) kN
      obtain ⟨rfl, rfl⟩ := hp8
      rw [show nI (MIX ([1, nI (PW (cl (g 4)) (211 + 307 * e)), nI (PW (NAME a) (211 + 307 * e))].map Int32.toInt)) = nI (HKT e a g) from mix3 (lt31 (PW_lt _ _) (by decide)) (lt31 (PW_lt _ _) (by decide))]
      refine h_ist_10 C dX9_gotHello_226 ct_i ?_
      refine h_iload_w C dX9_gotHello_228 rfl ?_
      refine h_iload_w C dX9_gotHello_230 rfl ?_
      refine h_iconst (v := 5) C dX9_gotHello_232 (by decide) ?_
      refine h_newarr (atype := .int) (N := 5) (11 + 32 * 100) C ac_11 (by decide) (Or.inl (by decide)) dX9_gotHello_233 (by decide) (by decide) (by decide) (by first | decide | omega) (by first | decide | omega) (fun qg hqg => ?_)
      refine h_abs (fun m10 em10 => ?_)
      have hLqg := NL.new em10
      have hR_z := hR_z.newA (by first | decide | (unfold KSE; omega) | (unfold KSE KTMP; omega)) hqg em10
      have hwqg := hT.fresh hqg
      have hT := hT.newT hqg em10
      have hM := hT.1
      refine h_dup C dX9_gotHello_235 rfl ?_
      refine h_iconst (v := 0) C dX9_gotHello_236 (by decide) ?_
      refine h_iconst (v := 1) C dX9_gotHello_237 (by decide) ?_
      refine h_iast C dX9_gotHello_238 hLqg.k (inb hLqg.2.1 (vp_in_nI (n := 0) (by decide) (by decide))) ?_
      refine h_abs (fun m11 em11 => ?_)
      rw [show Int32.toNatClampNeg 0 = 0 from rfl] at em11
      have hR_z := hR_z.tmp hLqg (by first | decide | (unfold KSE; omega) | (unfold KSE KTMP; omega)) em11
      have hT := hT.tmp hLqg hwqg em11
      have hM := hT.1
      have hLqg := hLqg.push em11 rfl
      refine h_dup C dX9_gotHello_239 rfl ?_
      refine h_iconst (v := 1) C dX9_gotHello_240 (by decide) ?_
      refine h_iload_g C dX9_gotHello_241 rfl rfl ?_
      refine h_iast C dX9_gotHello_242 hLqg.k (inb hLqg.2.1 (vp_in_nI (n := 1) (by decide) (by decide))) ?_
      refine h_abs (fun m12 em12 => ?_)
      rw [show Int32.toNatClampNeg 1 = 1 from rfl] at em12
      have hR_z := hR_z.tmp hLqg (by first | decide | (unfold KSE; omega) | (unfold KSE KTMP; omega)) em12
      have hT := hT.tmp hLqg hwqg em12
      have hM := hT.1
      have hLqg := hLqg.push em12 rfl
      refine h_dup C dX9_gotHello_243 rfl ?_
      refine h_iconst (v := 2) C dX9_gotHello_244 (by decide) ?_
      refine h_iload_w C dX9_gotHello_245 rfl ?_
      refine h_iast C dX9_gotHello_247 hLqg.k (inb hLqg.2.1 (vp_in_nI (n := 2) (by decide) (by decide))) ?_
      refine h_abs (fun m13 em13 => ?_)
      rw [show Int32.toNatClampNeg 2 = 2 from rfl] at em13
      have hR_z := hR_z.tmp hLqg (by first | decide | (unfold KSE; omega) | (unfold KSE KTMP; omega)) em13
      have hT := hT.tmp hLqg hwqg em13
      have hM := hT.1
      have hLqg := hLqg.push em13 rfl
      refine h_dup C dX9_gotHello_248 rfl ?_
      refine h_iconst (v := 3) C dX9_gotHello_249 (by decide) ?_
      refine h_iload_w C dX9_gotHello_250 rfl ?_
      refine h_iast C dX9_gotHello_252 hLqg.k (inb hLqg.2.1 (vp_in_nI (n := 3) (by decide) (by decide))) ?_
      refine h_abs (fun m14 em14 => ?_)
      rw [show Int32.toNatClampNeg 3 = 3 from rfl] at em14
      have hR_z := hR_z.tmp hLqg (by first | decide | (unfold KSE; omega) | (unfold KSE KTMP; omega)) em14
      have hT := hT.tmp hLqg hwqg em14
      have hM := hT.1
      have hLqg := hLqg.push em14 rfl
      refine h_dup C dX9_gotHello_253 rfl ?_
      refine h_iconst (v := 4) C dX9_gotHello_254 (by decide) ?_
      refine h_iload_w C dX9_gotHello_255 rfl ?_
      refine h_iast C dX9_gotHello_257 hLqg.k (inb hLqg.2.1 (vp_in_nI (n := 4) (by decide) (by decide))) ?_
      refine h_abs (fun m15 em15 => ?_)
      rw [show Int32.toNatClampNeg 4 = 4 from rfl] at em15
      have hR_z := hR_z.tmp hLqg (by first | decide | (unfold KSE; omega) | (unfold KSE KTMP; omega)) em15
      have hT := hT.tmp hLqg hwqg em15
      have hM := hT.1
      have hLqg := hLqg.push em15 rfl
      refine h_callS2 C (k_X9_sealOf Z.l Z.G _ (HKT e a g) qg [1, g 3, g 4, nI (10 * a + b), g 6] _ rfl (MIX_lt _) hLqg.k hLqg.2.1 hLqg.2.2 (Nat.le_of_ble_eq_true rfl)) cw_X9_154 st_X9_sealOf dX9_gotHello_258 (by first | decide | exact Nat.le_of_ble_eq_true rfl) (by decide) (by decide) (by decide) (by decide) (kI fun r9 μ9 hp9 => ?_) kN
      obtain ⟨rfl, rfl⟩ := hp9
      rw [sgS_N]
      refine h_icmp_eq (tgt := 267) C dX9_gotHello_261 (by decide) (fun cB => ?_) (fun cB => ?_)
      · have hB : ¬ ¬ TAGR g = SEALR (HKT e a g) g := fun z => z (by rw [hTG, hSR]; exact cB)
        refine h_iload_w C dX9_gotHello_267 rfl ?_
        refine h_al_g C dX9_gotHello_269 rfl rfl rfv_r ?_
        refine gs_X9_40 C dX9_gotHello_270 hM.kX (hM.fA (i := 8) (by decide)) ?_
        refine h_iload_g C dX9_gotHello_273 rfl rfl ?_
        refine h_aald (r := some _) C dX9_gotHello_274 (hM.kr (by decide)) (inb (hM.ln3 (by decide)) (vp_in_nI he (by decide))) (atI (cl_of (n := e) (by have h9 := he; omega)) (hM.tb (t := 1) (by decide) he)) ?_
        refine h_iload_w C dX9_gotHello_275 rfl ?_
        refine h_iald C dX9_gotHello_277 (hM.k11 (by have h0_ := he; omega)) (inb (hM.ln3 (by have h0_ := he; omega)) (vp_in_nI ha (by decide))) (atI (cl_of (n := a) (by have h9 := ha; omega)) (hM.t1 he ha)) ?_
        refine h_icmp_gt (tgt := 284) C dX9_gotHello_278 (by decide) (fun cO => ?_) (fun cO => ?_)
        · have hO : ¬ g 6 ≤ S.lf 1 e a := Int32.not_le.mpr cO
          refine h_al_g C dX9_gotHello_284 rfl rfl rfv_r ?_
          refine gs_X9_40 C dX9_gotHello_285 hM.kX (hM.fA (i := 8) (by decide)) ?_
          refine h_iload_g C dX9_gotHello_288 rfl rfl ?_
          refine h_aald (r := some _) C dX9_gotHello_289 (hM.kr (by decide)) (inb (hM.ln3 (by decide)) (vp_in_nI he (by decide))) (atI (cl_of (n := e) (by have h9 := he; omega)) (hM.tb (t := 1) (by decide) he)) ?_
          refine h_iload_w C dX9_gotHello_290 rfl ?_
          refine h_iload_w C dX9_gotHello_292 rfl ?_
          refine h_iast C dX9_gotHello_294 (hM.k11 (by have h0_ := he; omega)) (inb (hM.ln3 (by have h0_ := he; omega)) (vp_in_nI ha (by decide))) ?_
          refine h_abs (fun m16 em16 => ?_)
          rw [show (nI a).toNatClampNeg = a from (cl_of (n := a) (by have h9 := ha; omega))] at em16
          have hR_z := hR_z.wQ hM (by first | decide | (unfold KSE; omega) | (unfold KSE KTMP; omega)) (j := 21 + 3 * 1 + e) (by have h0_ := he; omega) em16
          have hT := hT.sei (j := 21 + 3 * 1 + e) (by have h0_ := he; omega) (Or.inr trivial) em16 (hT.1.wT1 he ha em16)
          have hM := hT.1
          refine h_al_g C dX9_gotHello_295 rfl rfl rfv_r ?_
          refine gs_X9_37 C dX9_gotHello_296 hM.kX (hM.fA (i := 7) (by decide)) ?_
          refine h_iload_g C dX9_gotHello_299 rfl rfl ?_
          refine h_aald (r := some _) C dX9_gotHello_300 (hM.kr (by decide)) (inb (hM.ln3 (by decide)) (vp_in_nI he (by decide))) (atI (cl_of (n := e) (by have h9 := he; omega)) (hM.tb (t := 0) (by decide) he)) ?_
          refine h_iload_w C dX9_gotHello_301 rfl ?_
          refine h_al_g C dX9_gotHello_303 rfl rfl rfv_r ?_
          refine h_iconst (v := 0) C dX9_gotHello_304 (by decide) ?_
          refine h_iald C dX9_gotHello_305 (by rw [hR_z.1]; first | decide | exact KSE_m _ _ _) (inb hR_z.2.1 (vp_in_nI (n := 0) (by decide) (by decide))) (hR_z.2.2 0 (by decide)) ?_
          refine h_iast C dX9_gotHello_306 (hM.k11 (by have h0_ := he; omega)) (inb (hM.ln3 (by have h0_ := he; omega)) (vp_in_nI ha (by decide))) ?_
          refine h_abs (fun m17 em17 => ?_)
          rw [show (nI a).toNatClampNeg = a from (cl_of (n := a) (by have h9 := ha; omega))] at em17
          have hR_z := hR_z.wQ hM (by first | decide | (unfold KSE; omega) | (unfold KSE KTMP; omega)) (j := 21 + 3 * 0 + e) (by have h0_ := he; omega) em17
          have hT := hT.sei (j := 21 + 3 * 0 + e) (by have h0_ := he; omega) (Or.inr trivial) em17 (hT.1.wT0 he ha em17)
          have hM := hT.1
          refine h_al_g C dX9_gotHello_307 rfl rfl rfv_r ?_
          refine h_dup C dX9_gotHello_308 rfl ?_
          refine gf_X9_7 C dX9_gotHello_309 hM.kX hM.f289 ?_
          refine h_dup_x1 C dX9_gotHello_312 rfl rfl ?_
          refine h_iconst (v := 1) C dX9_gotHello_313 (by decide) ?_
          refine h_iadd C dX9_gotHello_314 ?_
          refine pf_X9_7 C dX9_gotHello_315 hM.kX ?_
          refine h_abs (fun m18 em18 => ?_)
          have hR_z := hR_z.w0i hM (by first | decide | (unfold KSE; omega) | (unfold KSE KTMP; omega)) em18
          have hT := hT.sfi (Or.inr trivial) em18 (hT.1.w289 (v := HNUM S) em18)
          have hM := hT.1
          refine h_ist_11 C dX9_gotHello_318 ct_i ?_
          refine h_iload_w C dX9_gotHello_320 rfl ?_
          refine h_callS1 C (k_X9_fresh Z.l Z.G _ (cl (HNUM S)) (cl_nI (by omega)) (by have := cl_eq (x := HNUM S) (by omega); omega) _) cw_X9_142 st_X9_fresh dX9_gotHello_322 (by first | decide | exact Nat.le_of_ble_eq_true rfl) (by decide) (by decide) (by decide) (by decide) (kI fun r10 μ10 hp10 => ?_) kN
          obtain ⟨rfl, rfl⟩ := hp10
          rw [show SEC (cl (HNUM S)) = HSEC S from rfl]
          refine h_ist_12 C dX9_gotHello_325 ct_i ?_
          refine h_iconst (v := 4) C dX9_gotHello_327 (by decide) ?_
          refine h_newarr (atype := .int) (N := 4) (11 + 32 * 100) C ac_11 (by decide) (Or.inl (by decide)) dX9_gotHello_328 (by decide) (by decide) (by decide) (by first | decide | omega) (by first | decide | omega) (fun qh hqh => ?_)
          refine h_abs (fun m19 em19 => ?_)
          have hLqh := NL.new em19
          have hR_z := hR_z.newA (by first | decide | (unfold KSE; omega) | (unfold KSE KTMP; omega)) hqh em19
          have hwqh := hT.fresh hqh
          have hT := hT.newT hqh em19
          have hM := hT.1
          refine h_dup C dX9_gotHello_330 rfl ?_
          refine h_iconst (v := 0) C dX9_gotHello_331 (by decide) ?_
          refine h_iconst (v := 4) C dX9_gotHello_332 (by decide) ?_
          refine h_iast C dX9_gotHello_333 hLqh.k (inb hLqh.2.1 (vp_in_nI (n := 0) (by decide) (by decide))) ?_
          refine h_abs (fun m20 em20 => ?_)
          rw [show Int32.toNatClampNeg 0 = 0 from rfl] at em20
          have hR_z := hR_z.tmp hLqh (by first | decide | (unfold KSE; omega) | (unfold KSE KTMP; omega)) em20
          have hT := hT.tmp hLqh hwqh em20
          have hM := hT.1
          have hLqh := hLqh.push em20 rfl
          refine h_dup C dX9_gotHello_334 rfl ?_
          refine h_iconst (v := 1) C dX9_gotHello_335 (by decide) ?_
          refine h_iload_w C dX9_gotHello_336 rfl ?_
          refine h_iast C dX9_gotHello_338 hLqh.k (inb hLqh.2.1 (vp_in_nI (n := 1) (by decide) (by decide))) ?_
          refine h_abs (fun m21 em21 => ?_)
          rw [show Int32.toNatClampNeg 1 = 1 from rfl] at em21
          have hR_z := hR_z.tmp hLqh (by first | decide | (unfold KSE; omega) | (unfold KSE KTMP; omega)) em21
          have hT := hT.tmp hLqh hwqh em21
          have hM := hT.1
          have hLqh := hLqh.push em21 rfl
          refine h_dup C dX9_gotHello_339 rfl ?_
          refine h_iconst (v := 2) C dX9_gotHello_340 (by decide) ?_
          refine h_iload_w C dX9_gotHello_341 rfl ?_
          refine h_iload_w C dX9_gotHello_343 rfl ?_
          refine h_callS2 C (k_X9_both Z.l Z.G _ _ (HSEC S) (cl (g 4)) rfl hkx hX (cl_lt _) _) cw_X9_135 st_X9_both dX9_gotHello_345 (by first | decide | exact Nat.le_of_ble_eq_true rfl) (by decide) (by decide) (by decide) (by decide) (kI fun r11 μ11 hp11 => ?_) kN
          obtain ⟨rfl, rfl⟩ := hp11
          refine h_iast C dX9_gotHello_348 hLqh.k (inb hLqh.2.1 (vp_in_nI (n := 2) (by decide) (by decide))) ?_
          refine h_abs (fun m22 em22 => ?_)
          rw [show Int32.toNatClampNeg 2 = 2 from rfl] at em22
          have hR_z := hR_z.tmp hLqh (by first | decide | (unfold KSE; omega) | (unfold KSE KTMP; omega)) em22
          have hT := hT.tmp hLqh hwqh em22
          have hM := hT.1
          have hLqh := hLqh.push em22 rfl
          refine h_dup C dX9_gotHello_349 rfl ?_
          refine h_iconst (v := 3) C dX9_gotHello_350 (by decide) ?_
          refine h_iload_w C dX9_gotHello_351 rfl ?_
          refine h_iload_w C dX9_gotHello_353 rfl ?_
          refine h_callS1 C (k_X9_nameOf Z.l Z.G _ a rfl (by omega) _) cw_X9_132 st_X9_nameOf dX9_gotHello_355 (by first | decide | exact Nat.le_of_ble_eq_true rfl) (by decide) (by decide) (by decide) (by decide) (kI fun r12 μ12 hp12 => ?_) kN
          obtain ⟨rfl, rfl⟩ := hp12
          refine h_callS2 C (k_X9_both Z.l Z.G _ _ (HSEC S) (NAME a) rfl hkx rfl (hnm a) _) cw_X9_135 st_X9_both dX9_gotHello_358 (by first | decide | exact Nat.le_of_ble_eq_true rfl) (by decide) (by decide) (by decide) (by decide) (kI fun r13 μ13 hp13 => ?_) kN
          obtain ⟨rfl, rfl⟩ := hp13
          refine h_iast C dX9_gotHello_361 hLqh.k (inb hLqh.2.1 (vp_in_nI (n := 3) (by decide) (by decide))) ?_
          refine h_abs (fun m23 em23 => ?_)
          rw [show Int32.toNatClampNeg 3 = 3 from rfl] at em23
          have hR_z := hR_z.tmp hLqh (by first | decide | (unfold KSE; omega) | (unfold KSE KTMP; omega)) em23
          have hT := hT.tmp hLqh hwqh em23
          have hM := hT.1
          have hLqh := hLqh.push em23 rfl
          refine h_callS1 C (k_X9_mix Z.l Z.G qh [4, nI (HKT e a g), nI (PW (cl (g 4)) (HSEC S)), nI (PW (NAME a) (HSEC S))] _ hLqh.k hLqh.2.1 hLqh.2.2 (Nat.le_of_ble_eq_true rfl)) cw_X9_138 st_X9_mix dX9_gotHello_362 (by first | decide | exact Nat.le_of_ble_eq_true rfl) (by decide) (by decide) (by decide) (by decide) (kI fun r14 μ14 hp14 => ?_) kN
          obtain ⟨rfl, rfl⟩ := hp14
          rw [show nI (MIX ([4, nI (HKT e a g), nI (PW (cl (g 4)) (HSEC S)), nI (PW (NAME a) (HSEC S))].map Int32.toInt)) = nI (RKY ((S.sLf 1 e a (g 6)).sLf 0 e a (g 0)) a (HKT e a g) g) from mix4 (lt31 (MIX_lt _) (by decide)) (lt31 (PW_lt _ _) (by decide)) (lt31 (PW_lt _ _) (by decide))]
          refine h_ist_13 C dX9_gotHello_365 ct_i ?_
          refine h_al_g C dX9_gotHello_367 rfl rfl rfv_r ?_
          refine h_al_g C dX9_gotHello_368 rfl rfl rfv_r ?_
          refine gs_X9_13 C dX9_gotHello_369 hM.kX (hM.fA (i := 1) (by decide)) ?_
          refine h_iload_g C dX9_gotHello_372 rfl rfl ?_
          refine h_iald C dX9_gotHello_373 (hM.k11 (by decide)) (inb (hM.ln3 (by decide)) (vp_in_nI he (by decide))) (atI (cl_of (n := e) (by have h9 := he; omega)) (hM.a1 he)) ?_
          refine h_al_g C dX9_gotHello_374 rfl rfl rfv_r ?_
          refine h_iconst (v := 0) C dX9_gotHello_375 (by decide) ?_
          refine h_iald C dX9_gotHello_376 (by rw [hR_z.1]; first | decide | exact KSE_m _ _ _) (inb hR_z.2.1 (vp_in_nI (n := 0) (by decide) (by decide))) (hR_z.2.2 0 (by decide)) ?_
          refine h_iconst (v := 2) C dX9_gotHello_377 (by decide) ?_
          refine h_iconst (v := 4) C dX9_gotHello_378 (by decide) ?_
          refine h_newarr (atype := .int) (N := 4) (11 + 32 * 100) C ac_11 (by decide) (Or.inl (by decide)) dX9_gotHello_379 (by decide) (by decide) (by decide) (by first | decide | omega) (by first | decide | omega) (fun qi hqi => ?_)
          refine h_abs (fun m24 em24 => ?_)
          have hLqi := NL.new em24
          have hR_z := hR_z.newA (by first | decide | (unfold KSE; omega) | (unfold KSE KTMP; omega)) hqi em24
          have hwqi := hT.fresh hqi
          have hT := hT.newT hqi em24
          have hM := hT.1
          refine h_dup C dX9_gotHello_381 rfl ?_
          refine h_iconst (v := 0) C dX9_gotHello_382 (by decide) ?_
          refine h_iload_w C dX9_gotHello_383 rfl ?_
          refine h_iast C dX9_gotHello_385 hLqi.k (inb hLqi.2.1 (vp_in_nI (n := 0) (by decide) (by decide))) ?_
          refine h_abs (fun m25 em25 => ?_)
          rw [show Int32.toNatClampNeg 0 = 0 from rfl] at em25
          have hR_z := hR_z.tmp hLqi (by first | decide | (unfold KSE; omega) | (unfold KSE KTMP; omega)) em25
          have hT := hT.tmp hLqi hwqi em25
          have hM := hT.1
          have hLqi := hLqi.push em25 rfl
          refine h_dup C dX9_gotHello_386 rfl ?_
          refine h_iconst (v := 1) C dX9_gotHello_387 (by decide) ?_
          refine h_iload_g C dX9_gotHello_388 rfl rfl ?_
          refine h_iast C dX9_gotHello_389 hLqi.k (inb hLqi.2.1 (vp_in_nI (n := 1) (by decide) (by decide))) ?_
          refine h_abs (fun m26 em26 => ?_)
          rw [show Int32.toNatClampNeg 1 = 1 from rfl] at em26
          have hR_z := hR_z.tmp hLqi (by first | decide | (unfold KSE; omega) | (unfold KSE KTMP; omega)) em26
          have hT := hT.tmp hLqi hwqi em26
          have hM := hT.1
          have hLqi := hLqi.push em26 rfl
          refine h_dup C dX9_gotHello_390 rfl ?_
          refine h_iconst (v := 2) C dX9_gotHello_391 (by decide) ?_
          refine h_iload_w C dX9_gotHello_392 rfl ?_
          refine h_callS1 C (k_X9_open Z.l Z.G _ (HSEC S) rfl hkx _) cw_X9_122 st_X9_open dX9_gotHello_394 (by first | decide | exact Nat.le_of_ble_eq_true rfl) (by decide) (by decide) (by decide) (by decide) (kI fun r15 μ15 hp15 => ?_) kN
          obtain ⟨rfl, rfl⟩ := hp15
          refine h_iast C dX9_gotHello_397 hLqi.k (inb hLqi.2.1 (vp_in_nI (n := 2) (by decide) (by decide))) ?_
          refine h_abs (fun m27 em27 => ?_)
          rw [show Int32.toNatClampNeg 2 = 2 from rfl] at em27
          have hR_z := hR_z.tmp hLqi (by first | decide | (unfold KSE; omega) | (unfold KSE KTMP; omega)) em27
          have hT := hT.tmp hLqi hwqi em27
          have hM := hT.1
          have hLqi := hLqi.push em27 rfl
          refine h_dup C dX9_gotHello_398 rfl ?_
          refine h_iconst (v := 3) C dX9_gotHello_399 (by decide) ?_
          refine h_iload_w C dX9_gotHello_400 rfl ?_
          refine h_iconst (v := 4) C dX9_gotHello_402 (by decide) ?_
          refine h_newarr (atype := .int) (N := 4) (11 + 32 * 100) C ac_11 (by decide) (Or.inl (by decide)) dX9_gotHello_403 (by decide) (by decide) (by decide) (by first | decide | omega) (by first | decide | omega) (fun qj hqj => ?_)
          refine h_abs (fun m28 em28 => ?_)
          have hne_qi_qj := hLqi.ne hqj
          have hLqi := hLqi.newA hqj em28
          have hLqj := NL.new em28
          have hR_z := hR_z.newA (by first | decide | (unfold KSE; omega) | (unfold KSE KTMP; omega)) hqj em28
          have hwqj := hT.fresh hqj
          have hT := hT.newT hqj em28
          have hM := hT.1
          refine h_dup C dX9_gotHello_405 rfl ?_
          refine h_iconst (v := 0) C dX9_gotHello_406 (by decide) ?_
          refine h_iconst (v := 2) C dX9_gotHello_407 (by decide) ?_
          refine h_iast C dX9_gotHello_408 hLqj.k (inb hLqj.2.1 (vp_in_nI (n := 0) (by decide) (by decide))) ?_
          refine h_abs (fun m29 em29 => ?_)
          rw [show Int32.toNatClampNeg 0 = 0 from rfl] at em29
          have hR_z := hR_z.tmp hLqj (by first | decide | (unfold KSE; omega) | (unfold KSE KTMP; omega)) em29
          have hT := hT.tmp hLqj hwqj em29
          have hM := hT.1
          have hLqi := hLqi.sei hne_qi_qj em29
          have hLqj := hLqj.push em29 rfl
          refine h_dup C dX9_gotHello_409 rfl ?_
          refine h_iconst (v := 1) C dX9_gotHello_410 (by decide) ?_
          refine h_iload_w C dX9_gotHello_411 rfl ?_
          refine h_iast C dX9_gotHello_413 hLqj.k (inb hLqj.2.1 (vp_in_nI (n := 1) (by decide) (by decide))) ?_
          refine h_abs (fun m30 em30 => ?_)
          rw [show Int32.toNatClampNeg 1 = 1 from rfl] at em30
          have hR_z := hR_z.tmp hLqj (by first | decide | (unfold KSE; omega) | (unfold KSE KTMP; omega)) em30
          have hT := hT.tmp hLqj hwqj em30
          have hM := hT.1
          have hLqi := hLqi.sei hne_qi_qj em30
          have hLqj := hLqj.push em30 rfl
          refine h_dup C dX9_gotHello_414 rfl ?_
          refine h_iconst (v := 2) C dX9_gotHello_415 (by decide) ?_
          refine h_iload_g C dX9_gotHello_416 rfl rfl ?_
          refine h_iast C dX9_gotHello_417 hLqj.k (inb hLqj.2.1 (vp_in_nI (n := 2) (by decide) (by decide))) ?_
          refine h_abs (fun m31 em31 => ?_)
          rw [show Int32.toNatClampNeg 2 = 2 from rfl] at em31
          have hR_z := hR_z.tmp hLqj (by first | decide | (unfold KSE; omega) | (unfold KSE KTMP; omega)) em31
          have hT := hT.tmp hLqj hwqj em31
          have hM := hT.1
          have hLqi := hLqi.sei hne_qi_qj em31
          have hLqj := hLqj.push em31 rfl
          refine h_dup C dX9_gotHello_418 rfl ?_
          refine h_iconst (v := 3) C dX9_gotHello_419 (by decide) ?_
          refine h_iload_w C dX9_gotHello_420 rfl ?_
          refine h_callS1w C (k_X9_open Z.l Z.G _ (HSEC S) rfl hkx _) cw_X9_122 st_X9_open dX9_gotHello_422 (by first | decide | exact Nat.le_of_ble_eq_true rfl) (by decide) (by decide) (by decide) (by decide) (kI fun r16 μ16 hp16 => ?_) kN
          obtain ⟨rfl, rfl⟩ := hp16
          refine h_iast C dX9_gotHello_425 hLqj.k (inb hLqj.2.1 (vp_in_nI (n := 3) (by decide) (by decide))) ?_
          refine h_abs (fun m32 em32 => ?_)
          rw [show Int32.toNatClampNeg 3 = 3 from rfl] at em32
          have hR_z := hR_z.tmp hLqj (by first | decide | (unfold KSE; omega) | (unfold KSE KTMP; omega)) em32
          have hT := hT.tmp hLqj hwqj em32
          have hM := hT.1
          have hLqi := hLqi.sei hne_qi_qj em32
          have hLqj := hLqj.push em32 rfl
          refine h_callS2 C (k_X9_sealOf Z.l Z.G _ (RKY ((S.sLf 1 e a (g 6)).sLf 0 e a (g 0)) a (HKT e a g) g) qj [2, HNUM S, g 3, nI (PW 7 (HSEC S))] _ rfl (MIX_lt _) hLqj.k hLqj.2.1 hLqj.2.2 (Nat.le_of_ble_eq_true rfl)) cw_X9_154 st_X9_sealOf dX9_gotHello_426 (by first | decide | exact Nat.le_of_ble_eq_true rfl) (by decide) (by decide) (by decide) (by decide) (kI fun r17 μ17 hp17 => ?_) kN
          obtain ⟨rfl, rfl⟩ := hp17
          rw [sgS_N]
          refine h_iast C dX9_gotHello_429 hLqi.k (inb hLqi.2.1 (vp_in_nI (n := 3) (by decide) (by decide))) ?_
          refine h_abs (fun m33 em33 => ?_)
          rw [show Int32.toNatClampNeg 3 = 3 from rfl] at em33
          have hR_z := hR_z.tmp hLqi (by first | decide | (unfold KSE; omega) | (unfold KSE KTMP; omega)) em33
          have hT := hT.tmp hLqi hwqi em33
          have hM := hT.1
          have hLqi := hLqi.push em33 rfl
          refine h_callV4 (ci := 9) C (k_X9_put Z.l Z.G Q _ t _ hM (S.ef 0 e) (g 0) 2 qi [HNUM S, g 3, nI (PW 7 (HSEC S)), SEALN (RKY ((S.sLf 1 e a (g 6)).sLf 0 e a (g 0)) a (HKT e a g) g) 2 [HNUM S, g 3, nI (PW 7 (HSEC S))]] hLqi (Nat.le_of_ble_eq_true rfl) (nI (RKY ((S.sLf 1 e a (g 6)).sLf 0 e a (g 0)) a (HKT e a g) g))) cw_X9_162 im_X9_put sl_X9_put rfl (by decide) hM.kX dX9_gotHello_430 (by first | decide | exact Nat.le_of_ble_eq_true rfl) (by decide) (by decide) (by decide) (by decide) (kV fun μ18 hp18 => ?_) kN
          have hPu := hp18
          have hT := hT.tr hPu (fun _ _ => trivial)
          have hM := hT.1
          refine h_al_g C dX9_gotHello_433 rfl rfl rfv_r ?_
          refine h_iload_g C dX9_gotHello_434 rfl rfl ?_
          refine h_iload_w C dX9_gotHello_435 rfl ?_
          refine h_iconst (v := 2) C dX9_gotHello_437 (by decide) ?_
          refine h_iload_w C dX9_gotHello_438 rfl ?_
          refine h_iload_g C dX9_gotHello_440 rfl rfl ?_
          refine h_iconst (v := 3) C dX9_gotHello_441 (by decide) ?_
          refine h_newarr (atype := .int) (N := 3) (11 + 32 * 100) C ac_11 (by decide) (Or.inl (by decide)) dX9_gotHello_442 (by decide) (by decide) (by decide) (by first | decide | omega) (by first | decide | omega) (fun qk hqk => ?_)
          refine h_abs (fun m34 em34 => ?_)
          have hLqk := NL.new em34
          have hwqk := hT.fresh hqk
          have hT := hT.newT hqk em34
          have hM := hT.1
          refine h_dup C dX9_gotHello_444 rfl ?_
          refine h_iconst (v := 0) C dX9_gotHello_445 (by decide) ?_
          refine h_iconst (v := 5) C dX9_gotHello_446 (by decide) ?_
          refine h_iast C dX9_gotHello_447 hLqk.k (inb hLqk.2.1 (vp_in_nI (n := 0) (by decide) (by decide))) ?_
          refine h_abs (fun m35 em35 => ?_)
          rw [show Int32.toNatClampNeg 0 = 0 from rfl] at em35
          have hT := hT.tmp hLqk hwqk em35
          have hM := hT.1
          have hLqk := hLqk.push em35 rfl
          refine h_dup C dX9_gotHello_448 rfl ?_
          refine h_iconst (v := 1) C dX9_gotHello_449 (by decide) ?_
          refine h_iload_w C dX9_gotHello_450 rfl ?_
          refine h_iast C dX9_gotHello_452 hLqk.k (inb hLqk.2.1 (vp_in_nI (n := 1) (by decide) (by decide))) ?_
          refine h_abs (fun m36 em36 => ?_)
          rw [show Int32.toNatClampNeg 1 = 1 from rfl] at em36
          have hT := hT.tmp hLqk hwqk em36
          have hM := hT.1
          have hLqk := hLqk.push em36 rfl
          refine h_dup C dX9_gotHello_453 rfl ?_
          refine h_iconst (v := 2) C dX9_gotHello_454 (by decide) ?_
          refine h_iconst (v := 1) C dX9_gotHello_455 (by decide) ?_
          refine h_iast C dX9_gotHello_456 hLqk.k (inb hLqk.2.1 (vp_in_nI (n := 2) (by decide) (by decide))) ?_
          refine h_abs (fun m37 em37 => ?_)
          rw [show Int32.toNatClampNeg 2 = 2 from rfl] at em37
          have hT := hT.tmp hLqk hwqk em37
          have hM := hT.1
          have hLqk := hLqk.push em37 rfl
          refine h_callS1 C (k_X9_mix Z.l Z.G qk [5, nI (RKY ((S.sLf 1 e a (g 6)).sLf 0 e a (g 0)) a (HKT e a g) g), 1] _ hLqk.k hLqk.2.1 hLqk.2.2 (Nat.le_of_ble_eq_true rfl)) cw_X9_138 st_X9_mix dX9_gotHello_457 (by first | decide | exact Nat.le_of_ble_eq_true rfl) (by decide) (by decide) (by decide) (by decide) (kI fun r19 μ19 hp19 => ?_) kN
          obtain ⟨rfl, rfl⟩ := hp19
          rw [show nI (MIX ([5, nI (RKY ((S.sLf 1 e a (g 6)).sLf 0 e a (g 0)) a (HKT e a g) g), 1].map Int32.toInt)) = nI (MIX [5, ((RKY ((S.sLf 1 e a (g 6)).sLf 0 e a (g 0)) a (HKT e a g) g) : Int), 1]) from mix3k (lt31 (MIX_lt _) (by decide))]
          refine h_iconst (v := 3) C dX9_gotHello_460 (by decide) ?_
          refine h_newarr (atype := .int) (N := 3) (11 + 32 * 100) C ac_11 (by decide) (Or.inl (by decide)) dX9_gotHello_461 (by decide) (by decide) (by decide) (by first | decide | omega) (by first | decide | omega) (fun ql hql => ?_)
          refine h_abs (fun m38 em38 => ?_)
          have hLql := NL.new em38
          have hwql := hT.fresh hql
          have hT := hT.newT hql em38
          have hM := hT.1
          refine h_dup C dX9_gotHello_463 rfl ?_
          refine h_iconst (v := 0) C dX9_gotHello_464 (by decide) ?_
          refine h_iconst (v := 5) C dX9_gotHello_465 (by decide) ?_
          refine h_iast C dX9_gotHello_466 hLql.k (inb hLql.2.1 (vp_in_nI (n := 0) (by decide) (by decide))) ?_
          refine h_abs (fun m39 em39 => ?_)
          rw [show Int32.toNatClampNeg 0 = 0 from rfl] at em39
          have hT := hT.tmp hLql hwql em39
          have hM := hT.1
          have hLql := hLql.push em39 rfl
          refine h_dup C dX9_gotHello_467 rfl ?_
          refine h_iconst (v := 1) C dX9_gotHello_468 (by decide) ?_
          refine h_iload_w C dX9_gotHello_469 rfl ?_
          refine h_iast C dX9_gotHello_471 hLql.k (inb hLql.2.1 (vp_in_nI (n := 1) (by decide) (by decide))) ?_
          refine h_abs (fun m40 em40 => ?_)
          rw [show Int32.toNatClampNeg 1 = 1 from rfl] at em40
          have hT := hT.tmp hLql hwql em40
          have hM := hT.1
          have hLql := hLql.push em40 rfl
          refine h_dup C dX9_gotHello_472 rfl ?_
          refine h_iconst (v := 2) C dX9_gotHello_473 (by decide) ?_
          refine h_iconst (v := 0) C dX9_gotHello_474 (by decide) ?_
          refine h_iast C dX9_gotHello_475 hLql.k (inb hLql.2.1 (vp_in_nI (n := 2) (by decide) (by decide))) ?_
          refine h_abs (fun m41 em41 => ?_)
          rw [show Int32.toNatClampNeg 2 = 2 from rfl] at em41
          have hT := hT.tmp hLql hwql em41
          have hM := hT.1
          have hLql := hLql.push em41 rfl
          refine h_callS1 C (k_X9_mix Z.l Z.G ql [5, nI (RKY ((S.sLf 1 e a (g 6)).sLf 0 e a (g 0)) a (HKT e a g) g), 0] _ hLql.k hLql.2.1 hLql.2.2 (Nat.le_of_ble_eq_true rfl)) cw_X9_138 st_X9_mix dX9_gotHello_476 (by first | decide | exact Nat.le_of_ble_eq_true rfl) (by decide) (by decide) (by decide) (by decide) (kI fun r20 μ20 hp20 => ?_) kN
          obtain ⟨rfl, rfl⟩ := hp20
          rw [show nI (MIX ([5, nI (RKY ((S.sLf 1 e a (g 6)).sLf 0 e a (g 0)) a (HKT e a g) g), 0].map Int32.toInt)) = nI (MIX [5, ((RKY ((S.sLf 1 e a (g 6)).sLf 0 e a (g 0)) a (HKT e a g) g) : Int), 0]) from mix3k (lt31 (MIX_lt _) (by decide))]
          refine h_iconst (v := 0) C dX9_gotHello_479 (by decide) ?_
          refine h_callV8 (ci := 9) C (k_X9_make Z.l Z.G Q _ _ _ hM e he _ rfl a ha _ rfl 2 (by decide) 2 rfl (HNUM S) (g 3) _ _ 0 hN.1) cw_X9_180 im_X9_make sl_X9_make rfl (by decide) hM.kX dX9_gotHello_480 (by first | decide | exact Nat.le_of_ble_eq_true rfl) (by decide) (by decide) (by decide) (by decide) (kV fun μ21 hp21 => ?_) kN
          have hMk := hp21
          have hT := (hT.tr hMk (fun _ _ => trivial)).lxMk
          have hM := hT.1
          refine h_iconst (v := 3) C dX9_gotHello_483 (by decide) ?_
          refine h_iret C E dX9_gotHello_484 (by decide) (by decide) ?_
          refine ⟨_, rfl, ((if_neg hbe).trans ((if_neg hC).trans ((if_neg hB).trans (if_neg hO)))).symm, ?_⟩
          rw [show THs S e a b g = REPS ((S.sLf 1 e a (g 6)).sLf 0 e a (g 0)) e a (HKT e a g) g from (if_neg hbe).trans ((if_neg hC).trans ((if_neg hB).trans (if_neg hO)))]
          have eR : REPR ((S.sLf 1 e a (g 6)).sLf 0 e a (g 0)) e a (HKT e a g) g = mkL (S.ef 0 e) (g 0) 2 [HNUM S, g 3, nI (PW 7 (HSEC S)), SEALN (RKY ((S.sLf 1 e a (g 6)).sLf 0 e a (g 0)) a (HKT e a g) g) 2 [HNUM S, g 3, nI (PW 7 (HSEC S))]] (nI (RKY ((S.sLf 1 e a (g 6)).sLf 0 e a (g 0)) a (HKT e a g) g)) := by
            unfold REPR
            rw [show ((S.sLf 1 e a (g 6)).sLf 0 e a (g 0)).lf 0 e a = g 0 from lf_at]
            rfl
          unfold REPS
          rw [eR]
          exact hT
        · have hO : g 6 ≤ S.lf 1 e a := Int32.not_lt.mp cO
          refine h_bipush (v := (-6)) C dX9_gotHello_281 (by decide) ?_
          refine h_iret C E dX9_gotHello_283 (by decide) (by decide) ?_
          exact ⟨_, rfl, ((if_neg hbe).trans ((if_neg hC).trans ((if_neg hB).trans (if_pos hO)))).symm, by rw [show THs S e a b g = S from (if_neg hbe).trans ((if_neg hC).trans ((if_neg hB).trans (if_pos hO)))]; exact hT⟩
      · have hB : ¬ TAGR g = SEALR (HKT e a g) g := fun z => cB (by rw [hTG, hSR] at z; exact z)
        refine h_bipush (v := (-2)) C dX9_gotHello_264 (by decide) ?_
        refine h_iret C E dX9_gotHello_266 (by decide) (by decide) ?_
        exact ⟨_, rfl, ((if_neg hbe).trans ((if_neg hC).trans (if_pos hB))).symm, by rw [show THs S e a b g = S from (if_neg hbe).trans ((if_neg hC).trans (if_pos hB))]; exact hT⟩
    · refine h_al_g C dX9_gotHello_89 rfl rfl rfv_r ?_
      refine h_bipush (v := 8) C dX9_gotHello_90 (by decide) ?_
      refine h_iald C dX9_gotHello_92 (by rw [hR_z.1]; first | decide | exact KSE_m _ _ _) (inb hR_z.2.1 (vp_in_nI (n := 8) (by decide) (by decide))) (hR_z.2.2 8 (by decide)) ?_
      refine h_iconst (v := 3) C dX9_gotHello_93 (by decide) ?_
      refine h_newarr (atype := .int) (N := 3) (11 + 32 * 100) C ac_11 (by decide) (Or.inl (by decide)) dX9_gotHello_94 (by decide) (by decide) (by decide) (by first | decide | omega) (by first | decide | omega) (fun qb hqb => ?_)
      refine h_abs (fun m42 em42 => ?_)
      have hLqb := NL.new em42
      have hR_z := hR_z.newA (by first | decide | (unfold KSE; omega) | (unfold KSE KTMP; omega)) hqb em42
      have hwqb := hT.fresh hqb
      have hT := hT.newT hqb em42
      have hM := hT.1
      refine h_dup C dX9_gotHello_96 rfl ?_
      refine h_iconst (v := 0) C dX9_gotHello_97 (by decide) ?_
      refine h_iconst (v := 2) C dX9_gotHello_98 (by decide) ?_
      refine h_iast C dX9_gotHello_99 hLqb.k (inb hLqb.2.1 (vp_in_nI (n := 0) (by decide) (by decide))) ?_
      refine h_abs (fun m43 em43 => ?_)
      rw [show Int32.toNatClampNeg 0 = 0 from rfl] at em43
      have hR_z := hR_z.tmp hLqb (by first | decide | (unfold KSE; omega) | (unfold KSE KTMP; omega)) em43
      have hT := hT.tmp hLqb hwqb em43
      have hM := hT.1
      have hLqb := hLqb.push em43 rfl
      refine h_dup C dX9_gotHello_100 rfl ?_
      refine h_iconst (v := 1) C dX9_gotHello_101 (by decide) ?_
      refine h_iload_w C dX9_gotHello_102 rfl ?_
      refine h_iast C dX9_gotHello_104 hLqb.k (inb hLqb.2.1 (vp_in_nI (n := 1) (by decide) (by decide))) ?_
      refine h_abs (fun m44 em44 => ?_)
      rw [show Int32.toNatClampNeg 1 = 1 from rfl] at em44
      have hR_z := hR_z.tmp hLqb (by first | decide | (unfold KSE; omega) | (unfold KSE KTMP; omega)) em44
      have hT := hT.tmp hLqb hwqb em44
      have hM := hT.1
      have hLqb := hLqb.push em44 rfl
      refine h_dup C dX9_gotHello_105 rfl ?_
      refine h_iconst (v := 2) C dX9_gotHello_106 (by decide) ?_
      refine h_iload_w C dX9_gotHello_107 rfl ?_
      refine h_iast C dX9_gotHello_109 hLqb.k (inb hLqb.2.1 (vp_in_nI (n := 2) (by decide) (by decide))) ?_
      refine h_abs (fun m45 em45 => ?_)
      rw [show Int32.toNatClampNeg 2 = 2 from rfl] at em45
      have hR_z := hR_z.tmp hLqb (by first | decide | (unfold KSE; omega) | (unfold KSE KTMP; omega)) em45
      have hT := hT.tmp hLqb hwqb em45
      have hM := hT.1
      have hLqb := hLqb.push em45 rfl
      refine h_callS1 C (k_X9_mix Z.l Z.G qb [2, nI (CKE S e g), g 7] _ hLqb.k hLqb.2.1 hLqb.2.2 (Nat.le_of_ble_eq_true rfl)) cw_X9_138 st_X9_mix dX9_gotHello_110 (by first | decide | exact Nat.le_of_ble_eq_true rfl) (by decide) (by decide) (by decide) (by decide) (kI fun r22 μ22 hp22 => ?_) kN
      obtain ⟨rfl, rfl⟩ := hp22
      rw [show nI (MIX ([2, nI (CKE S e g), g 7].map Int32.toInt)) = nI (MIX [2, (CKE S e g : Int), (TAGR g).toInt]) from by
        rw [hTG]
        exact mix3k (lt31 (MIX_lt _) (by decide))]
      refine h_icmp_eq (tgt := 189) C dX9_gotHello_113 (by decide) (fun cP => ?_) (fun cP => ?_)
      · have hC : ¬ (¬ S.ef 1 e = 0 ∧ ¬ g 8 = nI (MIX [2, (CKE S e g : Int), (TAGR g).toInt])) := fun z => z.2 cP
        refine h_iconst (v := 3) C dX9_gotHello_189 (by decide) ?_
        refine h_newarr (atype := .int) (N := 3) (11 + 32 * 100) C ac_11 (by decide) (Or.inl (by decide)) dX9_gotHello_190 (by decide) (by decide) (by decide) (by first | decide | omega) (by first | decide | omega) (fun qf hqf => ?_)
        refine h_abs (fun m46 em46 => ?_)
        have hLqf := NL.new em46
        have hR_z := hR_z.newA (by first | decide | (unfold KSE; omega) | (unfold KSE KTMP; omega)) hqf em46
        have hwqf := hT.fresh hqf
        have hT := hT.newT hqf em46
        have hM := hT.1
        refine h_dup C dX9_gotHello_192 rfl ?_
        refine h_iconst (v := 0) C dX9_gotHello_193 (by decide) ?_
        refine h_iconst (v := 1) C dX9_gotHello_194 (by decide) ?_
        refine h_iast C dX9_gotHello_195 hLqf.k (inb hLqf.2.1 (vp_in_nI (n := 0) (by decide) (by decide))) ?_
        refine h_abs (fun m47 em47 => ?_)
        rw [show Int32.toNatClampNeg 0 = 0 from rfl] at em47
        have hR_z := hR_z.tmp hLqf (by first | decide | (unfold KSE; omega) | (unfold KSE KTMP; omega)) em47
        have hT := hT.tmp hLqf hwqf em47
        have hM := hT.1
        have hLqf := hLqf.push em47 rfl
        refine h_dup C dX9_gotHello_196 rfl ?_
        refine h_iconst (v := 1) C dX9_gotHello_197 (by decide) ?_
        refine h_iload_g C dX9_gotHello_198 rfl rfl ?_
        refine h_callS1 C (k_X9_secretOf Z.l Z.G _ _) cw_X9_118 st_X9_secretOf dX9_gotHello_199 (by first | decide | exact Nat.le_of_ble_eq_true rfl) (by decide) (by decide) (by decide) (by decide) (kI fun r23 μ23 hp23 => ?_) kN
        obtain ⟨rfl, rfl⟩ := hp23
        rw [show (211 + 307 * nI e : Int32) = nI (211 + 307 * e) from by rw [show (307 : Int32) = nI 307 from rfl, pk_mul, show (211 : Int32) = nI 211 from rfl, nI_add]]
        refine h_iload_w C dX9_gotHello_202 rfl ?_
        refine h_callS2 C (k_X9_both Z.l Z.G _ _ (211 + 307 * e) (cl (g 4)) rfl h211 hX (cl_lt _) _) cw_X9_135 st_X9_both dX9_gotHello_204 (by first | decide | exact Nat.le_of_ble_eq_true rfl) (by decide) (by decide) (by decide) (by decide) (kI fun r24 μ24 hp24 => ?_) kN
        obtain ⟨rfl, rfl⟩ := hp24
        refine h_iast C dX9_gotHello_207 hLqf.k (inb hLqf.2.1 (vp_in_nI (n := 1) (by decide) (by decide))) ?_
        refine h_abs (fun m48 em48 => ?_)
        rw [show Int32.toNatClampNeg 1 = 1 from rfl] at em48
        have hR_z := hR_z.tmp hLqf (by first | decide | (unfold KSE; omega) | (unfold KSE KTMP; omega)) em48
        have hT := hT.tmp hLqf hwqf em48
        have hM := hT.1
        have hLqf := hLqf.push em48 rfl
        refine h_dup C dX9_gotHello_208 rfl ?_
        refine h_iconst (v := 2) C dX9_gotHello_209 (by decide) ?_
        refine h_iload_g C dX9_gotHello_210 rfl rfl ?_
        refine h_callS1 C (k_X9_secretOf Z.l Z.G _ _) cw_X9_118 st_X9_secretOf dX9_gotHello_211 (by first | decide | exact Nat.le_of_ble_eq_true rfl) (by decide) (by decide) (by decide) (by decide) (kI fun r25 μ25 hp25 => ?_) kN
        obtain ⟨rfl, rfl⟩ := hp25
        rw [show (211 + 307 * nI e : Int32) = nI (211 + 307 * e) from by rw [show (307 : Int32) = nI 307 from rfl, pk_mul, show (211 : Int32) = nI 211 from rfl, nI_add]]
        refine h_iload_w C dX9_gotHello_214 rfl ?_
        refine h_callS1 C (k_X9_nameOf Z.l Z.G _ a rfl (by omega) _) cw_X9_132 st_X9_nameOf dX9_gotHello_216 (by first | decide | exact Nat.le_of_ble_eq_true rfl) (by decide) (by decide) (by decide) (by decide) (kI fun r26 μ26 hp26 => ?_) kN
        obtain ⟨rfl, rfl⟩ := hp26
        refine h_callS2 C (k_X9_both Z.l Z.G _ _ (211 + 307 * e) (NAME a) rfl h211 rfl (hnm a) _) cw_X9_135 st_X9_both dX9_gotHello_219 (by first | decide | exact Nat.le_of_ble_eq_true rfl) (by decide) (by decide) (by decide) (by decide) (kI fun r27 μ27 hp27 => ?_) kN
        obtain ⟨rfl, rfl⟩ := hp27
        refine h_iast C dX9_gotHello_222 hLqf.k (inb hLqf.2.1 (vp_in_nI (n := 2) (by decide) (by decide))) ?_
        refine h_abs (fun m49 em49 => ?_)
        rw [show Int32.toNatClampNeg 2 = 2 from rfl] at em49
        have hR_z := hR_z.tmp hLqf (by first | decide | (unfold KSE; omega) | (unfold KSE KTMP; omega)) em49
        have hT := hT.tmp hLqf hwqf em49
        have hM := hT.1
        have hLqf := hLqf.push em49 rfl
        refine h_callS1 C (k_X9_mix Z.l Z.G qf [1, nI (PW (cl (g 4)) (211 + 307 * e)), nI (PW (NAME a) (211 + 307 * e))] _ hLqf.k hLqf.2.1 hLqf.2.2 (Nat.le_of_ble_eq_true rfl)) cw_X9_138 st_X9_mix dX9_gotHello_223 (by first | decide | exact Nat.le_of_ble_eq_true rfl) (by decide) (by decide) (by decide) (by decide) (kI fun r28 μ28 hp28 => ?_) kN
        obtain ⟨rfl, rfl⟩ := hp28
        rw [show nI (MIX ([1, nI (PW (cl (g 4)) (211 + 307 * e)), nI (PW (NAME a) (211 + 307 * e))].map Int32.toInt)) = nI (HKT e a g) from mix3 (lt31 (PW_lt _ _) (by decide)) (lt31 (PW_lt _ _) (by decide))]
        refine h_ist_10 C dX9_gotHello_226 ct_i ?_
        refine h_iload_w C dX9_gotHello_228 rfl ?_
        refine h_iload_w C dX9_gotHello_230 rfl ?_
        refine h_iconst (v := 5) C dX9_gotHello_232 (by decide) ?_
        refine h_newarr (atype := .int) (N := 5) (11 + 32 * 100) C ac_11 (by decide) (Or.inl (by decide)) dX9_gotHello_233 (by decide) (by decide) (by decide) (by first | decide | omega) (by first | decide | omega) (fun qg hqg => ?_)
        refine h_abs (fun m50 em50 => ?_)
        have hLqg := NL.new em50
        have hR_z := hR_z.newA (by first | decide | (unfold KSE; omega) | (unfold KSE KTMP; omega)) hqg em50
        have hwqg := hT.fresh hqg
        have hT := hT.newT hqg em50
        have hM := hT.1
        refine h_dup C dX9_gotHello_235 rfl ?_
        refine h_iconst (v := 0) C dX9_gotHello_236 (by decide) ?_
        refine h_iconst (v := 1) C dX9_gotHello_237 (by decide) ?_
        refine h_iast C dX9_gotHello_238 hLqg.k (inb hLqg.2.1 (vp_in_nI (n := 0) (by decide) (by decide))) ?_
        refine h_abs (fun m51 em51 => ?_)
        rw [show Int32.toNatClampNeg 0 = 0 from rfl] at em51
        have hR_z := hR_z.tmp hLqg (by first | decide | (unfold KSE; omega) | (unfold KSE KTMP; omega)) em51
        have hT := hT.tmp hLqg hwqg em51
        have hM := hT.1
        have hLqg := hLqg.push em51 rfl
        refine h_dup C dX9_gotHello_239 rfl ?_
        refine h_iconst (v := 1) C dX9_gotHello_240 (by decide) ?_
        refine h_iload_g C dX9_gotHello_241 rfl rfl ?_
        refine h_iast C dX9_gotHello_242 hLqg.k (inb hLqg.2.1 (vp_in_nI (n := 1) (by decide) (by decide))) ?_
        refine h_abs (fun m52 em52 => ?_)
        rw [show Int32.toNatClampNeg 1 = 1 from rfl] at em52
        have hR_z := hR_z.tmp hLqg (by first | decide | (unfold KSE; omega) | (unfold KSE KTMP; omega)) em52
        have hT := hT.tmp hLqg hwqg em52
        have hM := hT.1
        have hLqg := hLqg.push em52 rfl
        refine h_dup C dX9_gotHello_243 rfl ?_
        refine h_iconst (v := 2) C dX9_gotHello_244 (by decide) ?_
        refine h_iload_w C dX9_gotHello_245 rfl ?_
        refine h_iast C dX9_gotHello_247 hLqg.k (inb hLqg.2.1 (vp_in_nI (n := 2) (by decide) (by decide))) ?_
        refine h_abs (fun m53 em53 => ?_)
        rw [show Int32.toNatClampNeg 2 = 2 from rfl] at em53
        have hR_z := hR_z.tmp hLqg (by first | decide | (unfold KSE; omega) | (unfold KSE KTMP; omega)) em53
        have hT := hT.tmp hLqg hwqg em53
        have hM := hT.1
        have hLqg := hLqg.push em53 rfl
        refine h_dup C dX9_gotHello_248 rfl ?_
        refine h_iconst (v := 3) C dX9_gotHello_249 (by decide) ?_
        refine h_iload_w C dX9_gotHello_250 rfl ?_
        refine h_iast C dX9_gotHello_252 hLqg.k (inb hLqg.2.1 (vp_in_nI (n := 3) (by decide) (by decide))) ?_
        refine h_abs (fun m54 em54 => ?_)
        rw [show Int32.toNatClampNeg 3 = 3 from rfl] at em54
        have hR_z := hR_z.tmp hLqg (by first | decide | (unfold KSE; omega) | (unfold KSE KTMP; omega)) em54
        have hT := hT.tmp hLqg hwqg em54
        have hM := hT.1
        have hLqg := hLqg.push em54 rfl
        refine h_dup C dX9_gotHello_253 rfl ?_
        refine h_iconst (v := 4) C dX9_gotHello_254 (by decide) ?_
        refine h_iload_w C dX9_gotHello_255 rfl ?_
        refine h_iast C dX9_gotHello_257 hLqg.k (inb hLqg.2.1 (vp_in_nI (n := 4) (by decide) (by decide))) ?_
        refine h_abs (fun m55 em55 => ?_)
        rw [show Int32.toNatClampNeg 4 = 4 from rfl] at em55
        have hR_z := hR_z.tmp hLqg (by first | decide | (unfold KSE; omega) | (unfold KSE KTMP; omega)) em55
        have hT := hT.tmp hLqg hwqg em55
        have hM := hT.1
        have hLqg := hLqg.push em55 rfl
        refine h_callS2 C (k_X9_sealOf Z.l Z.G _ (HKT e a g) qg [1, g 3, g 4, nI (10 * a + b), g 6] _ rfl (MIX_lt _) hLqg.k hLqg.2.1 hLqg.2.2 (Nat.le_of_ble_eq_true rfl)) cw_X9_154 st_X9_sealOf dX9_gotHello_258 (by first | decide | exact Nat.le_of_ble_eq_true rfl) (by decide) (by decide) (by decide) (by decide) (kI fun r29 μ29 hp29 => ?_) kN
        obtain ⟨rfl, rfl⟩ := hp29
        rw [sgS_N]
        refine h_icmp_eq (tgt := 267) C dX9_gotHello_261 (by decide) (fun cB => ?_) (fun cB => ?_)
        · have hB : ¬ ¬ TAGR g = SEALR (HKT e a g) g := fun z => z (by rw [hTG, hSR]; exact cB)
          refine h_iload_w C dX9_gotHello_267 rfl ?_
          refine h_al_g C dX9_gotHello_269 rfl rfl rfv_r ?_
          refine gs_X9_40 C dX9_gotHello_270 hM.kX (hM.fA (i := 8) (by decide)) ?_
          refine h_iload_g C dX9_gotHello_273 rfl rfl ?_
          refine h_aald (r := some _) C dX9_gotHello_274 (hM.kr (by decide)) (inb (hM.ln3 (by decide)) (vp_in_nI he (by decide))) (atI (cl_of (n := e) (by have h9 := he; omega)) (hM.tb (t := 1) (by decide) he)) ?_
          refine h_iload_w C dX9_gotHello_275 rfl ?_
          refine h_iald C dX9_gotHello_277 (hM.k11 (by have h0_ := he; omega)) (inb (hM.ln3 (by have h0_ := he; omega)) (vp_in_nI ha (by decide))) (atI (cl_of (n := a) (by have h9 := ha; omega)) (hM.t1 he ha)) ?_
          refine h_icmp_gt (tgt := 284) C dX9_gotHello_278 (by decide) (fun cO => ?_) (fun cO => ?_)
          · have hO : ¬ g 6 ≤ S.lf 1 e a := Int32.not_le.mpr cO
            refine h_al_g C dX9_gotHello_284 rfl rfl rfv_r ?_
            refine gs_X9_40 C dX9_gotHello_285 hM.kX (hM.fA (i := 8) (by decide)) ?_
            refine h_iload_g C dX9_gotHello_288 rfl rfl ?_
            refine h_aald (r := some _) C dX9_gotHello_289 (hM.kr (by decide)) (inb (hM.ln3 (by decide)) (vp_in_nI he (by decide))) (atI (cl_of (n := e) (by have h9 := he; omega)) (hM.tb (t := 1) (by decide) he)) ?_
            refine h_iload_w C dX9_gotHello_290 rfl ?_
            refine h_iload_w C dX9_gotHello_292 rfl ?_
            refine h_iast C dX9_gotHello_294 (hM.k11 (by have h0_ := he; omega)) (inb (hM.ln3 (by have h0_ := he; omega)) (vp_in_nI ha (by decide))) ?_
            refine h_abs (fun m56 em56 => ?_)
            rw [show (nI a).toNatClampNeg = a from (cl_of (n := a) (by have h9 := ha; omega))] at em56
            have hR_z := hR_z.wQ hM (by first | decide | (unfold KSE; omega) | (unfold KSE KTMP; omega)) (j := 21 + 3 * 1 + e) (by have h0_ := he; omega) em56
            have hT := hT.sei (j := 21 + 3 * 1 + e) (by have h0_ := he; omega) (Or.inr trivial) em56 (hT.1.wT1 he ha em56)
            have hM := hT.1
            refine h_al_g C dX9_gotHello_295 rfl rfl rfv_r ?_
            refine gs_X9_37 C dX9_gotHello_296 hM.kX (hM.fA (i := 7) (by decide)) ?_
            refine h_iload_g C dX9_gotHello_299 rfl rfl ?_
            refine h_aald (r := some _) C dX9_gotHello_300 (hM.kr (by decide)) (inb (hM.ln3 (by decide)) (vp_in_nI he (by decide))) (atI (cl_of (n := e) (by have h9 := he; omega)) (hM.tb (t := 0) (by decide) he)) ?_
            refine h_iload_w C dX9_gotHello_301 rfl ?_
            refine h_al_g C dX9_gotHello_303 rfl rfl rfv_r ?_
            refine h_iconst (v := 0) C dX9_gotHello_304 (by decide) ?_
            refine h_iald C dX9_gotHello_305 (by rw [hR_z.1]; first | decide | exact KSE_m _ _ _) (inb hR_z.2.1 (vp_in_nI (n := 0) (by decide) (by decide))) (hR_z.2.2 0 (by decide)) ?_
            refine h_iast C dX9_gotHello_306 (hM.k11 (by have h0_ := he; omega)) (inb (hM.ln3 (by have h0_ := he; omega)) (vp_in_nI ha (by decide))) ?_
            refine h_abs (fun m57 em57 => ?_)
            rw [show (nI a).toNatClampNeg = a from (cl_of (n := a) (by have h9 := ha; omega))] at em57
            have hR_z := hR_z.wQ hM (by first | decide | (unfold KSE; omega) | (unfold KSE KTMP; omega)) (j := 21 + 3 * 0 + e) (by have h0_ := he; omega) em57
            have hT := hT.sei (j := 21 + 3 * 0 + e) (by have h0_ := he; omega) (Or.inr trivial) em57 (hT.1.wT0 he ha em57)
            have hM := hT.1
            refine h_al_g C dX9_gotHello_307 rfl rfl rfv_r ?_
            refine h_dup C dX9_gotHello_308 rfl ?_
            refine gf_X9_7 C dX9_gotHello_309 hM.kX hM.f289 ?_
            refine h_dup_x1 C dX9_gotHello_312 rfl rfl ?_
            refine h_iconst (v := 1) C dX9_gotHello_313 (by decide) ?_
            refine h_iadd C dX9_gotHello_314 ?_
            refine pf_X9_7 C dX9_gotHello_315 hM.kX ?_
            refine h_abs (fun m58 em58 => ?_)
            have hR_z := hR_z.w0i hM (by first | decide | (unfold KSE; omega) | (unfold KSE KTMP; omega)) em58
            have hT := hT.sfi (Or.inr trivial) em58 (hT.1.w289 (v := HNUM S) em58)
            have hM := hT.1
            refine h_ist_11 C dX9_gotHello_318 ct_i ?_
            refine h_iload_w C dX9_gotHello_320 rfl ?_
            refine h_callS1 C (k_X9_fresh Z.l Z.G _ (cl (HNUM S)) (cl_nI (by omega)) (by have := cl_eq (x := HNUM S) (by omega); omega) _) cw_X9_142 st_X9_fresh dX9_gotHello_322 (by first | decide | exact Nat.le_of_ble_eq_true rfl) (by decide) (by decide) (by decide) (by decide) (kI fun r30 μ30 hp30 => ?_) kN
            obtain ⟨rfl, rfl⟩ := hp30
            rw [show SEC (cl (HNUM S)) = HSEC S from rfl]
            refine h_ist_12 C dX9_gotHello_325 ct_i ?_
            refine h_iconst (v := 4) C dX9_gotHello_327 (by decide) ?_
            refine h_newarr (atype := .int) (N := 4) (11 + 32 * 100) C ac_11 (by decide) (Or.inl (by decide)) dX9_gotHello_328 (by decide) (by decide) (by decide) (by first | decide | omega) (by first | decide | omega) (fun qh hqh => ?_)
            refine h_abs (fun m59 em59 => ?_)
            have hLqh := NL.new em59
            have hR_z := hR_z.newA (by first | decide | (unfold KSE; omega) | (unfold KSE KTMP; omega)) hqh em59
            have hwqh := hT.fresh hqh
            have hT := hT.newT hqh em59
            have hM := hT.1
            refine h_dup C dX9_gotHello_330 rfl ?_
            refine h_iconst (v := 0) C dX9_gotHello_331 (by decide) ?_
            refine h_iconst (v := 4) C dX9_gotHello_332 (by decide) ?_
            refine h_iast C dX9_gotHello_333 hLqh.k (inb hLqh.2.1 (vp_in_nI (n := 0) (by decide) (by decide))) ?_
            refine h_abs (fun m60 em60 => ?_)
            rw [show Int32.toNatClampNeg 0 = 0 from rfl] at em60
            have hR_z := hR_z.tmp hLqh (by first | decide | (unfold KSE; omega) | (unfold KSE KTMP; omega)) em60
            have hT := hT.tmp hLqh hwqh em60
            have hM := hT.1
            have hLqh := hLqh.push em60 rfl
            refine h_dup C dX9_gotHello_334 rfl ?_
            refine h_iconst (v := 1) C dX9_gotHello_335 (by decide) ?_
            refine h_iload_w C dX9_gotHello_336 rfl ?_
            refine h_iast C dX9_gotHello_338 hLqh.k (inb hLqh.2.1 (vp_in_nI (n := 1) (by decide) (by decide))) ?_
            refine h_abs (fun m61 em61 => ?_)
            rw [show Int32.toNatClampNeg 1 = 1 from rfl] at em61
            have hR_z := hR_z.tmp hLqh (by first | decide | (unfold KSE; omega) | (unfold KSE KTMP; omega)) em61
            have hT := hT.tmp hLqh hwqh em61
            have hM := hT.1
            have hLqh := hLqh.push em61 rfl
            refine h_dup C dX9_gotHello_339 rfl ?_
            refine h_iconst (v := 2) C dX9_gotHello_340 (by decide) ?_
            refine h_iload_w C dX9_gotHello_341 rfl ?_
            refine h_iload_w C dX9_gotHello_343 rfl ?_
            refine h_callS2 C (k_X9_both Z.l Z.G _ _ (HSEC S) (cl (g 4)) rfl hkx hX (cl_lt _) _) cw_X9_135 st_X9_both dX9_gotHello_345 (by first | decide | exact Nat.le_of_ble_eq_true rfl) (by decide) (by decide) (by decide) (by decide) (kI fun r31 μ31 hp31 => ?_) kN
            obtain ⟨rfl, rfl⟩ := hp31
            refine h_iast C dX9_gotHello_348 hLqh.k (inb hLqh.2.1 (vp_in_nI (n := 2) (by decide) (by decide))) ?_
            refine h_abs (fun m62 em62 => ?_)
            rw [show Int32.toNatClampNeg 2 = 2 from rfl] at em62
            have hR_z := hR_z.tmp hLqh (by first | decide | (unfold KSE; omega) | (unfold KSE KTMP; omega)) em62
            have hT := hT.tmp hLqh hwqh em62
            have hM := hT.1
            have hLqh := hLqh.push em62 rfl
            refine h_dup C dX9_gotHello_349 rfl ?_
            refine h_iconst (v := 3) C dX9_gotHello_350 (by decide) ?_
            refine h_iload_w C dX9_gotHello_351 rfl ?_
            refine h_iload_w C dX9_gotHello_353 rfl ?_
            refine h_callS1 C (k_X9_nameOf Z.l Z.G _ a rfl (by omega) _) cw_X9_132 st_X9_nameOf dX9_gotHello_355 (by first | decide | exact Nat.le_of_ble_eq_true rfl) (by decide) (by decide) (by decide) (by decide) (kI fun r32 μ32 hp32 => ?_) kN
            obtain ⟨rfl, rfl⟩ := hp32
            refine h_callS2 C (k_X9_both Z.l Z.G _ _ (HSEC S) (NAME a) rfl hkx rfl (hnm a) _) cw_X9_135 st_X9_both dX9_gotHello_358 (by first | decide | exact Nat.le_of_ble_eq_true rfl) (by decide) (by decide) (by decide) (by decide) (kI fun r33 μ33 hp33 => ?_) kN
            obtain ⟨rfl, rfl⟩ := hp33
            refine h_iast C dX9_gotHello_361 hLqh.k (inb hLqh.2.1 (vp_in_nI (n := 3) (by decide) (by decide))) ?_
            refine h_abs (fun m63 em63 => ?_)
            rw [show Int32.toNatClampNeg 3 = 3 from rfl] at em63
            have hR_z := hR_z.tmp hLqh (by first | decide | (unfold KSE; omega) | (unfold KSE KTMP; omega)) em63
            have hT := hT.tmp hLqh hwqh em63
            have hM := hT.1
            have hLqh := hLqh.push em63 rfl
            refine h_callS1 C (k_X9_mix Z.l Z.G qh [4, nI (HKT e a g), nI (PW (cl (g 4)) (HSEC S)), nI (PW (NAME a) (HSEC S))] _ hLqh.k hLqh.2.1 hLqh.2.2 (Nat.le_of_ble_eq_true rfl)) cw_X9_138 st_X9_mix dX9_gotHello_362 (by first | decide | exact Nat.le_of_ble_eq_true rfl) (by decide) (by decide) (by decide) (by decide) (kI fun r34 μ34 hp34 => ?_) kN
            obtain ⟨rfl, rfl⟩ := hp34
            rw [show nI (MIX ([4, nI (HKT e a g), nI (PW (cl (g 4)) (HSEC S)), nI (PW (NAME a) (HSEC S))].map Int32.toInt)) = nI (RKY ((S.sLf 1 e a (g 6)).sLf 0 e a (g 0)) a (HKT e a g) g) from mix4 (lt31 (MIX_lt _) (by decide)) (lt31 (PW_lt _ _) (by decide)) (lt31 (PW_lt _ _) (by decide))]
            refine h_ist_13 C dX9_gotHello_365 ct_i ?_
            refine h_al_g C dX9_gotHello_367 rfl rfl rfv_r ?_
            refine h_al_g C dX9_gotHello_368 rfl rfl rfv_r ?_
            refine gs_X9_13 C dX9_gotHello_369 hM.kX (hM.fA (i := 1) (by decide)) ?_
            refine h_iload_g C dX9_gotHello_372 rfl rfl ?_
            refine h_iald C dX9_gotHello_373 (hM.k11 (by decide)) (inb (hM.ln3 (by decide)) (vp_in_nI he (by decide))) (atI (cl_of (n := e) (by have h9 := he; omega)) (hM.a1 he)) ?_
            refine h_al_g C dX9_gotHello_374 rfl rfl rfv_r ?_
            refine h_iconst (v := 0) C dX9_gotHello_375 (by decide) ?_
            refine h_iald C dX9_gotHello_376 (by rw [hR_z.1]; first | decide | exact KSE_m _ _ _) (inb hR_z.2.1 (vp_in_nI (n := 0) (by decide) (by decide))) (hR_z.2.2 0 (by decide)) ?_
            refine h_iconst (v := 2) C dX9_gotHello_377 (by decide) ?_
            refine h_iconst (v := 4) C dX9_gotHello_378 (by decide) ?_
            refine h_newarr (atype := .int) (N := 4) (11 + 32 * 100) C ac_11 (by decide) (Or.inl (by decide)) dX9_gotHello_379 (by decide) (by decide) (by decide) (by first | decide | omega) (by first | decide | omega) (fun qi hqi => ?_)
            refine h_abs (fun m64 em64 => ?_)
            have hLqi := NL.new em64
            have hR_z := hR_z.newA (by first | decide | (unfold KSE; omega) | (unfold KSE KTMP; omega)) hqi em64
            have hwqi := hT.fresh hqi
            have hT := hT.newT hqi em64
            have hM := hT.1
            refine h_dup C dX9_gotHello_381 rfl ?_
            refine h_iconst (v := 0) C dX9_gotHello_382 (by decide) ?_
            refine h_iload_w C dX9_gotHello_383 rfl ?_
            refine h_iast C dX9_gotHello_385 hLqi.k (inb hLqi.2.1 (vp_in_nI (n := 0) (by decide) (by decide))) ?_
            refine h_abs (fun m65 em65 => ?_)
            rw [show Int32.toNatClampNeg 0 = 0 from rfl] at em65
            have hR_z := hR_z.tmp hLqi (by first | decide | (unfold KSE; omega) | (unfold KSE KTMP; omega)) em65
            have hT := hT.tmp hLqi hwqi em65
            have hM := hT.1
            have hLqi := hLqi.push em65 rfl
            refine h_dup C dX9_gotHello_386 rfl ?_
            refine h_iconst (v := 1) C dX9_gotHello_387 (by decide) ?_
            refine h_iload_g C dX9_gotHello_388 rfl rfl ?_
            refine h_iast C dX9_gotHello_389 hLqi.k (inb hLqi.2.1 (vp_in_nI (n := 1) (by decide) (by decide))) ?_
            refine h_abs (fun m66 em66 => ?_)
            rw [show Int32.toNatClampNeg 1 = 1 from rfl] at em66
            have hR_z := hR_z.tmp hLqi (by first | decide | (unfold KSE; omega) | (unfold KSE KTMP; omega)) em66
            have hT := hT.tmp hLqi hwqi em66
            have hM := hT.1
            have hLqi := hLqi.push em66 rfl
            refine h_dup C dX9_gotHello_390 rfl ?_
            refine h_iconst (v := 2) C dX9_gotHello_391 (by decide) ?_
            refine h_iload_w C dX9_gotHello_392 rfl ?_
            refine h_callS1 C (k_X9_open Z.l Z.G _ (HSEC S) rfl hkx _) cw_X9_122 st_X9_open dX9_gotHello_394 (by first | decide | exact Nat.le_of_ble_eq_true rfl) (by decide) (by decide) (by decide) (by decide) (kI fun r35 μ35 hp35 => ?_) kN
            obtain ⟨rfl, rfl⟩ := hp35
            refine h_iast C dX9_gotHello_397 hLqi.k (inb hLqi.2.1 (vp_in_nI (n := 2) (by decide) (by decide))) ?_
            refine h_abs (fun m67 em67 => ?_)
            rw [show Int32.toNatClampNeg 2 = 2 from rfl] at em67
            have hR_z := hR_z.tmp hLqi (by first | decide | (unfold KSE; omega) | (unfold KSE KTMP; omega)) em67
            have hT := hT.tmp hLqi hwqi em67
            have hM := hT.1
            have hLqi := hLqi.push em67 rfl
            refine h_dup C dX9_gotHello_398 rfl ?_
            refine h_iconst (v := 3) C dX9_gotHello_399 (by decide) ?_
            refine h_iload_w C dX9_gotHello_400 rfl ?_
            refine h_iconst (v := 4) C dX9_gotHello_402 (by decide) ?_
            refine h_newarr (atype := .int) (N := 4) (11 + 32 * 100) C ac_11 (by decide) (Or.inl (by decide)) dX9_gotHello_403 (by decide) (by decide) (by decide) (by first | decide | omega) (by first | decide | omega) (fun qj hqj => ?_)
            refine h_abs (fun m68 em68 => ?_)
            have hne_qi_qj := hLqi.ne hqj
            have hLqi := hLqi.newA hqj em68
            have hLqj := NL.new em68
            have hR_z := hR_z.newA (by first | decide | (unfold KSE; omega) | (unfold KSE KTMP; omega)) hqj em68
            have hwqj := hT.fresh hqj
            have hT := hT.newT hqj em68
            have hM := hT.1
            refine h_dup C dX9_gotHello_405 rfl ?_
            refine h_iconst (v := 0) C dX9_gotHello_406 (by decide) ?_
            refine h_iconst (v := 2) C dX9_gotHello_407 (by decide) ?_
            refine h_iast C dX9_gotHello_408 hLqj.k (inb hLqj.2.1 (vp_in_nI (n := 0) (by decide) (by decide))) ?_
            refine h_abs (fun m69 em69 => ?_)
            rw [show Int32.toNatClampNeg 0 = 0 from rfl] at em69
            have hR_z := hR_z.tmp hLqj (by first | decide | (unfold KSE; omega) | (unfold KSE KTMP; omega)) em69
            have hT := hT.tmp hLqj hwqj em69
            have hM := hT.1
            have hLqi := hLqi.sei hne_qi_qj em69
            have hLqj := hLqj.push em69 rfl
            refine h_dup C dX9_gotHello_409 rfl ?_
            refine h_iconst (v := 1) C dX9_gotHello_410 (by decide) ?_
            refine h_iload_w C dX9_gotHello_411 rfl ?_
            refine h_iast C dX9_gotHello_413 hLqj.k (inb hLqj.2.1 (vp_in_nI (n := 1) (by decide) (by decide))) ?_
            refine h_abs (fun m70 em70 => ?_)
            rw [show Int32.toNatClampNeg 1 = 1 from rfl] at em70
            have hR_z := hR_z.tmp hLqj (by first | decide | (unfold KSE; omega) | (unfold KSE KTMP; omega)) em70
            have hT := hT.tmp hLqj hwqj em70
            have hM := hT.1
            have hLqi := hLqi.sei hne_qi_qj em70
            have hLqj := hLqj.push em70 rfl
            refine h_dup C dX9_gotHello_414 rfl ?_
            refine h_iconst (v := 2) C dX9_gotHello_415 (by decide) ?_
            refine h_iload_g C dX9_gotHello_416 rfl rfl ?_
            refine h_iast C dX9_gotHello_417 hLqj.k (inb hLqj.2.1 (vp_in_nI (n := 2) (by decide) (by decide))) ?_
            refine h_abs (fun m71 em71 => ?_)
            rw [show Int32.toNatClampNeg 2 = 2 from rfl] at em71
            have hR_z := hR_z.tmp hLqj (by first | decide | (unfold KSE; omega) | (unfold KSE KTMP; omega)) em71
            have hT := hT.tmp hLqj hwqj em71
            have hM := hT.1
            have hLqi := hLqi.sei hne_qi_qj em71
            have hLqj := hLqj.push em71 rfl
            refine h_dup C dX9_gotHello_418 rfl ?_
            refine h_iconst (v := 3) C dX9_gotHello_419 (by decide) ?_
            refine h_iload_w C dX9_gotHello_420 rfl ?_
            refine h_callS1w C (k_X9_open Z.l Z.G _ (HSEC S) rfl hkx _) cw_X9_122 st_X9_open dX9_gotHello_422 (by first | decide | exact Nat.le_of_ble_eq_true rfl) (by decide) (by decide) (by decide) (by decide) (kI fun r36 μ36 hp36 => ?_) kN
            obtain ⟨rfl, rfl⟩ := hp36
            refine h_iast C dX9_gotHello_425 hLqj.k (inb hLqj.2.1 (vp_in_nI (n := 3) (by decide) (by decide))) ?_
            refine h_abs (fun m72 em72 => ?_)
            rw [show Int32.toNatClampNeg 3 = 3 from rfl] at em72
            have hR_z := hR_z.tmp hLqj (by first | decide | (unfold KSE; omega) | (unfold KSE KTMP; omega)) em72
            have hT := hT.tmp hLqj hwqj em72
            have hM := hT.1
            have hLqi := hLqi.sei hne_qi_qj em72
            have hLqj := hLqj.push em72 rfl
            refine h_callS2 C (k_X9_sealOf Z.l Z.G _ (RKY ((S.sLf 1 e a (g 6)).sLf 0 e a (g 0)) a (HKT e a g) g) qj [2, HNUM S, g 3, nI (PW 7 (HSEC S))] _ rfl (MIX_lt _) hLqj.k hLqj.2.1 hLqj.2.2 (Nat.le_of_ble_eq_true rfl)) cw_X9_154 st_X9_sealOf dX9_gotHello_426 (by first | decide | exact Nat.le_of_ble_eq_true rfl) (by decide) (by decide) (by decide) (by decide) (kI fun r37 μ37 hp37 => ?_) kN
            obtain ⟨rfl, rfl⟩ := hp37
            rw [sgS_N]
            refine h_iast C dX9_gotHello_429 hLqi.k (inb hLqi.2.1 (vp_in_nI (n := 3) (by decide) (by decide))) ?_
            refine h_abs (fun m73 em73 => ?_)
            rw [show Int32.toNatClampNeg 3 = 3 from rfl] at em73
            have hR_z := hR_z.tmp hLqi (by first | decide | (unfold KSE; omega) | (unfold KSE KTMP; omega)) em73
            have hT := hT.tmp hLqi hwqi em73
            have hM := hT.1
            have hLqi := hLqi.push em73 rfl
            refine h_callV4 (ci := 9) C (k_X9_put Z.l Z.G Q _ t _ hM (S.ef 0 e) (g 0) 2 qi [HNUM S, g 3, nI (PW 7 (HSEC S)), SEALN (RKY ((S.sLf 1 e a (g 6)).sLf 0 e a (g 0)) a (HKT e a g) g) 2 [HNUM S, g 3, nI (PW 7 (HSEC S))]] hLqi (Nat.le_of_ble_eq_true rfl) (nI (RKY ((S.sLf 1 e a (g 6)).sLf 0 e a (g 0)) a (HKT e a g) g))) cw_X9_162 im_X9_put sl_X9_put rfl (by decide) hM.kX dX9_gotHello_430 (by first | decide | exact Nat.le_of_ble_eq_true rfl) (by decide) (by decide) (by decide) (by decide) (kV fun μ38 hp38 => ?_) kN
            have hPu := hp38
            have hT := hT.tr hPu (fun _ _ => trivial)
            have hM := hT.1
            refine h_al_g C dX9_gotHello_433 rfl rfl rfv_r ?_
            refine h_iload_g C dX9_gotHello_434 rfl rfl ?_
            refine h_iload_w C dX9_gotHello_435 rfl ?_
            refine h_iconst (v := 2) C dX9_gotHello_437 (by decide) ?_
            refine h_iload_w C dX9_gotHello_438 rfl ?_
            refine h_iload_g C dX9_gotHello_440 rfl rfl ?_
            refine h_iconst (v := 3) C dX9_gotHello_441 (by decide) ?_
            refine h_newarr (atype := .int) (N := 3) (11 + 32 * 100) C ac_11 (by decide) (Or.inl (by decide)) dX9_gotHello_442 (by decide) (by decide) (by decide) (by first | decide | omega) (by first | decide | omega) (fun qk hqk => ?_)
            refine h_abs (fun m74 em74 => ?_)
            have hLqk := NL.new em74
            have hwqk := hT.fresh hqk
            have hT := hT.newT hqk em74
            have hM := hT.1
            refine h_dup C dX9_gotHello_444 rfl ?_
            refine h_iconst (v := 0) C dX9_gotHello_445 (by decide) ?_
            refine h_iconst (v := 5) C dX9_gotHello_446 (by decide) ?_
            refine h_iast C dX9_gotHello_447 hLqk.k (inb hLqk.2.1 (vp_in_nI (n := 0) (by decide) (by decide))) ?_
            refine h_abs (fun m75 em75 => ?_)
            rw [show Int32.toNatClampNeg 0 = 0 from rfl] at em75
            have hT := hT.tmp hLqk hwqk em75
            have hM := hT.1
            have hLqk := hLqk.push em75 rfl
            refine h_dup C dX9_gotHello_448 rfl ?_
            refine h_iconst (v := 1) C dX9_gotHello_449 (by decide) ?_
            refine h_iload_w C dX9_gotHello_450 rfl ?_
            refine h_iast C dX9_gotHello_452 hLqk.k (inb hLqk.2.1 (vp_in_nI (n := 1) (by decide) (by decide))) ?_
            refine h_abs (fun m76 em76 => ?_)
            rw [show Int32.toNatClampNeg 1 = 1 from rfl] at em76
            have hT := hT.tmp hLqk hwqk em76
            have hM := hT.1
            have hLqk := hLqk.push em76 rfl
            refine h_dup C dX9_gotHello_453 rfl ?_
            refine h_iconst (v := 2) C dX9_gotHello_454 (by decide) ?_
            refine h_iconst (v := 1) C dX9_gotHello_455 (by decide) ?_
            refine h_iast C dX9_gotHello_456 hLqk.k (inb hLqk.2.1 (vp_in_nI (n := 2) (by decide) (by decide))) ?_
            refine h_abs (fun m77 em77 => ?_)
            rw [show Int32.toNatClampNeg 2 = 2 from rfl] at em77
            have hT := hT.tmp hLqk hwqk em77
            have hM := hT.1
            have hLqk := hLqk.push em77 rfl
            refine h_callS1 C (k_X9_mix Z.l Z.G qk [5, nI (RKY ((S.sLf 1 e a (g 6)).sLf 0 e a (g 0)) a (HKT e a g) g), 1] _ hLqk.k hLqk.2.1 hLqk.2.2 (Nat.le_of_ble_eq_true rfl)) cw_X9_138 st_X9_mix dX9_gotHello_457 (by first | decide | exact Nat.le_of_ble_eq_true rfl) (by decide) (by decide) (by decide) (by decide) (kI fun r39 μ39 hp39 => ?_) kN
            obtain ⟨rfl, rfl⟩ := hp39
            rw [show nI (MIX ([5, nI (RKY ((S.sLf 1 e a (g 6)).sLf 0 e a (g 0)) a (HKT e a g) g), 1].map Int32.toInt)) = nI (MIX [5, ((RKY ((S.sLf 1 e a (g 6)).sLf 0 e a (g 0)) a (HKT e a g) g) : Int), 1]) from mix3k (lt31 (MIX_lt _) (by decide))]
            refine h_iconst (v := 3) C dX9_gotHello_460 (by decide) ?_
            refine h_newarr (atype := .int) (N := 3) (11 + 32 * 100) C ac_11 (by decide) (Or.inl (by decide)) dX9_gotHello_461 (by decide) (by decide) (by decide) (by first | decide | omega) (by first | decide | omega) (fun ql hql => ?_)
            refine h_abs (fun m78 em78 => ?_)
            have hLql := NL.new em78
            have hwql := hT.fresh hql
            have hT := hT.newT hql em78
            have hM := hT.1
            refine h_dup C dX9_gotHello_463 rfl ?_
            refine h_iconst (v := 0) C dX9_gotHello_464 (by decide) ?_
            refine h_iconst (v := 5) C dX9_gotHello_465 (by decide) ?_
            refine h_iast C dX9_gotHello_466 hLql.k (inb hLql.2.1 (vp_in_nI (n := 0) (by decide) (by decide))) ?_
            refine h_abs (fun m79 em79 => ?_)
            rw [show Int32.toNatClampNeg 0 = 0 from rfl] at em79
            have hT := hT.tmp hLql hwql em79
            have hM := hT.1
            have hLql := hLql.push em79 rfl
            refine h_dup C dX9_gotHello_467 rfl ?_
            refine h_iconst (v := 1) C dX9_gotHello_468 (by decide) ?_
            refine h_iload_w C dX9_gotHello_469 rfl ?_
            refine h_iast C dX9_gotHello_471 hLql.k (inb hLql.2.1 (vp_in_nI (n := 1) (by decide) (by decide))) ?_
            refine h_abs (fun m80 em80 => ?_)
            rw [show Int32.toNatClampNeg 1 = 1 from rfl] at em80
            have hT := hT.tmp hLql hwql em80
            have hM := hT.1
            have hLql := hLql.push em80 rfl
            refine h_dup C dX9_gotHello_472 rfl ?_
            refine h_iconst (v := 2) C dX9_gotHello_473 (by decide) ?_
            refine h_iconst (v := 0) C dX9_gotHello_474 (by decide) ?_
            refine h_iast C dX9_gotHello_475 hLql.k (inb hLql.2.1 (vp_in_nI (n := 2) (by decide) (by decide))) ?_
            refine h_abs (fun m81 em81 => ?_)
            rw [show Int32.toNatClampNeg 2 = 2 from rfl] at em81
            have hT := hT.tmp hLql hwql em81
            have hM := hT.1
            have hLql := hLql.push em81 rfl
            refine h_callS1 C (k_X9_mix Z.l Z.G ql [5, nI (RKY ((S.sLf 1 e a (g 6)).sLf 0 e a (g 0)) a (HKT e a g) g), 0] _ hLql.k hLql.2.1 hLql.2.2 (Nat.le_of_ble_eq_true rfl)) cw_X9_138 st_X9_mix dX9_gotHello_476 (by first | decide | exact Nat.le_of_ble_eq_true rfl) (by decide) (by decide) (by decide) (by decide) (kI fun r40 μ40 hp40 => ?_) kN
            obtain ⟨rfl, rfl⟩ := hp40
            rw [show nI (MIX ([5, nI (RKY ((S.sLf 1 e a (g 6)).sLf 0 e a (g 0)) a (HKT e a g) g), 0].map Int32.toInt)) = nI (MIX [5, ((RKY ((S.sLf 1 e a (g 6)).sLf 0 e a (g 0)) a (HKT e a g) g) : Int), 0]) from mix3k (lt31 (MIX_lt _) (by decide))]
            refine h_iconst (v := 0) C dX9_gotHello_479 (by decide) ?_
            refine h_callV8 (ci := 9) C (k_X9_make Z.l Z.G Q _ _ _ hM e he _ rfl a ha _ rfl 2 (by decide) 2 rfl (HNUM S) (g 3) _ _ 0 hN.1) cw_X9_180 im_X9_make sl_X9_make rfl (by decide) hM.kX dX9_gotHello_480 (by first | decide | exact Nat.le_of_ble_eq_true rfl) (by decide) (by decide) (by decide) (by decide) (kV fun μ41 hp41 => ?_) kN
            have hMk := hp41
            have hT := (hT.tr hMk (fun _ _ => trivial)).lxMk
            have hM := hT.1
            refine h_iconst (v := 3) C dX9_gotHello_483 (by decide) ?_
            refine h_iret C E dX9_gotHello_484 (by decide) (by decide) ?_
            refine ⟨_, rfl, ((if_neg hbe).trans ((if_neg hC).trans ((if_neg hB).trans (if_neg hO)))).symm, ?_⟩
            rw [show THs S e a b g = REPS ((S.sLf 1 e a (g 6)).sLf 0 e a (g 0)) e a (HKT e a g) g from (if_neg hbe).trans ((if_neg hC).trans ((if_neg hB).trans (if_neg hO)))]
            have eR : REPR ((S.sLf 1 e a (g 6)).sLf 0 e a (g 0)) e a (HKT e a g) g = mkL (S.ef 0 e) (g 0) 2 [HNUM S, g 3, nI (PW 7 (HSEC S)), SEALN (RKY ((S.sLf 1 e a (g 6)).sLf 0 e a (g 0)) a (HKT e a g) g) 2 [HNUM S, g 3, nI (PW 7 (HSEC S))]] (nI (RKY ((S.sLf 1 e a (g 6)).sLf 0 e a (g 0)) a (HKT e a g) g)) := by
              unfold REPR
              rw [show ((S.sLf 1 e a (g 6)).sLf 0 e a (g 0)).lf 0 e a = g 0 from lf_at]
              rfl
            unfold REPS
            rw [eR]
            exact hT
          · have hO : g 6 ≤ S.lf 1 e a := Int32.not_lt.mp cO
            refine h_bipush (v := (-6)) C dX9_gotHello_281 (by decide) ?_
            refine h_iret C E dX9_gotHello_283 (by decide) (by decide) ?_
            exact ⟨_, rfl, ((if_neg hbe).trans ((if_neg hC).trans ((if_neg hB).trans (if_pos hO)))).symm, by rw [show THs S e a b g = S from (if_neg hbe).trans ((if_neg hC).trans ((if_neg hB).trans (if_pos hO)))]; exact hT⟩
        · have hB : ¬ TAGR g = SEALR (HKT e a g) g := fun z => cB (by rw [hTG, hSR] at z; exact z)
          refine h_bipush (v := (-2)) C dX9_gotHello_264 (by decide) ?_
          refine h_iret C E dX9_gotHello_266 (by decide) (by decide) ?_
          exact ⟨_, rfl, ((if_neg hbe).trans ((if_neg hC).trans (if_pos hB))).symm, by rw [show THs S e a b g = S from (if_neg hbe).trans ((if_neg hC).trans (if_pos hB))]; exact hT⟩
      · have hC : ¬ S.ef 1 e = 0 ∧ ¬ g 8 = nI (MIX [2, (CKE S e g : Int), (TAGR g).toInt]) := ⟨cL, cP⟩
        refine h_al_g C dX9_gotHello_116 rfl rfl rfv_r ?_
        refine h_al_g C dX9_gotHello_117 rfl rfl rfv_r ?_
        refine gs_X9_13 C dX9_gotHello_118 hM.kX (hM.fA (i := 1) (by decide)) ?_
        refine h_iload_g C dX9_gotHello_121 rfl rfl ?_
        refine h_iald C dX9_gotHello_122 (hM.k11 (by decide)) (inb (hM.ln3 (by decide)) (vp_in_nI he (by decide))) (atI (cl_of (n := e) (by have h9 := he; omega)) (hM.a1 he)) ?_
        refine h_al_g C dX9_gotHello_123 rfl rfl rfv_r ?_
        refine h_iconst (v := 0) C dX9_gotHello_124 (by decide) ?_
        refine h_iald C dX9_gotHello_125 (by rw [hR_z.1]; first | decide | exact KSE_m _ _ _) (inb hR_z.2.1 (vp_in_nI (n := 0) (by decide) (by decide))) (hR_z.2.2 0 (by decide)) ?_
        refine h_iconst (v := 3) C dX9_gotHello_126 (by decide) ?_
        refine h_iconst (v := 3) C dX9_gotHello_127 (by decide) ?_
        refine h_newarr (atype := .int) (N := 3) (11 + 32 * 100) C ac_11 (by decide) (Or.inl (by decide)) dX9_gotHello_128 (by decide) (by decide) (by decide) (by first | decide | omega) (by first | decide | omega) (fun qc hqc => ?_)
        refine h_abs (fun m82 em82 => ?_)
        have hLqc := NL.new em82
        have hR_z := hR_z.newA (by first | decide | (unfold KSE; omega) | (unfold KSE KTMP; omega)) hqc em82
        have hwqc := hT.fresh hqc
        have hT := hT.newT hqc em82
        have hM := hT.1
        refine h_dup C dX9_gotHello_130 rfl ?_
        refine h_iconst (v := 0) C dX9_gotHello_131 (by decide) ?_
        refine h_iload_g C dX9_gotHello_132 rfl rfl ?_
        refine h_iast C dX9_gotHello_133 hLqc.k (inb hLqc.2.1 (vp_in_nI (n := 0) (by decide) (by decide))) ?_
        refine h_abs (fun m83 em83 => ?_)
        rw [show Int32.toNatClampNeg 0 = 0 from rfl] at em83
        have hR_z := hR_z.tmp hLqc (by first | decide | (unfold KSE; omega) | (unfold KSE KTMP; omega)) em83
        have hT := hT.tmp hLqc hwqc em83
        have hM := hT.1
        have hLqc := hLqc.push em83 rfl
        refine h_dup C dX9_gotHello_134 rfl ?_
        refine h_iconst (v := 1) C dX9_gotHello_135 (by decide) ?_
        refine h_iload_w C dX9_gotHello_136 rfl ?_
        refine h_iast C dX9_gotHello_138 hLqc.k (inb hLqc.2.1 (vp_in_nI (n := 1) (by decide) (by decide))) ?_
        refine h_abs (fun m84 em84 => ?_)
        rw [show Int32.toNatClampNeg 1 = 1 from rfl] at em84
        have hR_z := hR_z.tmp hLqc (by first | decide | (unfold KSE; omega) | (unfold KSE KTMP; omega)) em84
        have hT := hT.tmp hLqc hwqc em84
        have hM := hT.1
        have hLqc := hLqc.push em84 rfl
        refine h_dup C dX9_gotHello_139 rfl ?_
        refine h_iconst (v := 2) C dX9_gotHello_140 (by decide) ?_
        refine h_iconst (v := 3) C dX9_gotHello_141 (by decide) ?_
        refine h_newarr (atype := .int) (N := 3) (11 + 32 * 100) C ac_11 (by decide) (Or.inl (by decide)) dX9_gotHello_142 (by decide) (by decide) (by decide) (by first | decide | omega) (by first | decide | omega) (fun qd hqd => ?_)
        refine h_abs (fun m85 em85 => ?_)
        have hne_qc_qd := hLqc.ne hqd
        have hLqc := hLqc.newA hqd em85
        have hLqd := NL.new em85
        have hR_z := hR_z.newA (by first | decide | (unfold KSE; omega) | (unfold KSE KTMP; omega)) hqd em85
        have hwqd := hT.fresh hqd
        have hT := hT.newT hqd em85
        have hM := hT.1
        refine h_dup C dX9_gotHello_144 rfl ?_
        refine h_iconst (v := 0) C dX9_gotHello_145 (by decide) ?_
        refine h_iconst (v := 3) C dX9_gotHello_146 (by decide) ?_
        refine h_iast C dX9_gotHello_147 hLqd.k (inb hLqd.2.1 (vp_in_nI (n := 0) (by decide) (by decide))) ?_
        refine h_abs (fun m86 em86 => ?_)
        rw [show Int32.toNatClampNeg 0 = 0 from rfl] at em86
        have hR_z := hR_z.tmp hLqd (by first | decide | (unfold KSE; omega) | (unfold KSE KTMP; omega)) em86
        have hT := hT.tmp hLqd hwqd em86
        have hM := hT.1
        have hLqc := hLqc.sei hne_qc_qd em86
        have hLqd := hLqd.push em86 rfl
        refine h_dup C dX9_gotHello_148 rfl ?_
        refine h_iconst (v := 1) C dX9_gotHello_149 (by decide) ?_
        refine h_iload_g C dX9_gotHello_150 rfl rfl ?_
        refine h_callS1w C (k_X9_nameOf Z.l Z.G _ e rfl (by omega) _) cw_X9_132 st_X9_nameOf dX9_gotHello_151 (by first | decide | exact Nat.le_of_ble_eq_true rfl) (by decide) (by decide) (by decide) (by decide) (kI fun r42 μ42 hp42 => ?_) kN
        obtain ⟨rfl, rfl⟩ := hp42
        refine h_iast C dX9_gotHello_154 hLqd.k (inb hLqd.2.1 (vp_in_nI (n := 1) (by decide) (by decide))) ?_
        refine h_abs (fun m87 em87 => ?_)
        rw [show Int32.toNatClampNeg 1 = 1 from rfl] at em87
        have hR_z := hR_z.tmp hLqd (by first | decide | (unfold KSE; omega) | (unfold KSE KTMP; omega)) em87
        have hT := hT.tmp hLqd hwqd em87
        have hM := hT.1
        have hLqc := hLqc.sei hne_qc_qd em87
        have hLqd := hLqd.push em87 rfl
        refine h_dup C dX9_gotHello_155 rfl ?_
        refine h_iconst (v := 2) C dX9_gotHello_156 (by decide) ?_
        refine h_iload_w C dX9_gotHello_157 rfl ?_
        refine h_iast C dX9_gotHello_159 hLqd.k (inb hLqd.2.1 (vp_in_nI (n := 2) (by decide) (by decide))) ?_
        refine h_abs (fun m88 em88 => ?_)
        rw [show Int32.toNatClampNeg 2 = 2 from rfl] at em88
        have hR_z := hR_z.tmp hLqd (by first | decide | (unfold KSE; omega) | (unfold KSE KTMP; omega)) em88
        have hT := hT.tmp hLqd hwqd em88
        have hM := hT.1
        have hLqc := hLqc.sei hne_qc_qd em88
        have hLqd := hLqd.push em88 rfl
        refine h_callS1 C (k_X9_mix Z.l Z.G qd [3, nI (NAME e), g 7] _ hLqd.k hLqd.2.1 hLqd.2.2 (Nat.le_of_ble_eq_true rfl)) cw_X9_138 st_X9_mix dX9_gotHello_160 (by first | decide | exact Nat.le_of_ble_eq_true rfl) (by decide) (by decide) (by decide) (by decide) (kI fun r43 μ43 hp43 => ?_) kN
        obtain ⟨rfl, rfl⟩ := hp43
        rw [show nI (MIX ([3, nI (NAME e), g 7].map Int32.toInt)) = nI (CKEY e (TAGR g)) from by
          rw [hTG]
          exact mix3k (hnm e)]
        refine h_iconst (v := 3) C dX9_gotHello_163 (by decide) ?_
        refine h_newarr (atype := .int) (N := 3) (11 + 32 * 100) C ac_11 (by decide) (Or.inl (by decide)) dX9_gotHello_164 (by decide) (by decide) (by decide) (by first | decide | omega) (by first | decide | omega) (fun qe hqe => ?_)
        refine h_abs (fun m89 em89 => ?_)
        have hne_qc_qe := hLqc.ne hqe
        have hLqc := hLqc.newA hqe em89
        have hLqe := NL.new em89
        have hR_z := hR_z.newA (by first | decide | (unfold KSE; omega) | (unfold KSE KTMP; omega)) hqe em89
        have hwqe := hT.fresh hqe
        have hT := hT.newT hqe em89
        have hM := hT.1
        refine h_dup C dX9_gotHello_166 rfl ?_
        refine h_iconst (v := 0) C dX9_gotHello_167 (by decide) ?_
        refine h_iconst (v := 3) C dX9_gotHello_168 (by decide) ?_
        refine h_iast C dX9_gotHello_169 hLqe.k (inb hLqe.2.1 (vp_in_nI (n := 0) (by decide) (by decide))) ?_
        refine h_abs (fun m90 em90 => ?_)
        rw [show Int32.toNatClampNeg 0 = 0 from rfl] at em90
        have hR_z := hR_z.tmp hLqe (by first | decide | (unfold KSE; omega) | (unfold KSE KTMP; omega)) em90
        have hT := hT.tmp hLqe hwqe em90
        have hM := hT.1
        have hLqc := hLqc.sei hne_qc_qe em90
        have hLqe := hLqe.push em90 rfl
        refine h_dup C dX9_gotHello_170 rfl ?_
        refine h_iconst (v := 1) C dX9_gotHello_171 (by decide) ?_
        refine h_iload_g C dX9_gotHello_172 rfl rfl ?_
        refine h_iast C dX9_gotHello_173 hLqe.k (inb hLqe.2.1 (vp_in_nI (n := 1) (by decide) (by decide))) ?_
        refine h_abs (fun m91 em91 => ?_)
        rw [show Int32.toNatClampNeg 1 = 1 from rfl] at em91
        have hR_z := hR_z.tmp hLqe (by first | decide | (unfold KSE; omega) | (unfold KSE KTMP; omega)) em91
        have hT := hT.tmp hLqe hwqe em91
        have hM := hT.1
        have hLqc := hLqc.sei hne_qc_qe em91
        have hLqe := hLqe.push em91 rfl
        refine h_dup C dX9_gotHello_174 rfl ?_
        refine h_iconst (v := 2) C dX9_gotHello_175 (by decide) ?_
        refine h_iload_w C dX9_gotHello_176 rfl ?_
        refine h_iast C dX9_gotHello_178 hLqe.k (inb hLqe.2.1 (vp_in_nI (n := 2) (by decide) (by decide))) ?_
        refine h_abs (fun m92 em92 => ?_)
        rw [show Int32.toNatClampNeg 2 = 2 from rfl] at em92
        have hR_z := hR_z.tmp hLqe (by first | decide | (unfold KSE; omega) | (unfold KSE KTMP; omega)) em92
        have hT := hT.tmp hLqe hwqe em92
        have hM := hT.1
        have hLqc := hLqc.sei hne_qc_qe em92
        have hLqe := hLqe.push em92 rfl
        refine h_callS2 C (k_X9_sealOf Z.l Z.G _ (CKEY e (TAGR g)) qe [3, g 3, nI (CKE S e g)] _ rfl (MIX_lt _) hLqe.k hLqe.2.1 hLqe.2.2 (Nat.le_of_ble_eq_true rfl)) cw_X9_154 st_X9_sealOf dX9_gotHello_179 (by first | decide | exact Nat.le_of_ble_eq_true rfl) (by decide) (by decide) (by decide) (by decide) (kI fun r44 μ44 hp44 => ?_) kN
        obtain ⟨rfl, rfl⟩ := hp44
        rw [sgS_N]
        refine h_iast C dX9_gotHello_182 hLqc.k (inb hLqc.2.1 (vp_in_nI (n := 2) (by decide) (by decide))) ?_
        refine h_abs (fun m93 em93 => ?_)
        rw [show Int32.toNatClampNeg 2 = 2 from rfl] at em93
        have hR_z := hR_z.tmp hLqc (by first | decide | (unfold KSE; omega) | (unfold KSE KTMP; omega)) em93
        have hT := hT.tmp hLqc hwqc em93
        have hM := hT.1
        have hLqe := hLqe.sei hne_qc_qe.symm em93
        have hLqc := hLqc.push em93 rfl
        refine h_callV4 (ci := 9) C (k_X9_put Z.l Z.G Q S t _ hM (S.ef 0 e) (g 0) 3 qc [g 3, nI (CKE S e g), SEALN (CKEY e (TAGR g)) 3 [g 3, nI (CKE S e g)]] hLqc (Nat.le_of_ble_eq_true rfl) (nI (CKEY e (TAGR g)))) cw_X9_162 im_X9_put sl_X9_put rfl (by decide) hM.kX dX9_gotHello_183 (by first | decide | exact Nat.le_of_ble_eq_true rfl) (by decide) (by decide) (by decide) (by decide) (kV fun μ45 hp45 => ?_) kN
        have hPu := hp45
        have hT := hT.tr hPu (fun _ _ => trivial)
        have hM := hT.1
        refine h_bipush (v := (-7)) C dX9_gotHello_186 (by decide) ?_
        refine h_iret C E dX9_gotHello_188 (by decide) (by decide) ?_
        exact ⟨_, rfl, ((if_neg hbe).trans (if_pos hC)).symm, by rw [show THs S e a b g = COOS S e g (nI (CKE S e g)) from (if_neg hbe).trans (if_pos hC)]; exact hT⟩
  · have hbe : ¬ b = e := fun z => cbe (by rw [z])
    refine h_iconst (v := (-1)) C dX9_gotHello_42 (by decide) ?_
    refine h_iret C E dX9_gotHello_43 (by decide) (by decide) ?_
    exact ⟨_, rfl, (if_pos hbe).symm, by rw [show THs S e a b g = S from if_pos hbe]; exact hT⟩

set_option maxRecDepth 100000 in
set_option maxHeartbeats 1000000 in
theorem k_X9_gotReply (l : Launch) (G : Gx) (Q : Nat → Nat) (S : Sx) (t : Int32) (μ : Mem) (hM : MRq Q S (LXo S t) μ) (e : Nat) (he : e < 3) (xe : Int32) (hxe : xe = nI e) (z : Nat) (g : Row) (hR_z : RowAt μ KLR z 16 g) (hk2 : g 2 = 2) (hn : 0 < (g 4).toInt) (hY : g 5 = nI (cl (g 5))) (hself : S.fl e e = none) (hoF : ∀ b f, b < 3 → S.fl e b = some f → f 1 = nI (cl (f 1))) (hoKs : ∀ b, b < 3 → okKm S e b) : Kon l yX9_gotReply cX9_gotReply 9 (some .int) 4 19 178 101 G [.ref (Q 0), .int xe, .ref z] μ (pI fun v μ' => ∃ S9, TRc S e g v S9 ∧ MTo Q WAll μ S9 (LXo S9 t) μ') noX := by
  refine Kon.ofG (by decide +kernel) (Nat.le_of_ble_eq_true rfl) (Nat.le_of_ble_eq_true rfl) (fun Z hZG C E NT MT => ?_)
  subst hZG
  have C : Cx Z RX9 cX9_gotReply 4 19 178 101 := C
  show HW Z 0 0 0 [some (.ref (Q 0)), some (.int xe), some (.ref z), none, none, none, none, none, none] [] μ
  subst hxe
  have hM0 := hM
  have hT : MTo Q WAll μ S (LXo S t) μ := MTo.rf hM
  have h211 : 211 + 307 * e < 2 ^ 31 := by omega
  have hnm : ∀ b, NAME b < 2 ^ 31 := fun b => lt31 (NAME_lt b) (by decide)
  have hn1 : ¬ g 4 = -1 := fun z => by rw [z] at hn; exact absurd hn (by decide)
  have hTG : TAGR g = g 6 := by unfold TAGR; rw [hk2]; rfl
  have hSR : ∀ K, SEALR K g = SEALN K 2 [g 3, g 4, g 5] := fun K => SEALR_N hk2 rfl (fun i hi => by
    have h9 : i = 0 ∨ i = 1 ∨ i = 2 := by have : i < 3 := hi; omega
    rcases h9 with rfl | rfl | rfl <;> rfl)
  refine h_al_g C dX9_gotReply_0 rfl rfl rfv_r ?_
  refine h_iconst (v := 3) C dX9_gotReply_1 (by decide) ?_
  refine h_iald C dX9_gotReply_2 (by rw [hR_z.1]; first | decide | exact KSE_m _ _ _) (inb hR_z.2.1 (vp_in_nI (n := 3) (by decide) (by decide))) (hR_z.2.2 3 (by decide)) ?_
  refine h_ist_3 C dX9_gotReply_3 ct_r ?_
  refine h_al_g C dX9_gotReply_4 rfl rfl rfv_r ?_
  refine h_iconst (v := 4) C dX9_gotReply_5 (by decide) ?_
  refine h_iald C dX9_gotReply_6 (by rw [hR_z.1]; first | decide | exact KSE_m _ _ _) (inb hR_z.2.1 (vp_in_nI (n := 4) (by decide) (by decide))) (hR_z.2.2 4 (by decide)) ?_
  refine h_ist_4 C dX9_gotReply_7 ct_i ?_
  refine h_al_g C dX9_gotReply_9 rfl rfl rfv_r ?_
  refine h_iconst (v := 5) C dX9_gotReply_10 (by decide) ?_
  refine h_iald C dX9_gotReply_11 (by rw [hR_z.1]; first | decide | exact KSE_m _ _ _) (inb hR_z.2.1 (vp_in_nI (n := 5) (by decide) (by decide))) (hR_z.2.2 5 (by decide)) ?_
  refine h_ist_5 C dX9_gotReply_12 ct_i ?_
  refine h_al_g C dX9_gotReply_14 rfl rfl rfv_r ?_
  refine h_iload_g C dX9_gotReply_15 rfl rfl ?_
  refine h_iload_w C dX9_gotReply_16 rfl ?_
  refine h_callV2 (ci := 9) C (k_X9_inFlight Z.l Z.G Q S t _ hM e he _ rfl (g 4) hn1 hself) cw_X9_184 im_X9_inFlight sl_X9_inFlight rfl (by decide) hM.kX dX9_gotReply_18 (by first | decide | exact Nat.le_of_ble_eq_true rfl) (by decide) (by decide) (by decide) (by decide) (kI fun rb μ1 hp1 => ?_) kN
  obtain ⟨rfl, hIF⟩ := hp1
  refine h_ist_6 C dX9_gotReply_21 ct_i ?_
  refine h_iload_w C dX9_gotReply_23 rfl ?_
  refine h_iconst (v := (-1)) C dX9_gotReply_25 (by decide) ?_
  refine h_icmp_ne (tgt := 31) C dX9_gotReply_26 (by decide) (fun cI => ?_) (fun cI => ?_)
  · obtain ⟨b, rfl, hFW⟩ := hIF.resolve_left (fun z => cI z.1)
    have hb : b < 3 := hFW.1
    obtain ⟨f, hfl, hf0⟩ := FWN.r hFW
    refine h_al_g C dX9_gotReply_31 rfl rfl rfv_r ?_
    refine gs_X9_49 C dX9_gotReply_32 hM.kX (hM.fA (i := 11) (by decide)) ?_
    refine h_iload_g C dX9_gotReply_35 rfl rfl ?_
    refine h_aald (r := some _) C dX9_gotReply_36 (hM.kr (by decide)) (inb (hM.ln3 (by decide)) (vp_in_nI he (by decide))) (atI (cl_of (n := e) (by have h9 := he; omega)) (hM.tb (t := 4) (by decide) he)) ?_
    refine h_iload_w C dX9_gotReply_37 rfl ?_
    refine h_iald C dX9_gotReply_39 (hM.k11 (by have h0_ := he; omega)) (inb (hM.ln3 (by have h0_ := he; omega)) (vp_in_nI hb (by decide))) (atI (cl_of (n := b) (by have h9 := hb; omega)) (hM.t4 he hb hfl)) ?_
    refine h_ist_7 C dX9_gotReply_40 ct_i ?_
    have hF1 := hoF b f hb hfl
    refine h_iconst (v := 4) C dX9_gotReply_42 (by decide) ?_
    refine h_newarr (atype := .int) (N := 4) (11 + 32 * 100) C ac_11 (by decide) (Or.inl (by decide)) dX9_gotReply_43 (by decide) (by decide) (by decide) (by first | decide | omega) (by first | decide | omega) (fun qa hqa => ?_)
    refine h_abs (fun m1 em1 => ?_)
    have hLqa := NL.new em1
    have hR_z := hR_z.newA (by first | decide | (unfold KSE; omega) | (unfold KSE KTMP; omega)) hqa em1
    have hwqa := hT.fresh hqa
    have hT := hT.newT hqa em1
    have hM := hT.1
    refine h_dup C dX9_gotReply_45 rfl ?_
    refine h_iconst (v := 0) C dX9_gotReply_46 (by decide) ?_
    refine h_iconst (v := 4) C dX9_gotReply_47 (by decide) ?_
    refine h_iast C dX9_gotReply_48 hLqa.k (inb hLqa.2.1 (vp_in_nI (n := 0) (by decide) (by decide))) ?_
    refine h_abs (fun m2 em2 => ?_)
    rw [show Int32.toNatClampNeg 0 = 0 from rfl] at em2
    have hR_z := hR_z.tmp hLqa (by first | decide | (unfold KSE; omega) | (unfold KSE KTMP; omega)) em2
    have hT := hT.tmp hLqa hwqa em2
    have hM := hT.1
    have hLqa := hLqa.push em2 rfl
    refine h_dup C dX9_gotReply_49 rfl ?_
    refine h_iconst (v := 1) C dX9_gotReply_50 (by decide) ?_
    refine h_al_g C dX9_gotReply_51 rfl rfl rfv_r ?_
    refine h_iload_g C dX9_gotReply_52 rfl rfl ?_
    refine h_iload_w C dX9_gotReply_53 rfl ?_
    refine h_iload_w C dX9_gotReply_55 rfl ?_
    refine h_callV3 (ci := 9) C (k_X9_keyN Z.l Z.G (Q 0) e b (cl (f 1)) _ _ _ rfl he rfl hb hF1 (cl_lt _) _) cw_X9_150 im_X9_keyOf sl_X9_keyOf rfl (by decide) hM.kX dX9_gotReply_57 (by first | decide | exact Nat.le_of_ble_eq_true rfl) (by decide) (by decide) (by decide) (by decide) (kI fun r1 μ2 hp2 => ?_) kN
    obtain ⟨rfl, hNw9⟩ := hp2
    have hT := hT.nw hNw9
    have hM := hT.1
    have hLqa := hLqa.nw hNw9
    have hR_z := hR_z.nw (by first | decide | (unfold KSE; omega) | (unfold KSE KTMP; omega)) hNw9
    refine h_iast C dX9_gotReply_60 hLqa.k (inb hLqa.2.1 (vp_in_nI (n := 1) (by decide) (by decide))) ?_
    refine h_abs (fun m3 em3 => ?_)
    rw [show Int32.toNatClampNeg 1 = 1 from rfl] at em3
    have hR_z := hR_z.tmp hLqa (by first | decide | (unfold KSE; omega) | (unfold KSE KTMP; omega)) em3
    have hT := hT.tmp hLqa hwqa em3
    have hM := hT.1
    have hLqa := hLqa.push em3 rfl
    refine h_dup C dX9_gotReply_61 rfl ?_
    refine h_iconst (v := 2) C dX9_gotReply_62 (by decide) ?_
    refine h_iload_w C dX9_gotReply_63 rfl ?_
    refine h_iload_w C dX9_gotReply_65 rfl ?_
    refine h_callS2 C (k_X9_both Z.l Z.G _ _ (cl (f 1)) (cl (g 5)) hF1 (cl_lt _) hY (cl_lt _) _) cw_X9_135 st_X9_both dX9_gotReply_67 (by first | decide | exact Nat.le_of_ble_eq_true rfl) (by decide) (by decide) (by decide) (by decide) (kI fun r2 μ3 hp3 => ?_) kN
    obtain ⟨rfl, rfl⟩ := hp3
    refine h_iast C dX9_gotReply_70 hLqa.k (inb hLqa.2.1 (vp_in_nI (n := 2) (by decide) (by decide))) ?_
    refine h_abs (fun m4 em4 => ?_)
    rw [show Int32.toNatClampNeg 2 = 2 from rfl] at em4
    have hR_z := hR_z.tmp hLqa (by first | decide | (unfold KSE; omega) | (unfold KSE KTMP; omega)) em4
    have hT := hT.tmp hLqa hwqa em4
    have hM := hT.1
    have hLqa := hLqa.push em4 rfl
    refine h_dup C dX9_gotReply_71 rfl ?_
    refine h_iconst (v := 3) C dX9_gotReply_72 (by decide) ?_
    refine h_iload_g C dX9_gotReply_73 rfl rfl ?_
    refine h_callS1 C (k_X9_secretOf Z.l Z.G _ _) cw_X9_118 st_X9_secretOf dX9_gotReply_74 (by first | decide | exact Nat.le_of_ble_eq_true rfl) (by decide) (by decide) (by decide) (by decide) (kI fun r3 μ4 hp4 => ?_) kN
    obtain ⟨rfl, rfl⟩ := hp4
    rw [show (211 + 307 * nI e : Int32) = nI (211 + 307 * e) from by rw [show (307 : Int32) = nI 307 from rfl, pk_mul, show (211 : Int32) = nI 211 from rfl, nI_add]]
    refine h_iload_w C dX9_gotReply_77 rfl ?_
    refine h_callS2 C (k_X9_both Z.l Z.G _ _ (211 + 307 * e) (cl (g 5)) rfl h211 hY (cl_lt _) _) cw_X9_135 st_X9_both dX9_gotReply_79 (by first | decide | exact Nat.le_of_ble_eq_true rfl) (by decide) (by decide) (by decide) (by decide) (kI fun r4 μ5 hp5 => ?_) kN
    obtain ⟨rfl, rfl⟩ := hp5
    refine h_iast C dX9_gotReply_82 hLqa.k (inb hLqa.2.1 (vp_in_nI (n := 3) (by decide) (by decide))) ?_
    refine h_abs (fun m5 em5 => ?_)
    rw [show Int32.toNatClampNeg 3 = 3 from rfl] at em5
    have hR_z := hR_z.tmp hLqa (by first | decide | (unfold KSE; omega) | (unfold KSE KTMP; omega)) em5
    have hT := hT.tmp hLqa hwqa em5
    have hM := hT.1
    have hLqa := hLqa.push em5 rfl
    refine h_callS1 C (k_X9_mix Z.l Z.G qa [4, nI (HKY e b (cl (f 1))), nI (PW (cl (g 5)) (cl (f 1))), nI (PW (cl (g 5)) (211 + 307 * e))] _ hLqa.k hLqa.2.1 hLqa.2.2 (Nat.le_of_ble_eq_true rfl)) cw_X9_138 st_X9_mix dX9_gotReply_83 (by first | decide | exact Nat.le_of_ble_eq_true rfl) (by decide) (by decide) (by decide) (by decide) (kI fun r5 μ6 hp6 => ?_) kN
    obtain ⟨rfl, rfl⟩ := hp6
    rw [show nI (MIX ([4, nI (HKY e b (cl (f 1))), nI (PW (cl (g 5)) (cl (f 1))), nI (PW (cl (g 5)) (211 + 307 * e))].map Int32.toInt)) = nI (TRK e b f g) from mix4 (lt31 (MIX_lt _) (by decide)) (lt31 (PW_lt _ _) (by decide)) (lt31 (PW_lt _ _) (by decide))]
    refine h_ist_8 C dX9_gotReply_86 ct_i ?_
    refine h_al_g C dX9_gotReply_88 rfl rfl rfv_r ?_
    refine h_bipush (v := 6) C dX9_gotReply_89 (by decide) ?_
    refine h_iald C dX9_gotReply_91 (by rw [hR_z.1]; first | decide | exact KSE_m _ _ _) (inb hR_z.2.1 (vp_in_nI (n := 6) (by decide) (by decide))) (hR_z.2.2 6 (by decide)) ?_
    refine h_iload_w C dX9_gotReply_92 rfl ?_
    refine h_iconst (v := 4) C dX9_gotReply_94 (by decide) ?_
    refine h_newarr (atype := .int) (N := 4) (11 + 32 * 100) C ac_11 (by decide) (Or.inl (by decide)) dX9_gotReply_95 (by decide) (by decide) (by decide) (by first | decide | omega) (by first | decide | omega) (fun qb hqb => ?_)
    refine h_abs (fun m6 em6 => ?_)
    have hLqb := NL.new em6
    have hR_z := hR_z.newA (by first | decide | (unfold KSE; omega) | (unfold KSE KTMP; omega)) hqb em6
    have hwqb := hT.fresh hqb
    have hT := hT.newT hqb em6
    have hM := hT.1
    refine h_dup C dX9_gotReply_97 rfl ?_
    refine h_iconst (v := 0) C dX9_gotReply_98 (by decide) ?_
    refine h_iconst (v := 2) C dX9_gotReply_99 (by decide) ?_
    refine h_iast C dX9_gotReply_100 hLqb.k (inb hLqb.2.1 (vp_in_nI (n := 0) (by decide) (by decide))) ?_
    refine h_abs (fun m7 em7 => ?_)
    rw [show Int32.toNatClampNeg 0 = 0 from rfl] at em7
    have hR_z := hR_z.tmp hLqb (by first | decide | (unfold KSE; omega) | (unfold KSE KTMP; omega)) em7
    have hT := hT.tmp hLqb hwqb em7
    have hM := hT.1
    have hLqb := hLqb.push em7 rfl
    refine h_dup C dX9_gotReply_101 rfl ?_
    refine h_iconst (v := 1) C dX9_gotReply_102 (by decide) ?_
    refine h_iload_g C dX9_gotReply_103 rfl rfl ?_
    refine h_iast C dX9_gotReply_104 hLqb.k (inb hLqb.2.1 (vp_in_nI (n := 1) (by decide) (by decide))) ?_
    refine h_abs (fun m8 em8 => ?_)
    rw [show Int32.toNatClampNeg 1 = 1 from rfl] at em8
    have hR_z := hR_z.tmp hLqb (by first | decide | (unfold KSE; omega) | (unfold KSE KTMP; omega)) em8
    have hT := hT.tmp hLqb hwqb em8
    have hM := hT.1
    have hLqb := hLqb.push em8 rfl
    refine h_dup C dX9_gotReply_105 rfl ?_
    refine h_iconst (v := 2) C dX9_gotReply_106 (by decide) ?_
    refine h_iload_w C dX9_gotReply_107 rfl ?_
    refine h_iast C dX9_gotReply_109 hLqb.k (inb hLqb.2.1 (vp_in_nI (n := 2) (by decide) (by decide))) ?_
    refine h_abs (fun m9 em9 => ?_)
    rw [show Int32.toNatClampNeg 2 = 2 from rfl] at em9
    have hR_z := hR_z.tmp hLqb (by first | decide | (unfold KSE; omega) | (unfold KSE KTMP; omega)) em9
    have hT := hT.tmp hLqb hwqb em9
    have hM := hT.1
    have hLqb := hLqb.push em9 rfl
    refine h_dup C dX9_gotReply_110 rfl ?_
    refine h_iconst (v := 3) C dX9_gotReply_111 (by decide) ?_
    refine h_iload_w C dX9_gotReply_112 rfl ?_
    refine h_iast C dX9_gotReply_114 hLqb.k (inb hLqb.2.1 (vp_in_nI (n := 3) (by decide) (by decide))) ?_
    refine h_abs (fun m10 em10 => ?_)
    rw [show Int32.toNatClampNeg 3 = 3 from rfl] at em10
    have hR_z := hR_z.tmp hLqb (by first | decide | (unfold KSE; omega) | (unfold KSE KTMP; omega)) em10
    have hT := hT.tmp hLqb hwqb em10
    have hM := hT.1
    have hLqb := hLqb.push em10 rfl
    refine h_callS2 C (k_X9_sealOf Z.l Z.G _ (TRK e b f g) qb [2, g 3, g 4, g 5] _ rfl (MIX_lt _) hLqb.k hLqb.2.1 hLqb.2.2 (Nat.le_of_ble_eq_true rfl)) cw_X9_154 st_X9_sealOf dX9_gotReply_115 (by first | decide | exact Nat.le_of_ble_eq_true rfl) (by decide) (by decide) (by decide) (by decide) (kI fun r6 μ7 hp7 => ?_) kN
    obtain ⟨rfl, rfl⟩ := hp7
    rw [sgS_N]
    refine h_icmp_eq (tgt := 124) C dX9_gotReply_118 (by decide) (fun cB => ?_) (fun cB => ?_)
    · have hB : TAGR g = SEALR (TRK e b f g) g := by rw [hTG, hSR]; exact cB
      refine h_al_g C dX9_gotReply_124 rfl rfl rfv_r ?_
      refine gs_X9_46 C dX9_gotReply_125 hM.kX (hM.fA (i := 10) (by decide)) ?_
      refine h_iload_g C dX9_gotReply_128 rfl rfl ?_
      refine h_aald (r := some _) C dX9_gotReply_129 (hM.kr (by decide)) (inb (hM.ln3 (by decide)) (vp_in_nI he (by decide))) (atI (cl_of (n := e) (by have h9 := he; omega)) (hM.tb (t := 3) (by decide) he)) ?_
      refine h_iload_w C dX9_gotReply_130 rfl ?_
      refine h_iconst (v := (-1)) C dX9_gotReply_132 (by decide) ?_
      refine h_iast C dX9_gotReply_133 (hM.k11 (by have h0_ := he; omega)) (inb (hM.ln3 (by have h0_ := he; omega)) (vp_in_nI hb (by decide))) ?_
      refine h_abs (fun m11 em11 => ?_)
      rw [show (nI b).toNatClampNeg = b from (cl_of (n := b) (by have h9 := hb; omega))] at em11
      have hR_z := hR_z.wQ hM (by first | decide | (unfold KSE; omega) | (unfold KSE KTMP; omega)) (j := 21 + 3 * 3 + e) (by have h0_ := he; omega) em11
      have hT := hT.sei (j := 21 + 3 * 3 + e) (by have h0_ := he; omega) (Or.inr trivial) em11 (hT.1.wT3n he hb em11)
      have hM := hT.1
      refine h_al_g C dX9_gotReply_134 rfl rfl rfv_r ?_
      refine gs_X9_37 C dX9_gotReply_135 hM.kX (hM.fA (i := 7) (by decide)) ?_
      refine h_iload_g C dX9_gotReply_138 rfl rfl ?_
      refine h_aald (r := some _) C dX9_gotReply_139 (hM.kr (by decide)) (inb (hM.ln3 (by decide)) (vp_in_nI he (by decide))) (atI (cl_of (n := e) (by have h9 := he; omega)) (hM.tb (t := 0) (by decide) he)) ?_
      refine h_iload_w C dX9_gotReply_140 rfl ?_
      refine h_al_g C dX9_gotReply_142 rfl rfl rfv_r ?_
      refine h_iconst (v := 0) C dX9_gotReply_143 (by decide) ?_
      refine h_iald C dX9_gotReply_144 (by rw [hR_z.1]; first | decide | exact KSE_m _ _ _) (inb hR_z.2.1 (vp_in_nI (n := 0) (by decide) (by decide))) (hR_z.2.2 0 (by decide)) ?_
      refine h_iast C dX9_gotReply_145 (hM.k11 (by have h0_ := he; omega)) (inb (hM.ln3 (by have h0_ := he; omega)) (vp_in_nI hb (by decide))) ?_
      refine h_abs (fun m12 em12 => ?_)
      rw [show (nI b).toNatClampNeg = b from (cl_of (n := b) (by have h9 := hb; omega))] at em12
      have hR_z := hR_z.wQ hM (by first | decide | (unfold KSE; omega) | (unfold KSE KTMP; omega)) (j := 21 + 3 * 0 + e) (by have h0_ := he; omega) em12
      have hT := hT.sei (j := 21 + 3 * 0 + e) (by have h0_ := he; omega) (Or.inr trivial) em12 (hT.1.wT0 he hb em12)
      have hM := hT.1
      refine h_al_g C dX9_gotReply_146 rfl rfl rfv_r ?_
      refine h_iload_g C dX9_gotReply_147 rfl rfl ?_
      refine h_iload_w C dX9_gotReply_148 rfl ?_
      refine h_callV2 (ci := 9) C (k_X9_turnOver Z.l Z.G Q _ _ _ hM e he _ rfl b hb _ rfl (fun z => z) (fun z => z)) cw_X9_187 im_X9_turnOver sl_X9_turnOver rfl (by decide) hM.kX dX9_gotReply_150 (by first | decide | exact Nat.le_of_ble_eq_true rfl) (by decide) (by decide) (by decide) (by decide) (kV fun μ8 hp8 => ?_) kN
      have hTo9 := hp8
      have hT := hT.tr hTo9 (fun _ _ => trivial)
      have hM := hT.1
      refine h_al_g C dX9_gotReply_153 rfl rfl rfv_r ?_
      refine h_iload_g C dX9_gotReply_154 rfl rfl ?_
      refine h_iload_w C dX9_gotReply_155 rfl ?_
      refine h_iconst (v := 1) C dX9_gotReply_157 (by decide) ?_
      refine h_iload_w C dX9_gotReply_158 rfl ?_
      refine h_iload_g C dX9_gotReply_160 rfl rfl ?_
      refine h_iconst (v := 3) C dX9_gotReply_161 (by decide) ?_
      refine h_newarr (atype := .int) (N := 3) (11 + 32 * 100) C ac_11 (by decide) (Or.inl (by decide)) dX9_gotReply_162 (by decide) (by decide) (by decide) (by first | decide | omega) (by first | decide | omega) (fun qc hqc => ?_)
      refine h_abs (fun m13 em13 => ?_)
      have hLqc := NL.new em13
      have hwqc := hT.fresh hqc
      have hT := hT.newT hqc em13
      have hM := hT.1
      refine h_dup C dX9_gotReply_164 rfl ?_
      refine h_iconst (v := 0) C dX9_gotReply_165 (by decide) ?_
      refine h_iconst (v := 5) C dX9_gotReply_166 (by decide) ?_
      refine h_iast C dX9_gotReply_167 hLqc.k (inb hLqc.2.1 (vp_in_nI (n := 0) (by decide) (by decide))) ?_
      refine h_abs (fun m14 em14 => ?_)
      rw [show Int32.toNatClampNeg 0 = 0 from rfl] at em14
      have hT := hT.tmp hLqc hwqc em14
      have hM := hT.1
      have hLqc := hLqc.push em14 rfl
      refine h_dup C dX9_gotReply_168 rfl ?_
      refine h_iconst (v := 1) C dX9_gotReply_169 (by decide) ?_
      refine h_iload_w C dX9_gotReply_170 rfl ?_
      refine h_iast C dX9_gotReply_172 hLqc.k (inb hLqc.2.1 (vp_in_nI (n := 1) (by decide) (by decide))) ?_
      refine h_abs (fun m15 em15 => ?_)
      rw [show Int32.toNatClampNeg 1 = 1 from rfl] at em15
      have hT := hT.tmp hLqc hwqc em15
      have hM := hT.1
      have hLqc := hLqc.push em15 rfl
      refine h_dup C dX9_gotReply_173 rfl ?_
      refine h_iconst (v := 2) C dX9_gotReply_174 (by decide) ?_
      refine h_iconst (v := 0) C dX9_gotReply_175 (by decide) ?_
      refine h_iast C dX9_gotReply_176 hLqc.k (inb hLqc.2.1 (vp_in_nI (n := 2) (by decide) (by decide))) ?_
      refine h_abs (fun m16 em16 => ?_)
      rw [show Int32.toNatClampNeg 2 = 2 from rfl] at em16
      have hT := hT.tmp hLqc hwqc em16
      have hM := hT.1
      have hLqc := hLqc.push em16 rfl
      refine h_callS1 C (k_X9_mix Z.l Z.G qc [5, nI (TRK e b f g), 0] _ hLqc.k hLqc.2.1 hLqc.2.2 (Nat.le_of_ble_eq_true rfl)) cw_X9_138 st_X9_mix dX9_gotReply_177 (by first | decide | exact Nat.le_of_ble_eq_true rfl) (by decide) (by decide) (by decide) (by decide) (kI fun r8 μ9 hp9 => ?_) kN
      obtain ⟨rfl, rfl⟩ := hp9
      rw [show nI (MIX ([5, nI (TRK e b f g), 0].map Int32.toInt)) = nI (MIX [5, (TRK e b f g : Int), 0]) from mix3k (lt31 (MIX_lt _) (by decide))]
      refine h_iconst (v := 3) C dX9_gotReply_180 (by decide) ?_
      refine h_newarr (atype := .int) (N := 3) (11 + 32 * 100) C ac_11 (by decide) (Or.inl (by decide)) dX9_gotReply_181 (by decide) (by decide) (by decide) (by first | decide | omega) (by first | decide | omega) (fun qd hqd => ?_)
      refine h_abs (fun m17 em17 => ?_)
      have hLqd := NL.new em17
      have hwqd := hT.fresh hqd
      have hT := hT.newT hqd em17
      have hM := hT.1
      refine h_dup C dX9_gotReply_183 rfl ?_
      refine h_iconst (v := 0) C dX9_gotReply_184 (by decide) ?_
      refine h_iconst (v := 5) C dX9_gotReply_185 (by decide) ?_
      refine h_iast C dX9_gotReply_186 hLqd.k (inb hLqd.2.1 (vp_in_nI (n := 0) (by decide) (by decide))) ?_
      refine h_abs (fun m18 em18 => ?_)
      rw [show Int32.toNatClampNeg 0 = 0 from rfl] at em18
      have hT := hT.tmp hLqd hwqd em18
      have hM := hT.1
      have hLqd := hLqd.push em18 rfl
      refine h_dup C dX9_gotReply_187 rfl ?_
      refine h_iconst (v := 1) C dX9_gotReply_188 (by decide) ?_
      refine h_iload_w C dX9_gotReply_189 rfl ?_
      refine h_iast C dX9_gotReply_191 hLqd.k (inb hLqd.2.1 (vp_in_nI (n := 1) (by decide) (by decide))) ?_
      refine h_abs (fun m19 em19 => ?_)
      rw [show Int32.toNatClampNeg 1 = 1 from rfl] at em19
      have hT := hT.tmp hLqd hwqd em19
      have hM := hT.1
      have hLqd := hLqd.push em19 rfl
      refine h_dup C dX9_gotReply_192 rfl ?_
      refine h_iconst (v := 2) C dX9_gotReply_193 (by decide) ?_
      refine h_iconst (v := 1) C dX9_gotReply_194 (by decide) ?_
      refine h_iast C dX9_gotReply_195 hLqd.k (inb hLqd.2.1 (vp_in_nI (n := 2) (by decide) (by decide))) ?_
      refine h_abs (fun m20 em20 => ?_)
      rw [show Int32.toNatClampNeg 2 = 2 from rfl] at em20
      have hT := hT.tmp hLqd hwqd em20
      have hM := hT.1
      have hLqd := hLqd.push em20 rfl
      refine h_callS1 C (k_X9_mix Z.l Z.G qd [5, nI (TRK e b f g), 1] _ hLqd.k hLqd.2.1 hLqd.2.2 (Nat.le_of_ble_eq_true rfl)) cw_X9_138 st_X9_mix dX9_gotReply_196 (by first | decide | exact Nat.le_of_ble_eq_true rfl) (by decide) (by decide) (by decide) (by decide) (kI fun r9 μ10 hp10 => ?_) kN
      obtain ⟨rfl, rfl⟩ := hp10
      rw [show nI (MIX ([5, nI (TRK e b f g), 1].map Int32.toInt)) = nI (MIX [5, (TRK e b f g : Int), 1]) from mix3k (lt31 (MIX_lt _) (by decide))]
      refine h_iconst (v := 1) C dX9_gotReply_199 (by decide) ?_
      refine h_callV8 (ci := 9) C (k_X9_make Z.l Z.G Q _ _ _ hM e he _ rfl b hb _ rfl 1 (by decide) 1 rfl (g 4) (g 3) _ _ 1 hn) cw_X9_180 im_X9_make sl_X9_make rfl (by decide) hM.kX dX9_gotReply_200 (by first | decide | exact Nat.le_of_ble_eq_true rfl) (by decide) (by decide) (by decide) (by decide) (kV fun μ11 hp11 => ?_) kN
      have hMk := hp11
      have hT := (hT.tr hMk (fun _ _ => trivial)).lxTo
      rw [← hf0] at hT
      have hT : MTo Q WAll μ (TRB S e b f g) (LXo (TRB S e b f g) t) μ11 := hT
      have hM := hT.1
      have hrs : (TRB S e b f g).ses e b 1 = some (TRSes S e b f g) := w3_eq
      have hk9 : (TRSes S e b f g).1 3 = nI (cl ((TRSes S e b f g).1 3)) ∧ cl ((TRSes S e b f g).1 3) < 65521 := by
        show nI (MIX [5, (TRK e b f g : Int), 0]) = nI (cl (nI (MIX [5, (TRK e b f g : Int), 0]))) ∧ cl (nI (MIX [5, (TRK e b f g : Int), 0])) < 65521
        rw [cl_of (lt31 (MIX_lt _) (by decide))]
        exact ⟨rfl, MIX_lt _⟩
      have hoK : okKm (TRB S e b f g) e b := fun r9 h9 => by
        rw [hrs] at h9
        cases h9
        exact hk9
      refine h_al_g C dX9_gotReply_203 rfl rfl rfv_r ?_
      refine gs_X9_64 C dX9_gotReply_204 hM.kX (hM.fA (i := 16) (by decide)) ?_
      refine h_iload_g C dX9_gotReply_207 rfl rfl ?_
      refine h_aald (r := some _) C dX9_gotReply_208 (hM.kr (by decide)) (inb (hM.ln3 (by decide)) (vp_in_nI he (by decide))) (atI (cl_of (n := e) (by have h9 := he; omega)) (hM.tb (t := 9) (by decide) he)) ?_
      refine h_iload_w C dX9_gotReply_209 rfl ?_
      refine h_iald C dX9_gotReply_211 (hM.k11 (by have h0_ := he; omega)) (inb (hM.ln3 (by have h0_ := he; omega)) (vp_in_nI hb (by decide))) (atI (cl_of (n := b) (by have h9 := hb; omega)) (hM.t9 he hb)) ?_
      have hwl : nI ((LXo (TRB S e b f g) t).wl e b) = nI (S.wt e b).length := rfl
      have hw4 := (hM.wt he hb).1
      refine h_if_ne (tgt := 228) C dX9_gotReply_212 (by decide) (fun cW => ?_) (fun cW => ?_)
      · have hW : ¬ (S.wt e b).length = 0 := fun z => cW (by rw [hwl, z]; rfl)
        refine h_al_g C dX9_gotReply_228 rfl rfl rfv_r ?_
        refine h_iload_g C dX9_gotReply_229 rfl rfl ?_
        refine h_iload_w C dX9_gotReply_230 rfl ?_
        refine h_callV2 (ci := 9) C (k_X9_sendWaiting Z.l Z.G Q _ t _ hM e he _ rfl b hb _ rfl hoK) cw_X9_191 im_X9_sendWaiting sl_X9_sendWaiting rfl (by decide) hM.kX dX9_gotReply_232 (by first | decide | exact Nat.le_of_ble_eq_true rfl) (by decide) (by decide) (by decide) (by decide) (kV fun μ12 hp12 => ?_) kN
        have hSw := hp12
        have hT := hT.tr hSw (fun _ _ => trivial)
        have hM := hT.1
        refine h_iconst (v := 3) C dX9_gotReply_235 (by decide) ?_
        refine h_iret C E dX9_gotReply_236 (by decide) (by decide) ?_
        exact ⟨_, rfl, _, Or.inr ⟨b, f, hFW, hfl, Or.inr ⟨hB, rfl, rfl⟩⟩, by rw [show TRS S e b f g = SWT e b (S.wt e b).length (TRB S e b f g) from if_neg hW]; exact hT⟩
      · have hW : (S.wt e b).length = 0 := (nI_eq (a := (S.wt e b).length) (b := 0) (by have h9 : (S.wt e b).length ≤ 4 := hw4; omega) (by decide)).mp cW
        refine h_al_g C dX9_gotReply_215 rfl rfl rfv_r ?_
        refine h_iload_g C dX9_gotReply_216 rfl rfl ?_
        refine h_iload_w C dX9_gotReply_217 rfl ?_
        refine h_iconst (v := (-1)) C dX9_gotReply_219 (by decide) ?_
        refine h_iconst (v := (-1)) C dX9_gotReply_220 (by decide) ?_
        refine h_iconst (v := (-1)) C dX9_gotReply_221 (by decide) ?_
        refine h_callV5 (ci := 9) C (k_X9_data Z.l Z.G Q _ t _ hM e he _ rfl b hb _ rfl (-1) (-1) (-1) (TRSes S e b f g) hrs hk9.1 hk9.2) cw_X9_176 im_X9_data sl_X9_data rfl (by decide) hM.kX dX9_gotReply_222 (by first | decide | exact Nat.le_of_ble_eq_true rfl) (by decide) (by decide) (by decide) (by decide) (kV fun μ13 hp13 => ?_) kN
        have hDa := hp13
        have hT := hT.tr hDa (fun _ _ => trivial)
        have hM := hT.1
        refine h_goto (tgt := 235) C dX9_gotReply_225 (by decide) ?_
        refine h_iconst (v := 3) C dX9_gotReply_235 (by decide) ?_
        refine h_iret C E dX9_gotReply_236 (by decide) (by decide) ?_
        exact ⟨_, rfl, _, Or.inr ⟨b, f, hFW, hfl, Or.inr ⟨hB, rfl, rfl⟩⟩, by rw [show TRS S e b f g = DATS (TRB S e b f g) e b (TRSes S e b f g) (-1) (-1) (-1) from if_pos hW]; exact hT⟩
    · have hB : ¬ TAGR g = SEALR (TRK e b f g) g := fun z => cB (by rw [hTG, hSR] at z; exact z)
      refine h_bipush (v := (-2)) C dX9_gotReply_121 (by decide) ?_
      refine h_iret C E dX9_gotReply_123 (by decide) (by decide) ?_
      exact ⟨_, rfl, S, Or.inr ⟨b, f, hFW, hfl, Or.inl ⟨hB, rfl, rfl⟩⟩, hT⟩
  · have hno : ∀ b, b < 3 → ¬ fIs S e b (g 4) := hIF.elim (fun z => z.2) (fun ⟨b, h1, h2⟩ => by
      have h3 : (nI b).toInt = -1 := by rw [← h1, cI]; rfl
      rw [nI_toInt (by have := h2.1; omega)] at h3
      omega)
    refine h_iconst (v := (-1)) C dX9_gotReply_29 (by decide) ?_
    refine h_iret C E dX9_gotReply_30 (by decide) (by decide) ?_
    exact ⟨_, rfl, S, Or.inl ⟨hno, rfl, rfl⟩, hT⟩

set_option maxRecDepth 100000 in
set_option maxHeartbeats 1000000 in
theorem k_X9_gotCookie (l : Launch) (G : Gx) (Q : Nat → Nat) (S : Sx) (t : Int32) (μ : Mem) (hM : MRq Q S (LXo S t) μ) (e : Nat) (he : e < 3) (xe : Int32) (hxe : xe = nI e) (z : Nat) (g : Row) (hR_z : RowAt μ KLR z 16 g) (hk3 : g 2 = 3) (hn : 0 < (g 3).toInt) (hself : S.fl e e = none) (hoF : ∀ b f, b < 3 → S.fl e b = some f → f 1 = nI (cl (f 1))) : Kon l yX9_gotCookie cX9_gotCookie 6 (some .int) 3 2 6 66 G [.ref (Q 0), .int xe, .ref z] μ (pI fun v μ' => ∃ S9, TCc S e g v S9 ∧ MTo Q WAll μ S9 (LXo S9 t) μ') noX := by
  refine Kon.ofG (by decide +kernel) (Nat.le_of_ble_eq_true rfl) (Nat.le_of_ble_eq_true rfl) (fun Z hZG C E NT MT => ?_)
  subst hZG
  have C : Cx Z RX9 cX9_gotCookie 3 2 6 66 := C
  show HW Z 0 0 0 [some (.ref (Q 0)), some (.int xe), some (.ref z), none, none, none] [] μ
  subst hxe
  have hM0 := hM
  have hT : MTo Q WAll μ S (LXo S t) μ := MTo.rf hM
  have h211 : 211 + 307 * e < 2 ^ 31 := by omega
  have hnm : ∀ b, NAME b < 2 ^ 31 := fun b => lt31 (NAME_lt b) (by decide)
  have hn1 : ¬ g 3 = -1 := fun z => by rw [z] at hn; exact absurd hn (by decide)
  have hTG : TAGR g = g 5 := by unfold TAGR; rw [hk3]; rfl
  have hSR : ∀ K, SEALR K g = SEALN K 3 [g 3, g 4] := fun K => SEALR_N hk3 rfl (fun i hi => by
    have h9 : i = 0 ∨ i = 1 := by have : i < 2 := hi; omega
    rcases h9 with rfl | rfl <;> rfl)
  refine h_al_g C dX9_gotCookie_0 rfl rfl rfv_r ?_
  refine h_iconst (v := 3) C dX9_gotCookie_1 (by decide) ?_
  refine h_iald C dX9_gotCookie_2 (by rw [hR_z.1]; first | decide | exact KSE_m _ _ _) (inb hR_z.2.1 (vp_in_nI (n := 3) (by decide) (by decide))) (hR_z.2.2 3 (by decide)) ?_
  refine h_ist_3 C dX9_gotCookie_3 ct_r ?_
  refine h_al_g C dX9_gotCookie_4 rfl rfl rfv_r ?_
  refine h_iconst (v := 4) C dX9_gotCookie_5 (by decide) ?_
  refine h_iald C dX9_gotCookie_6 (by rw [hR_z.1]; first | decide | exact KSE_m _ _ _) (inb hR_z.2.1 (vp_in_nI (n := 4) (by decide) (by decide))) (hR_z.2.2 4 (by decide)) ?_
  refine h_ist_4 C dX9_gotCookie_7 ct_i ?_
  refine h_al_g C dX9_gotCookie_9 rfl rfl rfv_r ?_
  refine h_iload_g C dX9_gotCookie_10 rfl rfl ?_
  refine h_iload_g C dX9_gotCookie_11 rfl rfl ?_
  refine h_callV2 (ci := 9) C (k_X9_inFlight Z.l Z.G Q S t _ hM e he _ rfl (g 3) hn1 hself) cw_X9_184 im_X9_inFlight sl_X9_inFlight rfl (by decide) hM.kX dX9_gotCookie_12 (by first | decide | exact Nat.le_of_ble_eq_true rfl) (by decide) (by decide) (by decide) (by decide) (kI fun rb μ1 hp1 => ?_) kN
  obtain ⟨rfl, hIF⟩ := hp1
  refine h_ist_5 C dX9_gotCookie_15 ct_i ?_
  refine h_iload_w C dX9_gotCookie_17 rfl ?_
  refine h_iconst (v := (-1)) C dX9_gotCookie_19 (by decide) ?_
  refine h_icmp_ne (tgt := 25) C dX9_gotCookie_20 (by decide) (fun cI => ?_) (fun cI => ?_)
  · obtain ⟨b, rfl, hFW⟩ := hIF.resolve_left (fun z => cI z.1)
    have hb : b < 3 := hFW.1
    obtain ⟨f, hfl, hf0⟩ := FWN.r hFW
    refine h_al_g C dX9_gotCookie_25 rfl rfl rfv_r ?_
    refine h_iconst (v := 5) C dX9_gotCookie_26 (by decide) ?_
    refine h_iald C dX9_gotCookie_27 (by rw [hR_z.1]; first | decide | exact KSE_m _ _ _) (inb hR_z.2.1 (vp_in_nI (n := 5) (by decide) (by decide))) (hR_z.2.2 5 (by decide)) ?_
    refine h_iconst (v := 3) C dX9_gotCookie_28 (by decide) ?_
    refine h_newarr (atype := .int) (N := 3) (11 + 32 * 100) C ac_11 (by decide) (Or.inl (by decide)) dX9_gotCookie_29 (by decide) (by decide) (by decide) (by first | decide | omega) (by first | decide | omega) (fun qa hqa => ?_)
    refine h_abs (fun m1 em1 => ?_)
    have hLqa := NL.new em1
    have hR_z := hR_z.newA (by first | decide | (unfold KSE; omega) | (unfold KSE KTMP; omega)) hqa em1
    have hwqa := hT.fresh hqa
    have hT := hT.newT hqa em1
    have hM := hT.1
    refine h_dup C dX9_gotCookie_31 rfl ?_
    refine h_iconst (v := 0) C dX9_gotCookie_32 (by decide) ?_
    refine h_iconst (v := 3) C dX9_gotCookie_33 (by decide) ?_
    refine h_iast C dX9_gotCookie_34 hLqa.k (inb hLqa.2.1 (vp_in_nI (n := 0) (by decide) (by decide))) ?_
    refine h_abs (fun m2 em2 => ?_)
    rw [show Int32.toNatClampNeg 0 = 0 from rfl] at em2
    have hR_z := hR_z.tmp hLqa (by first | decide | (unfold KSE; omega) | (unfold KSE KTMP; omega)) em2
    have hT := hT.tmp hLqa hwqa em2
    have hM := hT.1
    have hLqa := hLqa.push em2 rfl
    refine h_dup C dX9_gotCookie_35 rfl ?_
    refine h_iconst (v := 1) C dX9_gotCookie_36 (by decide) ?_
    refine h_iload_w C dX9_gotCookie_37 rfl ?_
    refine h_callS1 C (k_X9_nameOf Z.l Z.G _ b rfl (by omega) _) cw_X9_132 st_X9_nameOf dX9_gotCookie_39 (by first | decide | exact Nat.le_of_ble_eq_true rfl) (by decide) (by decide) (by decide) (by decide) (kI fun r1 μ2 hp2 => ?_) kN
    obtain ⟨rfl, rfl⟩ := hp2
    refine h_iast C dX9_gotCookie_42 hLqa.k (inb hLqa.2.1 (vp_in_nI (n := 1) (by decide) (by decide))) ?_
    refine h_abs (fun m3 em3 => ?_)
    rw [show Int32.toNatClampNeg 1 = 1 from rfl] at em3
    have hR_z := hR_z.tmp hLqa (by first | decide | (unfold KSE; omega) | (unfold KSE KTMP; omega)) em3
    have hT := hT.tmp hLqa hwqa em3
    have hM := hT.1
    have hLqa := hLqa.push em3 rfl
    refine h_dup C dX9_gotCookie_43 rfl ?_
    refine h_iconst (v := 2) C dX9_gotCookie_44 (by decide) ?_
    refine h_al_g C dX9_gotCookie_45 rfl rfl rfv_r ?_
    refine gs_X9_52 C dX9_gotCookie_46 hM.kX (hM.fA (i := 12) (by decide)) ?_
    refine h_iload_g C dX9_gotCookie_49 rfl rfl ?_
    refine h_aald (r := some _) C dX9_gotCookie_50 (hM.kr (by decide)) (inb (hM.ln3 (by decide)) (vp_in_nI he (by decide))) (atI (cl_of (n := e) (by have h9 := he; omega)) (hM.tb (t := 5) (by decide) he)) ?_
    refine h_iload_w C dX9_gotCookie_51 rfl ?_
    refine h_iald C dX9_gotCookie_53 (hM.k11 (by have h0_ := he; omega)) (inb (hM.ln3 (by have h0_ := he; omega)) (vp_in_nI hb (by decide))) (atI (cl_of (n := b) (by have h9 := hb; omega)) (hM.t5 he hb hfl)) ?_
    refine h_iast C dX9_gotCookie_54 hLqa.k (inb hLqa.2.1 (vp_in_nI (n := 2) (by decide) (by decide))) ?_
    refine h_abs (fun m4 em4 => ?_)
    rw [show Int32.toNatClampNeg 2 = 2 from rfl] at em4
    have hR_z := hR_z.tmp hLqa (by first | decide | (unfold KSE; omega) | (unfold KSE KTMP; omega)) em4
    have hT := hT.tmp hLqa hwqa em4
    have hM := hT.1
    have hLqa := hLqa.push em4 rfl
    refine h_callS1 C (k_X9_mix Z.l Z.G qa [3, nI (NAME b), f 2] _ hLqa.k hLqa.2.1 hLqa.2.2 (Nat.le_of_ble_eq_true rfl)) cw_X9_138 st_X9_mix dX9_gotCookie_55 (by first | decide | exact Nat.le_of_ble_eq_true rfl) (by decide) (by decide) (by decide) (by decide) (kI fun r2 μ3 hp3 => ?_) kN
    obtain ⟨rfl, rfl⟩ := hp3
    rw [show nI (MIX ([3, nI (NAME b), f 2].map Int32.toInt)) = nI (TCK b f) from mix3k (hnm b)]
    refine h_iconst (v := 3) C dX9_gotCookie_58 (by decide) ?_
    refine h_newarr (atype := .int) (N := 3) (11 + 32 * 100) C ac_11 (by decide) (Or.inl (by decide)) dX9_gotCookie_59 (by decide) (by decide) (by decide) (by first | decide | omega) (by first | decide | omega) (fun qb hqb => ?_)
    refine h_abs (fun m5 em5 => ?_)
    have hLqb := NL.new em5
    have hR_z := hR_z.newA (by first | decide | (unfold KSE; omega) | (unfold KSE KTMP; omega)) hqb em5
    have hwqb := hT.fresh hqb
    have hT := hT.newT hqb em5
    have hM := hT.1
    refine h_dup C dX9_gotCookie_61 rfl ?_
    refine h_iconst (v := 0) C dX9_gotCookie_62 (by decide) ?_
    refine h_iconst (v := 3) C dX9_gotCookie_63 (by decide) ?_
    refine h_iast C dX9_gotCookie_64 hLqb.k (inb hLqb.2.1 (vp_in_nI (n := 0) (by decide) (by decide))) ?_
    refine h_abs (fun m6 em6 => ?_)
    rw [show Int32.toNatClampNeg 0 = 0 from rfl] at em6
    have hR_z := hR_z.tmp hLqb (by first | decide | (unfold KSE; omega) | (unfold KSE KTMP; omega)) em6
    have hT := hT.tmp hLqb hwqb em6
    have hM := hT.1
    have hLqb := hLqb.push em6 rfl
    refine h_dup C dX9_gotCookie_65 rfl ?_
    refine h_iconst (v := 1) C dX9_gotCookie_66 (by decide) ?_
    refine h_iload_g C dX9_gotCookie_67 rfl rfl ?_
    refine h_iast C dX9_gotCookie_68 hLqb.k (inb hLqb.2.1 (vp_in_nI (n := 1) (by decide) (by decide))) ?_
    refine h_abs (fun m7 em7 => ?_)
    rw [show Int32.toNatClampNeg 1 = 1 from rfl] at em7
    have hR_z := hR_z.tmp hLqb (by first | decide | (unfold KSE; omega) | (unfold KSE KTMP; omega)) em7
    have hT := hT.tmp hLqb hwqb em7
    have hM := hT.1
    have hLqb := hLqb.push em7 rfl
    refine h_dup C dX9_gotCookie_69 rfl ?_
    refine h_iconst (v := 2) C dX9_gotCookie_70 (by decide) ?_
    refine h_iload_w C dX9_gotCookie_71 rfl ?_
    refine h_iast C dX9_gotCookie_73 hLqb.k (inb hLqb.2.1 (vp_in_nI (n := 2) (by decide) (by decide))) ?_
    refine h_abs (fun m8 em8 => ?_)
    rw [show Int32.toNatClampNeg 2 = 2 from rfl] at em8
    have hR_z := hR_z.tmp hLqb (by first | decide | (unfold KSE; omega) | (unfold KSE KTMP; omega)) em8
    have hT := hT.tmp hLqb hwqb em8
    have hM := hT.1
    have hLqb := hLqb.push em8 rfl
    refine h_callS2 C (k_X9_sealOf Z.l Z.G _ (TCK b f) qb [3, g 3, g 4] _ rfl (MIX_lt _) hLqb.k hLqb.2.1 hLqb.2.2 (Nat.le_of_ble_eq_true rfl)) cw_X9_154 st_X9_sealOf dX9_gotCookie_74 (by first | decide | exact Nat.le_of_ble_eq_true rfl) (by decide) (by decide) (by decide) (by decide) (kI fun r3 μ4 hp4 => ?_) kN
    obtain ⟨rfl, rfl⟩ := hp4
    rw [sgS_N]
    refine h_icmp_eq (tgt := 83) C dX9_gotCookie_77 (by decide) (fun cB => ?_) (fun cB => ?_)
    · have hB : TAGR g = SEALR (TCK b f) g := by rw [hTG, hSR]; exact cB
      refine h_al_g C dX9_gotCookie_83 rfl rfl rfv_r ?_
      refine gs_X9_58 C dX9_gotCookie_84 hM.kX (hM.fA (i := 14) (by decide)) ?_
      refine h_iload_g C dX9_gotCookie_87 rfl rfl ?_
      refine h_aald (r := some _) C dX9_gotCookie_88 (hM.kr (by decide)) (inb (hM.ln3 (by decide)) (vp_in_nI he (by decide))) (atI (cl_of (n := e) (by have h9 := he; omega)) (hM.tb (t := 7) (by decide) he)) ?_
      refine h_iload_w C dX9_gotCookie_89 rfl ?_
      refine h_iload_w C dX9_gotCookie_91 rfl ?_
      refine h_iast C dX9_gotCookie_93 (hM.k11 (by have h0_ := he; omega)) (inb (hM.ln3 (by have h0_ := he; omega)) (vp_in_nI hb (by decide))) ?_
      refine h_abs (fun m9 em9 => ?_)
      rw [show (nI b).toNatClampNeg = b from (cl_of (n := b) (by have h9 := hb; omega))] at em9
      have hR_z := hR_z.wQ hM (by first | decide | (unfold KSE; omega) | (unfold KSE KTMP; omega)) (j := 21 + 3 * 7 + e) (by have h0_ := he; omega) em9
      have hT := hT.sei (j := 21 + 3 * 7 + e) (by have h0_ := he; omega) (Or.inr trivial) em9 (hT.1.wT7 he hb em9)
      have hM := hT.1
      refine h_al_g C dX9_gotCookie_94 rfl rfl rfv_r ?_
      refine gs_X9_61 C dX9_gotCookie_95 hM.kX (hM.fA (i := 15) (by decide)) ?_
      refine h_iload_g C dX9_gotCookie_98 rfl rfl ?_
      refine h_aald (r := some _) C dX9_gotCookie_99 (hM.kr (by decide)) (inb (hM.ln3 (by decide)) (vp_in_nI he (by decide))) (atI (cl_of (n := e) (by have h9 := he; omega)) (hM.tb (t := 8) (by decide) he)) ?_
      refine h_iload_w C dX9_gotCookie_100 rfl ?_
      refine h_al_g C dX9_gotCookie_102 rfl rfl rfv_r ?_
      refine gf_X9_129 C dX9_gotCookie_103 hM.kX hM.f288 ?_
      refine h_iast C dX9_gotCookie_106 (hM.k11 (by have h0_ := he; omega)) (inb (hM.ln3 (by have h0_ := he; omega)) (vp_in_nI hb (by decide))) ?_
      refine h_abs (fun m10 em10 => ?_)
      rw [show (nI b).toNatClampNeg = b from (cl_of (n := b) (by have h9 := hb; omega))] at em10
      have hR_z := hR_z.wQ hM (by first | decide | (unfold KSE; omega) | (unfold KSE KTMP; omega)) (j := 21 + 3 * 8 + e) (by have h0_ := he; omega) em10
      have hT := hT.sei (j := 21 + 3 * 8 + e) (by have h0_ := he; omega) (Or.inr trivial) em10 (hT.1.wT8 he hb em10)
      have hM := hT.1
      refine h_iconst (v := 3) C dX9_gotCookie_107 (by decide) ?_
      refine h_iret C E dX9_gotCookie_108 (by decide) (by decide) ?_
      exact ⟨_, rfl, _, Or.inr ⟨b, f, hFW, hfl, Or.inr ⟨hB, rfl, rfl⟩⟩, hT⟩
    · have hB : ¬ TAGR g = SEALR (TCK b f) g := fun z => cB (by rw [hTG, hSR] at z; exact z)
      refine h_bipush (v := (-2)) C dX9_gotCookie_80 (by decide) ?_
      refine h_iret C E dX9_gotCookie_82 (by decide) (by decide) ?_
      exact ⟨_, rfl, S, Or.inr ⟨b, f, hFW, hfl, Or.inl ⟨hB, rfl, rfl⟩⟩, hT⟩
  · have hno : ∀ b, b < 3 → ¬ fIs S e b (g 3) := hIF.elim (fun z => z.2) (fun ⟨b, h1, h2⟩ => by
      have h3 : (nI b).toInt = -1 := by rw [← h1, cI]; rfl
      rw [nI_toInt (by have := h2.1; omega)] at h3
      omega)
    refine h_iconst (v := (-1)) C dX9_gotCookie_23 (by decide) ?_
    refine h_iret C E dX9_gotCookie_24 (by decide) (by decide) ?_
    exact ⟨_, rfl, S, Or.inl ⟨hno, rfl, rfl⟩, hT⟩

end
