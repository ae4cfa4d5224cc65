section
theorem MRq.I2 {Q : Nat → Nat} {S : Sx} {l : LX} {μ : Mem} (h : MRq Q S l μ) {t : Nat} (ht : t < 10) : I2 μ (Q 0) (298 + t) 3 3 (fun a b => μ.ei (Q (21 + 3 * t + a)) b) := ⟨Q (7 + t), fun a => Q (21 + 3 * t + a), by have h9 := h.fA (i := 7 + t) (by omega); rw [show 291 + (7 + t) = 298 + t by omega] at h9; exact h9, h.neQ (by omega) (by decide) (by omega), h.k17 (by omega), h.ln3 (by omega), fun i hi => ⟨h.tb ht hi, h.k11 (by omega), h.ln3 (by omega), fun j _ => rfl⟩⟩
theorem FREb_M {Q : Nat → Nat} {S : Sx} {l : LX} {μ : Mem} (h : MRq Q S l μ) {a b : Nat} (ha : a < 3) (hb : b < 3) (hfn : ∀ r, S.fl a b = some r → ¬ r 0 = -1) : (¬ μ.ei (Q (21 + 3 * 3 + a)) b = -1 ∧ S.sc 0 - μ.ei (Q (21 + 3 * 6 + a)) b < 5) ↔ FREb S a b = true := by
  rw [h.t3 ha hb]
  unfold FREb FLX
  cases hr : S.fl a b with
  | none => simp
  | some r =>
    rw [h.t6 ha hb hr]
    simp only [decide_eq_true_eq]
    exact ⟨fun z => z.2, fun z => ⟨hfn r hr, z⟩⟩
theorem YCK_T {Q : Nat → Nat} {S : Sx} {l : LX} {μ : Mem} (h : MRq Q S l μ) {a b : Nat} (ha : a < 3) (hb : b < 3) (h1 : ¬ μ.ei (Q (21 + 3 * 7 + a)) b = -1) (h2 : S.sc 0 - μ.ei (Q (21 + 3 * 8 + a)) b < 60) : YCK S a b = S.lf 3 a b ∧ ¬ YCK S a b = -1 := by
  rw [h.t7 ha hb] at h1
  rw [h.t8 ha hb] at h2
  unfold YCK
  rw [if_pos h2]
  exact ⟨rfl, h1⟩
theorem YCK_F {Q : Nat → Nat} {S : Sx} {l : LX} {μ : Mem} (h : MRq Q S l μ) {a b : Nat} (ha : a < 3) (hb : b < 3) (h1 : ¬ (¬ μ.ei (Q (21 + 3 * 7 + a)) b = -1 ∧ S.sc 0 - μ.ei (Q (21 + 3 * 8 + a)) b < 60)) : YCK S a b = -1 := by
  rw [h.t7 ha hb, h.t8 ha hb] at h1
  unfold YCK
  by_cases c : S.sc 0 - S.lf 4 a b < 60
  · rw [if_pos c]
    exact Decidable.byContradiction fun z => h1 ⟨z, c⟩
  · rw [if_neg c]
theorem xr_nI (x p : Nat) : nI x ^^^ nI p = nI (x ^^^ p) := Int32.toBitVec_inj.mp (show BitVec.ofNat 32 x ^^^ BitVec.ofNat 32 p = BitVec.ofNat 32 (x ^^^ p) from BitVec.ofNat_xor.symm)
theorem shr_u : ∀ u, u < 256 → ∀ b, b < 9 → ((nI u >>> ((8 - nI b) &&& 31) = 0) ↔ u / 2 ^ (8 - b) = 0) := by decide +kernel
theorem TOPB_u : ∀ u, u < 256 → ∀ b, b < 9 → TOPB (nI u) (nI b) = nI (u / 2 ^ (8 - b) * 2 ^ (8 - b)) := by decide +kernel
theorem GVN_c {x p b : Nat} (hx : x < 256) (hp : p < 256) (hb : b < 9) (hn : TOPB (nI p) (nI b) = nI p) : ((nI x ^^^ nI p) >>> ((8 - nI b) &&& 31) = 0) ↔ TOPB (nI x) (nI b) = nI p := by
  have h2 : 0 < 2 ^ (8 - b) := Nat.pow_pos (by decide)
  have e1 : ∀ u : Nat, u / 2 ^ (8 - b) * 2 ^ (8 - b) ≤ u := fun u => Nat.div_mul_le_self u _
  have hu : x ^^^ p < 256 := Nat.xor_lt_two_pow (n := 8) hx hp
  rw [xr_nI, shr_u _ hu b hb, TOPB_u x hx b hb, Nat.xor_div_two_pow, nI_eq (by have := e1 x; omega) (by omega)]
  rw [TOPB_u p hp b hb, nI_eq (by have := e1 p; omega) (by omega)] at hn
  constructor
  · intro h
    have h9 := congrArg (fun z => z ^^^ p / 2 ^ (8 - b)) h
    simp only [Nat.xor_assoc, Nat.xor_self, Nat.xor_zero, Nat.zero_xor] at h9
    rw [h9]
    exact hn
  · intro h
    have h9 : x / 2 ^ (8 - b) * 2 ^ (8 - b) = p / 2 ^ (8 - b) * 2 ^ (8 - b) := h.trans hn.symm
    rw [Nat.eq_of_mul_eq_mul_right h2 h9, Nat.xor_self]
/-- a table's rows -/
def okRw (r : Row) : Prop := ∃ p b, p < 256 ∧ b < 9 ∧ r 0 = nI p ∧ r 1 = nI b ∧ TOPB (nI p) (nI b) = nI p
def okInn (x : Int32) : Prop := ∃ n, n < 256 ∧ x = nI n
theorem sFl_sFl {S : Sx} {a b : Nat} {v w : Option Row} : (S.sFl a b v).sFl a b w = S.sFl a b w := congrArg (fun f => (S.sc, S.ef, S.lf, S.cd, f, S.ses, S.wt, S.rt, S.ou, S.nt)) w2_w2
set_option maxRecDepth 100000 in
set_option maxHeartbeats 1000000 in
theorem k_X9_hello (l : Launch) (G : Gx) (Q : Nat → Nat) (S : Sx) (t : Int32) (μ : Mem) (hM : MRq Q S (LXo S t) μ) (a : Nat) (ha : a < 3) (xa : Int32) (hxa : xa = nI a) (b : Nat) (hb : b < 3) (xb : Int32) (hxb : xb = nI b) (hN : 0 ≤ (HNUM S).toInt ∧ (HNUM S).toInt < 1000000) : Kon l yX9_hello cX9_hello 8 (some .int) 4 5 33 89 G [.ref (Q 0), .int xa, .int xb] μ (pI fun v μ' => v = HNUM S ∧ MTo Q WAll μ (HELS S a b) (LXo (HELS S a b) t) μ') noX := by
  refine Kon.ofG (by decide +kernel) (Nat.le_of_ble_eq_true rfl) (Nat.le_of_ble_eq_true rfl) (fun Z hZG C E NT MT => ?_)
  subst hZG
  have C : Cx Z RX9 cX9_hello 4 5 33 89 := C
  show HW Z 0 0 0 [some (.ref (Q 0)), some (.int xa), some (.int xb), none, none, none, none, none] [] μ
  subst hxa
  subst hxb
  have hM0 := hM
  have hT : MTo Q WAll μ S (LXo S t) μ := MTo.rf hM
  have hkx : HSEC S < 2 ^ 31 := by have := SEC_lt (cl (HNUM S)); unfold HSEC; omega
  refine h_al_g C dX9_hello_0 rfl rfl rfv_r ?_
  refine h_dup C dX9_hello_1 rfl ?_
  refine gf_X9_7 C dX9_hello_2 hM.kX hM.f289 ?_
  refine h_dup_x1 C dX9_hello_5 rfl rfl ?_
  refine h_iconst (v := 1) C dX9_hello_6 (by decide) ?_
  refine h_iadd C dX9_hello_7 ?_
  refine pf_X9_7 C dX9_hello_8 hM.kX ?_
  refine h_abs (fun m1 em1 => ?_)
  have hT := hT.sfi (Or.inr trivial) em1 (hT.1.w289 (v := HNUM S) em1)
  have hM := hT.1
  refine h_ist_3 C dX9_hello_11 ct_i ?_
  refine h_iload_g C dX9_hello_12 rfl rfl ?_
  refine h_callS1 C (k_X9_fresh Z.l Z.G _ (cl (HNUM S)) (cl_nI hN.1) (by have := cl_eq hN.1; omega) _) cw_X9_142 st_X9_fresh dX9_hello_13 (by first | decide | exact Nat.le_of_ble_eq_true rfl) (by decide) (by decide) (by decide) (by decide) (kI fun r1 μ1 hp1 => ?_) kN
  obtain ⟨rfl, rfl⟩ := hp1
  rw [show SEC (cl (HNUM S)) = HSEC S from rfl]
  refine h_ist_4 C dX9_hello_16 ct_i ?_
  refine h_bipush (v := 10) C dX9_hello_18 (by decide) ?_
  refine h_iload_g C dX9_hello_20 rfl rfl ?_
  refine h_imul C dX9_hello_21 ?_
  refine h_iload_g C dX9_hello_22 rfl rfl ?_
  refine h_iadd C dX9_hello_23 ?_
  rw [show (10 * nI a + nI b : Int32) = nI (10 * a + b) from by rw [show (10 : Int32) = nI 10 from rfl, pk_mul, nI_add]]
  refine h_ist_5 C dX9_hello_24 ct_i ?_
  refine h_iconst (v := 4) C dX9_hello_26 (by decide) ?_
  refine h_al_g C dX9_hello_27 rfl rfl rfv_r ?_
  refine gf_X9_129 C dX9_hello_28 hM.kX hM.f288 ?_
  refine h_imul C dX9_hello_31 ?_
  refine h_al_g C dX9_hello_32 rfl rfl rfv_r ?_
  refine gs_X9_43 C dX9_hello_33 hM.kX (hM.fA (i := 9) (by decide)) ?_
  refine h_iload_g C dX9_hello_36 rfl rfl ?_
  refine h_aald (r := some _) C dX9_hello_37 (hM.kr (by decide)) (inb (hM.ln3 (by decide)) (vp_in_nI ha (by decide))) (atI (cl_of (n := a) (by have h9 := ha; omega)) (hM.tb (t := 2) (by decide) ha)) ?_
  refine h_iload_g C dX9_hello_38 rfl rfl ?_
  refine h_iald C dX9_hello_39 (hM.k11 (by have h0_ := ha; omega)) (inb (hM.ln3 (by have h0_ := ha; omega)) (vp_in_nI hb (by decide))) (atI (cl_of (n := b) (by have h9 := hb; omega)) (hM.t2 ha hb)) ?_
  refine h_iconst (v := 1) C dX9_hello_40 (by decide) ?_
  refine h_iadd C dX9_hello_41 ?_
  refine h_callS2 C (k_J9_max_7cf53 Z.l Z.G _ _ _) cw_X9_145 st_J9_max_7cf53 dX9_hello_42 (by first | decide | exact Nat.le_of_ble_eq_true rfl) (by decide) (by decide) (by decide) (by decide) (kI fun r2 μ2 hp2 => ?_) kN
  obtain ⟨rfl, rfl⟩ := hp2
  refine h_ist_6 C dX9_hello_45 ct_i ?_
  refine h_al_g C dX9_hello_47 rfl rfl rfv_r ?_
  refine h_iload_g C dX9_hello_48 rfl rfl ?_
  refine h_iload_g C dX9_hello_49 rfl rfl ?_
  refine h_iload_w C dX9_hello_50 rfl ?_
  refine h_callV3 (ci := 9) C (k_X9_keyN Z.l Z.G (Q 0) a b _ _ _ _ rfl ha rfl hb rfl hkx _) cw_X9_150 im_X9_keyOf sl_X9_keyOf rfl (by decide) hM.kX dX9_hello_52 (by first | decide | exact Nat.le_of_ble_eq_true rfl) (by decide) (by decide) (by decide) (by decide) (kI fun r3 μ3 hp3 => ?_) kN
  obtain ⟨rfl, hNw9⟩ := hp3
  have hT := hT.nw hNw9
  have hM := hT.1
  refine h_iconst (v := 5) C dX9_hello_55 (by decide) ?_
  refine h_newarr (atype := .int) (N := 5) (11 + 32 * 100) C ac_11 (by decide) (Or.inl (by decide)) dX9_hello_56 (by decide) (by decide) (by decide) (by first | decide | omega) (by first | decide | omega) (fun q1 hq1 => ?_)
  refine h_abs (fun m2 em2 => ?_)
  have hLq1 := NL.new em2
  have hwq1 := hT.fresh hq1
  have hT := hT.newT hq1 em2
  have hM := hT.1
  refine h_dup C dX9_hello_58 rfl ?_
  refine h_iconst (v := 0) C dX9_hello_59 (by decide) ?_
  refine h_iconst (v := 1) C dX9_hello_60 (by decide) ?_
  refine h_iast C dX9_hello_61 hLq1.k (inb hLq1.2.1 (vp_in_nI (n := 0) (by decide) (by decide))) ?_
  refine h_abs (fun m3 em3 => ?_)
  rw [show Int32.toNatClampNeg 0 = 0 from rfl] at em3
  have hT := hT.tmp hLq1 hwq1 em3
  have hM := hT.1
  have hLq1 := hLq1.push em3 rfl
  refine h_dup C dX9_hello_62 rfl ?_
  refine h_iconst (v := 1) C dX9_hello_63 (by decide) ?_
  refine h_iload_g C dX9_hello_64 rfl rfl ?_
  refine h_iast C dX9_hello_65 hLq1.k (inb hLq1.2.1 (vp_in_nI (n := 1) (by decide) (by decide))) ?_
  refine h_abs (fun m4 em4 => ?_)
  rw [show Int32.toNatClampNeg 1 = 1 from rfl] at em4
  have hT := hT.tmp hLq1 hwq1 em4
  have hM := hT.1
  have hLq1 := hLq1.push em4 rfl
  refine h_dup C dX9_hello_66 rfl ?_
  refine h_iconst (v := 2) C dX9_hello_67 (by decide) ?_
  refine h_iload_w C dX9_hello_68 rfl ?_
  refine h_callS1 C (k_X9_open Z.l Z.G _ (HSEC S) rfl hkx _) cw_X9_122 st_X9_open dX9_hello_70 (by first | decide | exact Nat.le_of_ble_eq_true rfl) (by decide) (by decide) (by decide) (by decide) (kI fun r4 μ4 hp4 => ?_) kN
  obtain ⟨rfl, rfl⟩ := hp4
  refine h_iast C dX9_hello_73 hLq1.k (inb hLq1.2.1 (vp_in_nI (n := 2) (by decide) (by decide))) ?_
  refine h_abs (fun m5 em5 => ?_)
  rw [show Int32.toNatClampNeg 2 = 2 from rfl] at em5
  have hT := hT.tmp hLq1 hwq1 em5
  have hM := hT.1
  have hLq1 := hLq1.push em5 rfl
  refine h_dup C dX9_hello_74 rfl ?_
  refine h_iconst (v := 3) C dX9_hello_75 (by decide) ?_
  refine h_iload_w C dX9_hello_76 rfl ?_
  refine h_iast C dX9_hello_78 hLq1.k (inb hLq1.2.1 (vp_in_nI (n := 3) (by decide) (by decide))) ?_
  refine h_abs (fun m6 em6 => ?_)
  rw [show Int32.toNatClampNeg 3 = 3 from rfl] at em6
  have hT := hT.tmp hLq1 hwq1 em6
  have hM := hT.1
  have hLq1 := hLq1.push em6 rfl
  refine h_dup C dX9_hello_79 rfl ?_
  refine h_iconst (v := 4) C dX9_hello_80 (by decide) ?_
  refine h_iload_w C dX9_hello_81 rfl ?_
  refine h_iast C dX9_hello_83 hLq1.k (inb hLq1.2.1 (vp_in_nI (n := 4) (by decide) (by decide))) ?_
  refine h_abs (fun m7 em7 => ?_)
  rw [show Int32.toNatClampNeg 4 = 4 from rfl] at em7
  have hT := hT.tmp hLq1 hwq1 em7
  have hM := hT.1
  have hLq1 := hLq1.push em7 rfl
  refine h_callS2 C (k_X9_sealOf Z.l Z.G _ (HKY a b (HSEC S)) q1 [1, HNUM S, nI (PW 7 (HSEC S)), nI (10 * a + b), HSTA S a b] _ rfl (MIX_lt _) hLq1.k hLq1.2.1 hLq1.2.2 (Nat.le_of_ble_eq_true rfl)) cw_X9_154 st_X9_sealOf dX9_hello_84 (by first | decide | exact Nat.le_of_ble_eq_true rfl) (by decide) (by decide) (by decide) (by decide) (kI fun r5 μ5 hp5 => ?_) kN
  obtain ⟨rfl, rfl⟩ := hp5
  rw [sgS_N, show SEALN (HKY a b (HSEC S)) 1 [HNUM S, nI (PW 7 (HSEC S)), nI (10 * a + b), HSTA S a b] = HTAG S a b from rfl]
  refine h_ist_7 C dX9_hello_87 ct_i ?_
  refine h_al_g C dX9_hello_89 rfl rfl rfv_r ?_
  refine gs_X9_43 C dX9_hello_90 hM.kX (hM.fA (i := 9) (by decide)) ?_
  refine h_iload_g C dX9_hello_93 rfl rfl ?_
  refine h_aald (r := some _) C dX9_hello_94 (hM.kr (by decide)) (inb (hM.ln3 (by decide)) (vp_in_nI ha (by decide))) (atI (cl_of (n := a) (by have h9 := ha; omega)) (hM.tb (t := 2) (by decide) ha)) ?_
  refine h_iload_g C dX9_hello_95 rfl rfl ?_
  refine h_iload_w C dX9_hello_96 rfl ?_
  refine h_iast C dX9_hello_98 (hM.k11 (by have h0_ := ha; omega)) (inb (hM.ln3 (by have h0_ := ha; omega)) (vp_in_nI hb (by decide))) ?_
  refine h_abs (fun m8 em8 => ?_)
  rw [show (nI b).toNatClampNeg = b from (cl_of (n := b) (by have h9 := hb; omega))] at em8
  have hT := hT.sei (j := 21 + 3 * 2 + a) (by have h0_ := ha; omega) (Or.inr trivial) em8 (hT.1.wT2 ha hb em8)
  have hM := hT.1
  obtain ⟨s0, hs0⟩ : ∃ v, m8.ei (Q (21 + 3 * 4 + a)) b = v := ⟨_, rfl⟩
  obtain ⟨t0, ht0⟩ : ∃ v, m8.ei (Q (21 + 3 * 5 + a)) b = v := ⟨_, rfl⟩
  obtain ⟨u0, hu0⟩ : ∃ v, m8.ei (Q (21 + 3 * 6 + a)) b = v := ⟨_, rfl⟩
  refine h_al_g C dX9_hello_99 rfl rfl rfv_r ?_
  refine gs_X9_46 C dX9_hello_100 hM.kX (hM.fA (i := 10) (by decide)) ?_
  refine h_iload_g C dX9_hello_103 rfl rfl ?_
  refine h_aald (r := some _) C dX9_hello_104 (hM.kr (by decide)) (inb (hM.ln3 (by decide)) (vp_in_nI ha (by decide))) (atI (cl_of (n := a) (by have h9 := ha; omega)) (hM.tb (t := 3) (by decide) ha)) ?_
  refine h_iload_g C dX9_hello_105 rfl rfl ?_
  refine h_iload_g C dX9_hello_106 rfl rfl ?_
  refine h_iast C dX9_hello_107 (hM.k11 (by have h0_ := ha; omega)) (inb (hM.ln3 (by have h0_ := ha; omega)) (vp_in_nI hb (by decide))) ?_
  refine h_abs (fun m9 em9 => ?_)
  rw [show (nI b).toNatClampNeg = b from (cl_of (n := b) (by have h9 := hb; omega))] at em9
  have hT := hT.sei (j := 21 + 3 * 3 + a) (by have h0_ := ha; omega) (Or.inr trivial) em9 (hT.1.wT3 (r := mkF (HNUM S) s0 t0 u0) ha hb em9 rfl hs0 ht0 hu0)
  have hM := hT.1
  refine h_al_g C dX9_hello_108 rfl rfl rfv_r ?_
  refine gs_X9_49 C dX9_hello_109 hM.kX (hM.fA (i := 11) (by decide)) ?_
  refine h_iload_g C dX9_hello_112 rfl rfl ?_
  refine h_aald (r := some _) C dX9_hello_113 (hM.kr (by decide)) (inb (hM.ln3 (by decide)) (vp_in_nI ha (by decide))) (atI (cl_of (n := a) (by have h9 := ha; omega)) (hM.tb (t := 4) (by decide) ha)) ?_
  refine h_iload_g C dX9_hello_114 rfl rfl ?_
  refine h_iload_w C dX9_hello_115 rfl ?_
  refine h_iast C dX9_hello_117 (hM.k11 (by have h0_ := ha; omega)) (inb (hM.ln3 (by have h0_ := ha; omega)) (vp_in_nI hb (by decide))) ?_
  refine h_abs (fun m10 em10 => ?_)
  rw [show (nI b).toNatClampNeg = b from (cl_of (n := b) (by have h9 := hb; omega))] at em10
  have hT := hT.sei (j := 21 + 3 * 4 + a) (by have h0_ := ha; omega) (Or.inr trivial) em10 (hT.1.wT4 (r := mkF (HNUM S) s0 t0 u0) (r9 := mkF (HNUM S) (nI (HSEC S)) t0 u0) ha hb em10 w2_eq rfl rfl rfl rfl)
  have hM := hT.1
  refine h_al_g C dX9_hello_118 rfl rfl rfv_r ?_
  refine gs_X9_52 C dX9_hello_119 hM.kX (hM.fA (i := 12) (by decide)) ?_
  refine h_iload_g C dX9_hello_122 rfl rfl ?_
  refine h_aald (r := some _) C dX9_hello_123 (hM.kr (by decide)) (inb (hM.ln3 (by decide)) (vp_in_nI ha (by decide))) (atI (cl_of (n := a) (by have h9 := ha; omega)) (hM.tb (t := 5) (by decide) ha)) ?_
  refine h_iload_g C dX9_hello_124 rfl rfl ?_
  refine h_iload_w C dX9_hello_125 rfl ?_
  refine h_iast C dX9_hello_127 (hM.k11 (by have h0_ := ha; omega)) (inb (hM.ln3 (by have h0_ := ha; omega)) (vp_in_nI hb (by decide))) ?_
  refine h_abs (fun m11 em11 => ?_)
  rw [show (nI b).toNatClampNeg = b from (cl_of (n := b) (by have h9 := hb; omega))] at em11
  have hT := hT.sei (j := 21 + 3 * 5 + a) (by have h0_ := ha; omega) (Or.inr trivial) em11 (hT.1.wT5 (r := mkF (HNUM S) (nI (HSEC S)) t0 u0) (r9 := mkF (HNUM S) (nI (HSEC S)) (HTAG S a b) u0) ha hb em11 w2_eq rfl rfl rfl rfl)
  have hM := hT.1
  refine h_al_g C dX9_hello_128 rfl rfl rfv_r ?_
  refine gs_X9_55 C dX9_hello_129 hM.kX (hM.fA (i := 13) (by decide)) ?_
  refine h_iload_g C dX9_hello_132 rfl rfl ?_
  refine h_aald (r := some _) C dX9_hello_133 (hM.kr (by decide)) (inb (hM.ln3 (by decide)) (vp_in_nI ha (by decide))) (atI (cl_of (n := a) (by have h9 := ha; omega)) (hM.tb (t := 6) (by decide) ha)) ?_
  refine h_iload_g C dX9_hello_134 rfl rfl ?_
  refine h_al_g C dX9_hello_135 rfl rfl rfv_r ?_
  refine gf_X9_129 C dX9_hello_136 hM.kX hM.f288 ?_
  refine h_iast C dX9_hello_139 (hM.k11 (by have h0_ := ha; omega)) (inb (hM.ln3 (by have h0_ := ha; omega)) (vp_in_nI hb (by decide))) ?_
  refine h_abs (fun m12 em12 => ?_)
  rw [show (nI b).toNatClampNeg = b from (cl_of (n := b) (by have h9 := hb; omega))] at em12
  have hT := hT.sei (j := 21 + 3 * 6 + a) (by have h0_ := ha; omega) (Or.inr trivial) em12 (hT.1.wT6 (r := mkF (HNUM S) (nI (HSEC S)) (HTAG S a b) u0) (r9 := mkF (HNUM S) (nI (HSEC S)) (HTAG S a b) (S.sc 0)) ha hb em12 w2_eq rfl rfl rfl rfl)
  have hM := hT.1
  have hT : MTo Q WAll μ (((S.sSc 1 (HNUM S)).sLf 2 a b (HSTA S a b)).sFl a b (some (mkF (HNUM S) (nI (HSEC S)) (HTAG S a b) (S.sc 0)))) (LXo (((S.sSc 1 (HNUM S)).sLf 2 a b (HSTA S a b)).sFl a b (some (mkF (HNUM S) (nI (HSEC S)) (HTAG S a b) (S.sc 0)))) t) m12 := by
    have e9 : ∀ x y z w : Option Row, (((((S.sSc 1 (HNUM S)).sLf 2 a b (HSTA S a b)).sFl a b x).sFl a b y).sFl a b z).sFl a b w = ((S.sSc 1 (HNUM S)).sLf 2 a b (HSTA S a b)).sFl a b w := fun x y z w => by rw [sFl_sFl, sFl_sFl, sFl_sFl]
    rw [← e9 (some (mkF (HNUM S) s0 t0 u0)) (some (mkF (HNUM S) (nI (HSEC S)) t0 u0)) (some (mkF (HNUM S) (nI (HSEC S)) (HTAG S a b) u0))]
    exact hT
  have hM := hT.1
  refine h_al_g C dX9_hello_140 rfl rfl rfv_r ?_
  refine h_al_g C dX9_hello_141 rfl rfl rfv_r ?_
  refine gs_X9_13 C dX9_hello_142 hM.kX (hM.fA (i := 1) (by decide)) ?_
  refine h_iload_g C dX9_hello_145 rfl rfl ?_
  refine h_iald C dX9_hello_146 (hM.k11 (by decide)) (inb (hM.ln3 (by decide)) (vp_in_nI ha (by decide))) (atI (cl_of (n := a) (by have h9 := ha; omega)) (hM.a1 ha)) ?_
  refine h_al_g C dX9_hello_147 rfl rfl rfv_r ?_
  refine gs_X9_37 C dX9_hello_148 hM.kX (hM.fA (i := 7) (by decide)) ?_
  refine h_iload_g C dX9_hello_151 rfl rfl ?_
  refine h_aald (r := some _) C dX9_hello_152 (hM.kr (by decide)) (inb (hM.ln3 (by decide)) (vp_in_nI ha (by decide))) (atI (cl_of (n := a) (by have h9 := ha; omega)) (hM.tb (t := 0) (by decide) ha)) ?_
  refine h_iload_g C dX9_hello_153 rfl rfl ?_
  refine h_iald C dX9_hello_154 (hM.k11 (by have h0_ := ha; omega)) (inb (hM.ln3 (by have h0_ := ha; omega)) (vp_in_nI hb (by decide))) (atI (cl_of (n := b) (by have h9 := hb; omega)) (hM.t0 ha hb)) ?_
  refine h_iconst (v := 1) C dX9_hello_155 (by decide) ?_
  refine h_bipush (v := 6) C dX9_hello_156 (by decide) ?_
  refine h_newarr (atype := .int) (N := 6) (11 + 32 * 100) C ac_11 (by decide) (Or.inl (by decide)) dX9_hello_158 (by decide) (by decide) (by decide) (by first | decide | omega) (by first | decide | omega) (fun q2 hq2 => ?_)
  refine h_abs (fun m13 em13 => ?_)
  have hLq2 := NL.new em13
  have hwq2 := hT.fresh hq2
  have hT := hT.newT hq2 em13
  have hM := hT.1
  refine h_dup C dX9_hello_160 rfl ?_
  refine h_iconst (v := 0) C dX9_hello_161 (by decide) ?_
  refine h_iload_g C dX9_hello_162 rfl rfl ?_
  refine h_iast C dX9_hello_163 hLq2.k (inb hLq2.2.1 (vp_in_nI (n := 0) (by decide) (by decide))) ?_
  refine h_abs (fun m14 em14 => ?_)
  rw [show Int32.toNatClampNeg 0 = 0 from rfl] at em14
  have hT := hT.tmp hLq2 hwq2 em14
  have hM := hT.1
  have hLq2 := hLq2.push em14 rfl
  refine h_dup C dX9_hello_164 rfl ?_
  refine h_iconst (v := 1) C dX9_hello_165 (by decide) ?_
  refine h_iload_w C dX9_hello_166 rfl ?_
  refine h_callS1 C (k_X9_open Z.l Z.G _ (HSEC S) rfl hkx _) cw_X9_122 st_X9_open dX9_hello_168 (by first | decide | exact Nat.le_of_ble_eq_true rfl) (by decide) (by decide) (by decide) (by decide) (kI fun r6 μ6 hp6 => ?_) kN
  obtain ⟨rfl, rfl⟩ := hp6
  refine h_iast C dX9_hello_171 hLq2.k (inb hLq2.2.1 (vp_in_nI (n := 1) (by decide) (by decide))) ?_
  refine h_abs (fun m15 em15 => ?_)
  rw [show Int32.toNatClampNeg 1 = 1 from rfl] at em15
  have hT := hT.tmp hLq2 hwq2 em15
  have hM := hT.1
  have hLq2 := hLq2.push em15 rfl
  refine h_dup C dX9_hello_172 rfl ?_
  refine h_iconst (v := 2) C dX9_hello_173 (by decide) ?_
  refine h_iload_w C dX9_hello_174 rfl ?_
  refine h_iast C dX9_hello_176 hLq2.k (inb hLq2.2.1 (vp_in_nI (n := 2) (by decide) (by decide))) ?_
  refine h_abs (fun m16 em16 => ?_)
  rw [show Int32.toNatClampNeg 2 = 2 from rfl] at em16
  have hT := hT.tmp hLq2 hwq2 em16
  have hM := hT.1
  have hLq2 := hLq2.push em16 rfl
  refine h_dup C dX9_hello_177 rfl ?_
  refine h_iconst (v := 3) C dX9_hello_178 (by decide) ?_
  refine h_iload_w C dX9_hello_179 rfl ?_
  refine h_iast C dX9_hello_181 hLq2.k (inb hLq2.2.1 (vp_in_nI (n := 3) (by decide) (by decide))) ?_
  refine h_abs (fun m17 em17 => ?_)
  rw [show Int32.toNatClampNeg 3 = 3 from rfl] at em17
  have hT := hT.tmp hLq2 hwq2 em17
  have hM := hT.1
  have hLq2 := hLq2.push em17 rfl
  refine h_dup C dX9_hello_182 rfl ?_
  refine h_iconst (v := 4) C dX9_hello_183 (by decide) ?_
  refine h_iload_w C dX9_hello_184 rfl ?_
  refine h_iast C dX9_hello_186 hLq2.k (inb hLq2.2.1 (vp_in_nI (n := 4) (by decide) (by decide))) ?_
  refine h_abs (fun m18 em18 => ?_)
  rw [show Int32.toNatClampNeg 4 = 4 from rfl] at em18
  have hT := hT.tmp hLq2 hwq2 em18
  have hM := hT.1
  have hLq2 := hLq2.push em18 rfl
  refine h_dup C dX9_hello_187 rfl ?_
  refine h_iconst (v := 5) C dX9_hello_188 (by decide) ?_
  refine h_al_g C dX9_hello_189 rfl rfl rfv_r ?_
  refine h_iload_g C dX9_hello_190 rfl rfl ?_
  refine h_iload_g C dX9_hello_191 rfl rfl ?_
  refine h_callV2 (ci := 9) C (k_X9_hasCookie Z.l Z.G (Q 0) _ hM.kX _ _ _ hM.f288 (hM.I2 (t := 7) (by decide)) (hM.I2 (t := 8) (by decide)) a b ha hb) cw_X9_158 im_X9_hasCookie sl_X9_hasCookie rfl (by decide) hM.kX dX9_hello_192 (by first | decide | exact Nat.le_of_ble_eq_true rfl) (by decide) (by decide) (by decide) (by decide) (kB (fun μ7 hp7 => ?_) (fun μ7 hp7 => ?_)) kN
  · obtain ⟨rfl, hf1, hf2⟩ := hp7
    have hY := YCK_T hM ha hb hf1 hf2
    refine h_if_eq (tgt := 227) C dX9_hello_195 (by decide) (fun c1 => absurd c1 (by decide)) (fun c1 => ?_)
    refine h_iconst (v := 3) C dX9_hello_198 (by decide) ?_
    refine h_newarr (atype := .int) (N := 3) (11 + 32 * 100) C ac_11 (by decide) (Or.inl (by decide)) dX9_hello_199 (by decide) (by decide) (by decide) (by first | decide | omega) (by first | decide | omega) (fun q3 hq3 => ?_)
    refine h_abs (fun m19 em19 => ?_)
    have hne_q2_q3 := hLq2.ne hq3
    have hLq2 := hLq2.newA hq3 em19
    have hLq3 := NL.new em19
    have hwq3 := hT.fresh hq3
    have hT := hT.newT hq3 em19
    have hM := hT.1
    refine h_dup C dX9_hello_201 rfl ?_
    refine h_iconst (v := 0) C dX9_hello_202 (by decide) ?_
    refine h_iconst (v := 2) C dX9_hello_203 (by decide) ?_
    refine h_iast C dX9_hello_204 hLq3.k (inb hLq3.2.1 (vp_in_nI (n := 0) (by decide) (by decide))) ?_
    refine h_abs (fun m20 em20 => ?_)
    rw [show Int32.toNatClampNeg 0 = 0 from rfl] at em20
    have hT := hT.tmp hLq3 hwq3 em20
    have hM := hT.1
    have hLq2 := hLq2.sei hne_q2_q3 em20
    have hLq3 := hLq3.push em20 rfl
    refine h_dup C dX9_hello_205 rfl ?_
    refine h_iconst (v := 1) C dX9_hello_206 (by decide) ?_
    refine h_al_g C dX9_hello_207 rfl rfl rfv_r ?_
    refine gs_X9_58 C dX9_hello_208 hM.kX (hM.fA (i := 14) (by decide)) ?_
    refine h_iload_g C dX9_hello_211 rfl rfl ?_
    refine h_aald (r := some _) C dX9_hello_212 (hM.kr (by decide)) (inb (hM.ln3 (by decide)) (vp_in_nI ha (by decide))) (atI (cl_of (n := a) (by have h9 := ha; omega)) (hM.tb (t := 7) (by decide) ha)) ?_
    refine h_iload_g C dX9_hello_213 rfl rfl ?_
    refine h_iald C dX9_hello_214 (hM.k11 (by have h0_ := ha; omega)) (inb (hM.ln3 (by have h0_ := ha; omega)) (vp_in_nI hb (by decide))) (atI (cl_of (n := b) (by have h9 := hb; omega)) (hM.t7 ha hb)) ?_
    refine h_iast C dX9_hello_215 hLq3.k (inb hLq3.2.1 (vp_in_nI (n := 1) (by decide) (by decide))) ?_
    refine h_abs (fun m21 em21 => ?_)
    rw [show Int32.toNatClampNeg 1 = 1 from rfl] at em21
    have hT := hT.tmp hLq3 hwq3 em21
    have hM := hT.1
    have hLq2 := hLq2.sei hne_q2_q3 em21
    have hLq3 := hLq3.push em21 rfl
    refine h_dup C dX9_hello_216 rfl ?_
    refine h_iconst (v := 2) C dX9_hello_217 (by decide) ?_
    refine h_iload_w C dX9_hello_218 rfl ?_
    refine h_iast C dX9_hello_220 hLq3.k (inb hLq3.2.1 (vp_in_nI (n := 2) (by decide) (by decide))) ?_
    refine h_abs (fun m22 em22 => ?_)
    rw [show Int32.toNatClampNeg 2 = 2 from rfl] at em22
    have hT := hT.tmp hLq3 hwq3 em22
    have hM := hT.1
    have hLq2 := hLq2.sei hne_q2_q3 em22
    have hLq3 := hLq3.push em22 rfl
    refine h_callS1 C (k_X9_mix Z.l Z.G q3 [2, S.lf 3 a b, HTAG S a b] _ hLq3.k hLq3.2.1 hLq3.2.2 (Nat.le_of_ble_eq_true rfl)) cw_X9_138 st_X9_mix dX9_hello_221 (by first | decide | exact Nat.le_of_ble_eq_true rfl) (by decide) (by decide) (by decide) (by decide) (kI fun r8 μ8 hp8 => ?_) kN
    obtain ⟨rfl, rfl⟩ := hp8
    rw [show nI (MIX ([2, S.lf 3 a b, HTAG S a b].map Int32.toInt)) = HPRO S a b (HTAG S a b) from by
      have y1 : YCK S a b = S.lf 3 a b := hY.1
      have y2 : ¬ YCK S a b = -1 := hY.2
      unfold HPRO
      rw [if_neg y2, y1]
      rfl]
    refine h_goto (tgt := 228) C dX9_hello_224 (by decide) ?_
    refine h_iast C dX9_hello_228 hLq2.k (inb hLq2.2.1 (vp_in_nI (n := 5) (by decide) (by decide))) ?_
    refine h_abs (fun m23 em23 => ?_)
    rw [show Int32.toNatClampNeg 5 = 5 from rfl] at em23
    have hT := hT.tmp hLq2 hwq2 em23
    have hM := hT.1
    have hLq3 := hLq3.sei hne_q2_q3.symm em23
    have hLq2 := hLq2.push em23 rfl
    refine h_callV4 (ci := 9) C (k_X9_put Z.l Z.G Q _ t _ hM (S.ef 0 a) (S.lf 0 a b) 1 q2 [HNUM S, nI (PW 7 (HSEC S)), nI (10 * a + b), HSTA S a b, HTAG S a b, HPRO S a b (HTAG S a b)] hLq2 (Nat.le_of_ble_eq_true rfl) (nI (HKY a b (HSEC S)))) cw_X9_162 im_X9_put sl_X9_put rfl (by decide) hM.kX dX9_hello_229 (by first | decide | exact Nat.le_of_ble_eq_true rfl) (by decide) (by decide) (by decide) (by decide) (kV fun μ9 hp9 => ?_) kN
    have hPu := hp9
    have hT := hT.tr hPu (fun _ _ => trivial)
    have hM := hT.1
    refine h_iload_g C dX9_hello_232 rfl rfl ?_
    refine h_iret C E dX9_hello_233 (by decide) (by decide) ?_
    exact ⟨_, rfl, rfl, hT⟩
  · obtain ⟨rfl, hf⟩ := hp7
    have hY := YCK_F hM ha hb hf
    refine h_if_eq (tgt := 227) C dX9_hello_195 (by decide) (fun c2 => ?_) (fun c2 => absurd (by decide) c2)
    refine h_iconst (v := 0) C dX9_hello_227 (by decide) ?_
    rw [show (0 : Int32) = HPRO S a b (HTAG S a b) from by
      have y1 : YCK S a b = -1 := hY
      unfold HPRO
      rw [if_pos y1]]
    refine h_iast C dX9_hello_228 hLq2.k (inb hLq2.2.1 (vp_in_nI (n := 5) (by decide) (by decide))) ?_
    refine h_abs (fun m24 em24 => ?_)
    rw [show Int32.toNatClampNeg 5 = 5 from rfl] at em24
    have hT := hT.tmp hLq2 hwq2 em24
    have hM := hT.1
    have hLq2 := hLq2.push em24 rfl
    refine h_callV4 (ci := 9) C (k_X9_put Z.l Z.G Q _ t _ hM (S.ef 0 a) (S.lf 0 a b) 1 q2 [HNUM S, nI (PW 7 (HSEC S)), nI (10 * a + b), HSTA S a b, HTAG S a b, HPRO S a b (HTAG S a b)] hLq2 (Nat.le_of_ble_eq_true rfl) (nI (HKY a b (HSEC S)))) cw_X9_162 im_X9_put sl_X9_put rfl (by decide) hM.kX dX9_hello_229 (by first | decide | exact Nat.le_of_ble_eq_true rfl) (by decide) (by decide) (by decide) (by decide) (kV fun μ10 hp10 => ?_) kN
    have hPu := hp10
    have hT := hT.tr hPu (fun _ _ => trivial)
    have hM := hT.1
    refine h_iload_g C dX9_hello_232 rfl rfl ?_
    refine h_iret C E dX9_hello_233 (by decide) (by decide) ?_
    exact ⟨_, rfl, rfl, hT⟩

theorem FLX_is {S : Sx} {e b : Nat} {n : Int32} (h : FLX S e b = n) (hn : ¬ n = -1) : fIs S e b n := by
  unfold FLX at h
  cases hr : S.fl e b with
  | none => rw [hr] at h; exact absurd h.symm hn
  | some r => rw [hr] at h; exact ⟨r, hr, h⟩
theorem FLX_no {S : Sx} {e b : Nat} {n : Int32} (h : ¬ FLX S e b = n) : ¬ fIs S e b n := fun ⟨r, h1, h2⟩ => h (by unfold FLX; rw [h1]; exact h2)
set_option maxRecDepth 100000 in
set_option maxHeartbeats 1000000 in
theorem k_X9_inFlight (l : Launch) (G : Gx) (Q : Nat → Nat) (S : Sx) (t : Int32) (μ : Mem) (hM : MRq Q S (LXo S t) μ) (e : Nat) (he : e < 3) (xe : Int32) (hxe : xe = nI e) (n : Int32) (hn : ¬ n = -1) (hself : S.fl e e = none) : Kon l yX9_inFlight cX9_inFlight 4 (some .int) 0 0 0 0 G [.ref (Q 0), .int xe, .int n] μ (pI fun v μ' => μ = μ' ∧ ((v = -1 ∧ ∀ b, b < 3 → ¬ fIs S e b n) ∨ ∃ b, v = nI b ∧ FWN S e n b)) noX := by
  refine Kon.ofG (by decide +kernel) (Nat.le_of_ble_eq_true rfl) (Nat.le_of_ble_eq_true rfl) (fun Z hZG C E NT MT => ?_)
  subst hZG
  have C : Cx Z RX9 cX9_inFlight 0 0 0 0 := C
  show HW Z 0 0 0 [some (.ref (Q 0)), some (.int xe), some (.int n), none] [] μ
  subst hxe
  have hse : ∀ k, nI k = nI e → k < 3 → ¬ fIs S e k n := fun k h9 hk => by
    have h8 : k = e := (nI_eq (by omega) (by omega)).mp h9
    subst h8
    exact fIs_no hself
  refine h_iconst (v := 0) C dX9_inFlight_0 (by decide) ?_
  refine h_ist_3 C dX9_inFlight_1 ct_i ?_
  refine h_iload_g C dX9_inFlight_2 rfl rfl ?_
  refine h_iconst (v := 3) C dX9_inFlight_3 (by decide) ?_
  refine h_icmp_ge (tgt := 32) C dX9_inFlight_4 (by decide) (fun c1 => absurd c1 (by decide)) (fun c1 => ?_)
  refine h_iload_g C dX9_inFlight_7 rfl rfl ?_
  refine h_iload_g C dX9_inFlight_8 rfl rfl ?_
  refine h_icmp_eq (tgt := 26) C dX9_inFlight_9 (by decide) (fun c2 => ?_) (fun c2 => ?_)
  · have nc2 := hse _ c2 (by decide)
    refine h_iinc_3 (q := 1) C dX9_inFlight_26 (by decide) ct_i ?_
    rw [show (0 + 1 : Int32) = 1 from by decide]
    refine h_goto (tgt := 2) C dX9_inFlight_29 (by decide) ?_
    refine h_iload_g C dX9_inFlight_2 rfl rfl ?_
    refine h_iconst (v := 3) C dX9_inFlight_3 (by decide) ?_
    refine h_icmp_ge (tgt := 32) C dX9_inFlight_4 (by decide) (fun c3 => absurd c3 (by decide)) (fun c3 => ?_)
    refine h_iload_g C dX9_inFlight_7 rfl rfl ?_
    refine h_iload_g C dX9_inFlight_8 rfl rfl ?_
    refine h_icmp_eq (tgt := 26) C dX9_inFlight_9 (by decide) (fun c4 => ?_) (fun c4 => ?_)
    · have nc4 := hse _ c4 (by decide)
      refine h_iinc_3 (q := 1) C dX9_inFlight_26 (by decide) ct_i ?_
      rw [show (1 + 1 : Int32) = 2 from by decide]
      refine h_goto (tgt := 2) C dX9_inFlight_29 (by decide) ?_
      refine h_iload_g C dX9_inFlight_2 rfl rfl ?_
      refine h_iconst (v := 3) C dX9_inFlight_3 (by decide) ?_
      refine h_icmp_ge (tgt := 32) C dX9_inFlight_4 (by decide) (fun c5 => absurd c5 (by decide)) (fun c5 => ?_)
      refine h_iload_g C dX9_inFlight_7 rfl rfl ?_
      refine h_iload_g C dX9_inFlight_8 rfl rfl ?_
      refine h_icmp_eq (tgt := 26) C dX9_inFlight_9 (by decide) (fun c6 => ?_) (fun c6 => ?_)
      · have nc6 := hse _ c6 (by decide)
        refine h_iinc_3 (q := 1) C dX9_inFlight_26 (by decide) ct_i ?_
        rw [show (2 + 1 : Int32) = 3 from by decide]
        refine h_goto (tgt := 2) C dX9_inFlight_29 (by decide) ?_
        refine h_iload_g C dX9_inFlight_2 rfl rfl ?_
        refine h_iconst (v := 3) C dX9_inFlight_3 (by decide) ?_
        refine h_icmp_ge (tgt := 32) C dX9_inFlight_4 (by decide) (fun c7 => ?_) (fun c7 => absurd (by decide) c7)
        refine h_iconst (v := (-1)) C dX9_inFlight_32 (by decide) ?_
        refine h_iret C E dX9_inFlight_33 (by decide) (by decide) ?_
        refine ⟨_, rfl, rfl, Or.inl ⟨rfl, fun b hb => ?_⟩⟩
        have h9 : b = 0 ∨ b = 1 ∨ b = 2 := by omega
        rcases h9 with rfl | rfl | rfl <;> assumption
      · refine h_al_g C dX9_inFlight_12 rfl rfl rfv_r ?_
        refine gs_X9_46 C dX9_inFlight_13 hM.kX (hM.fA (i := 10) (by decide)) ?_
        refine h_iload_g C dX9_inFlight_16 rfl rfl ?_
        refine h_aald (r := some _) C dX9_inFlight_17 (hM.kr (by decide)) (inb (hM.ln3 (by decide)) (vp_in_nI he (by decide))) (atI (cl_of (n := e) (by have h9 := he; omega)) (hM.tb (t := 3) (by decide) he)) ?_
        refine h_iload_g C dX9_inFlight_18 rfl rfl ?_
        refine h_iald C dX9_inFlight_19 (hM.k11 (by have h0_ := he; omega)) (inb (hM.ln3 (by have h0_ := he; omega)) (vp_in_nI (n := 2) (by decide) (by decide))) (atI (show Int32.toNatClampNeg 2 = 2 from rfl) (hM.t3 he (by decide))) ?_
        refine h_iload_g C dX9_inFlight_20 rfl rfl ?_
        refine h_icmp_ne (tgt := 26) C dX9_inFlight_21 (by decide) (fun c8 => ?_) (fun c8 => ?_)
        · have nc8 := FLX_no c8
          refine h_iinc_3 (q := 1) C dX9_inFlight_26 (by decide) ct_i ?_
          rw [show (2 + 1 : Int32) = 3 from by decide]
          refine h_goto (tgt := 2) C dX9_inFlight_29 (by decide) ?_
          refine h_iload_g C dX9_inFlight_2 rfl rfl ?_
          refine h_iconst (v := 3) C dX9_inFlight_3 (by decide) ?_
          refine h_icmp_ge (tgt := 32) C dX9_inFlight_4 (by decide) (fun c9 => ?_) (fun c9 => absurd (by decide) c9)
          refine h_iconst (v := (-1)) C dX9_inFlight_32 (by decide) ?_
          refine h_iret C E dX9_inFlight_33 (by decide) (by decide) ?_
          refine ⟨_, rfl, rfl, Or.inl ⟨rfl, fun b hb => ?_⟩⟩
          have h9 : b = 0 ∨ b = 1 ∨ b = 2 := by omega
          rcases h9 with rfl | rfl | rfl <;> assumption
        · refine h_iload_g C dX9_inFlight_24 rfl rfl ?_
          refine h_iret C E dX9_inFlight_25 (by decide) (by decide) ?_
          first | exact ⟨_, rfl, rfl, Or.inr ⟨0, rfl, by decide, FLX_is (by assumption) hn, fun b' hb' => absurd hb' (Nat.not_lt_zero _)⟩⟩ | exact ⟨_, rfl, rfl, Or.inr ⟨1, rfl, by decide, FLX_is (by assumption) hn, fun b' hb' => by
        have h9 : b' = 0 := by omega
        subst h9
        assumption⟩⟩ | exact ⟨_, rfl, rfl, Or.inr ⟨2, rfl, by decide, FLX_is (by assumption) hn, fun b' hb' => by
        have h9 : b' = 0 ∨ b' = 1 := by omega
        rcases h9 with rfl | rfl <;> assumption⟩⟩
    · refine h_al_g C dX9_inFlight_12 rfl rfl rfv_r ?_
      refine gs_X9_46 C dX9_inFlight_13 hM.kX (hM.fA (i := 10) (by decide)) ?_
      refine h_iload_g C dX9_inFlight_16 rfl rfl ?_
      refine h_aald (r := some _) C dX9_inFlight_17 (hM.kr (by decide)) (inb (hM.ln3 (by decide)) (vp_in_nI he (by decide))) (atI (cl_of (n := e) (by have h9 := he; omega)) (hM.tb (t := 3) (by decide) he)) ?_
      refine h_iload_g C dX9_inFlight_18 rfl rfl ?_
      refine h_iald C dX9_inFlight_19 (hM.k11 (by have h0_ := he; omega)) (inb (hM.ln3 (by have h0_ := he; omega)) (vp_in_nI (n := 1) (by decide) (by decide))) (atI (show Int32.toNatClampNeg 1 = 1 from rfl) (hM.t3 he (by decide))) ?_
      refine h_iload_g C dX9_inFlight_20 rfl rfl ?_
      refine h_icmp_ne (tgt := 26) C dX9_inFlight_21 (by decide) (fun c10 => ?_) (fun c10 => ?_)
      · have nc10 := FLX_no c10
        refine h_iinc_3 (q := 1) C dX9_inFlight_26 (by decide) ct_i ?_
        rw [show (1 + 1 : Int32) = 2 from by decide]
        refine h_goto (tgt := 2) C dX9_inFlight_29 (by decide) ?_
        refine h_iload_g C dX9_inFlight_2 rfl rfl ?_
        refine h_iconst (v := 3) C dX9_inFlight_3 (by decide) ?_
        refine h_icmp_ge (tgt := 32) C dX9_inFlight_4 (by decide) (fun c11 => absurd c11 (by decide)) (fun c11 => ?_)
        refine h_iload_g C dX9_inFlight_7 rfl rfl ?_
        refine h_iload_g C dX9_inFlight_8 rfl rfl ?_
        refine h_icmp_eq (tgt := 26) C dX9_inFlight_9 (by decide) (fun c12 => ?_) (fun c12 => ?_)
        · have nc12 := hse _ c12 (by decide)
          refine h_iinc_3 (q := 1) C dX9_inFlight_26 (by decide) ct_i ?_
          rw [show (2 + 1 : Int32) = 3 from by decide]
          refine h_goto (tgt := 2) C dX9_inFlight_29 (by decide) ?_
          refine h_iload_g C dX9_inFlight_2 rfl rfl ?_
          refine h_iconst (v := 3) C dX9_inFlight_3 (by decide) ?_
          refine h_icmp_ge (tgt := 32) C dX9_inFlight_4 (by decide) (fun c13 => ?_) (fun c13 => absurd (by decide) c13)
          refine h_iconst (v := (-1)) C dX9_inFlight_32 (by decide) ?_
          refine h_iret C E dX9_inFlight_33 (by decide) (by decide) ?_
          refine ⟨_, rfl, rfl, Or.inl ⟨rfl, fun b hb => ?_⟩⟩
          have h9 : b = 0 ∨ b = 1 ∨ b = 2 := by omega
          rcases h9 with rfl | rfl | rfl <;> assumption
        · refine h_al_g C dX9_inFlight_12 rfl rfl rfv_r ?_
          refine gs_X9_46 C dX9_inFlight_13 hM.kX (hM.fA (i := 10) (by decide)) ?_
          refine h_iload_g C dX9_inFlight_16 rfl rfl ?_
          refine h_aald (r := some _) C dX9_inFlight_17 (hM.kr (by decide)) (inb (hM.ln3 (by decide)) (vp_in_nI he (by decide))) (atI (cl_of (n := e) (by have h9 := he; omega)) (hM.tb (t := 3) (by decide) he)) ?_
          refine h_iload_g C dX9_inFlight_18 rfl rfl ?_
          refine h_iald C dX9_inFlight_19 (hM.k11 (by have h0_ := he; omega)) (inb (hM.ln3 (by have h0_ := he; omega)) (vp_in_nI (n := 2) (by decide) (by decide))) (atI (show Int32.toNatClampNeg 2 = 2 from rfl) (hM.t3 he (by decide))) ?_
          refine h_iload_g C dX9_inFlight_20 rfl rfl ?_
          refine h_icmp_ne (tgt := 26) C dX9_inFlight_21 (by decide) (fun c14 => ?_) (fun c14 => ?_)
          · have nc14 := FLX_no c14
            refine h_iinc_3 (q := 1) C dX9_inFlight_26 (by decide) ct_i ?_
            rw [show (2 + 1 : Int32) = 3 from by decide]
            refine h_goto (tgt := 2) C dX9_inFlight_29 (by decide) ?_
            refine h_iload_g C dX9_inFlight_2 rfl rfl ?_
            refine h_iconst (v := 3) C dX9_inFlight_3 (by decide) ?_
            refine h_icmp_ge (tgt := 32) C dX9_inFlight_4 (by decide) (fun c15 => ?_) (fun c15 => absurd (by decide) c15)
            refine h_iconst (v := (-1)) C dX9_inFlight_32 (by decide) ?_
            refine h_iret C E dX9_inFlight_33 (by decide) (by decide) ?_
            refine ⟨_, rfl, rfl, Or.inl ⟨rfl, fun b hb => ?_⟩⟩
            have h9 : b = 0 ∨ b = 1 ∨ b = 2 := by omega
            rcases h9 with rfl | rfl | rfl <;> assumption
          · refine h_iload_g C dX9_inFlight_24 rfl rfl ?_
            refine h_iret C E dX9_inFlight_25 (by decide) (by decide) ?_
            first | exact ⟨_, rfl, rfl, Or.inr ⟨0, rfl, by decide, FLX_is (by assumption) hn, fun b' hb' => absurd hb' (Nat.not_lt_zero _)⟩⟩ | exact ⟨_, rfl, rfl, Or.inr ⟨1, rfl, by decide, FLX_is (by assumption) hn, fun b' hb' => by
        have h9 : b' = 0 := by omega
        subst h9
        assumption⟩⟩ | exact ⟨_, rfl, rfl, Or.inr ⟨2, rfl, by decide, FLX_is (by assumption) hn, fun b' hb' => by
        have h9 : b' = 0 ∨ b' = 1 := by omega
        rcases h9 with rfl | rfl <;> assumption⟩⟩
      · refine h_iload_g C dX9_inFlight_24 rfl rfl ?_
        refine h_iret C E dX9_inFlight_25 (by decide) (by decide) ?_
        first | exact ⟨_, rfl, rfl, Or.inr ⟨0, rfl, by decide, FLX_is (by assumption) hn, fun b' hb' => absurd hb' (Nat.not_lt_zero _)⟩⟩ | exact ⟨_, rfl, rfl, Or.inr ⟨1, rfl, by decide, FLX_is (by assumption) hn, fun b' hb' => by
        have h9 : b' = 0 := by omega
        subst h9
        assumption⟩⟩ | exact ⟨_, rfl, rfl, Or.inr ⟨2, rfl, by decide, FLX_is (by assumption) hn, fun b' hb' => by
        have h9 : b' = 0 ∨ b' = 1 := by omega
        rcases h9 with rfl | rfl <;> assumption⟩⟩
  · refine h_al_g C dX9_inFlight_12 rfl rfl rfv_r ?_
    refine gs_X9_46 C dX9_inFlight_13 hM.kX (hM.fA (i := 10) (by decide)) ?_
    refine h_iload_g C dX9_inFlight_16 rfl rfl ?_
    refine h_aald (r := some _) C dX9_inFlight_17 (hM.kr (by decide)) (inb (hM.ln3 (by decide)) (vp_in_nI he (by decide))) (atI (cl_of (n := e) (by have h9 := he; omega)) (hM.tb (t := 3) (by decide) he)) ?_
    refine h_iload_g C dX9_inFlight_18 rfl rfl ?_
    refine h_iald C dX9_inFlight_19 (hM.k11 (by have h0_ := he; omega)) (inb (hM.ln3 (by have h0_ := he; omega)) (vp_in_nI (n := 0) (by decide) (by decide))) (atI (show Int32.toNatClampNeg 0 = 0 from rfl) (hM.t3 he (by decide))) ?_
    refine h_iload_g C dX9_inFlight_20 rfl rfl ?_
    refine h_icmp_ne (tgt := 26) C dX9_inFlight_21 (by decide) (fun c16 => ?_) (fun c16 => ?_)
    · have nc16 := FLX_no c16
      refine h_iinc_3 (q := 1) C dX9_inFlight_26 (by decide) ct_i ?_
      rw [show (0 + 1 : Int32) = 1 from by decide]
      refine h_goto (tgt := 2) C dX9_inFlight_29 (by decide) ?_
      refine h_iload_g C dX9_inFlight_2 rfl rfl ?_
      refine h_iconst (v := 3) C dX9_inFlight_3 (by decide) ?_
      refine h_icmp_ge (tgt := 32) C dX9_inFlight_4 (by decide) (fun c17 => absurd c17 (by decide)) (fun c17 => ?_)
      refine h_iload_g C dX9_inFlight_7 rfl rfl ?_
      refine h_iload_g C dX9_inFlight_8 rfl rfl ?_
      refine h_icmp_eq (tgt := 26) C dX9_inFlight_9 (by decide) (fun c18 => ?_) (fun c18 => ?_)
      · have nc18 := hse _ c18 (by decide)
        refine h_iinc_3 (q := 1) C dX9_inFlight_26 (by decide) ct_i ?_
        rw [show (1 + 1 : Int32) = 2 from by decide]
        refine h_goto (tgt := 2) C dX9_inFlight_29 (by decide) ?_
        refine h_iload_g C dX9_inFlight_2 rfl rfl ?_
        refine h_iconst (v := 3) C dX9_inFlight_3 (by decide) ?_
        refine h_icmp_ge (tgt := 32) C dX9_inFlight_4 (by decide) (fun c19 => absurd c19 (by decide)) (fun c19 => ?_)
        refine h_iload_g C dX9_inFlight_7 rfl rfl ?_
        refine h_iload_g C dX9_inFlight_8 rfl rfl ?_
        refine h_icmp_eq (tgt := 26) C dX9_inFlight_9 (by decide) (fun c20 => ?_) (fun c20 => ?_)
        · have nc20 := hse _ c20 (by decide)
          refine h_iinc_3 (q := 1) C dX9_inFlight_26 (by decide) ct_i ?_
          rw [show (2 + 1 : Int32) = 3 from by decide]
          refine h_goto (tgt := 2) C dX9_inFlight_29 (by decide) ?_
          refine h_iload_g C dX9_inFlight_2 rfl rfl ?_
          refine h_iconst (v := 3) C dX9_inFlight_3 (by decide) ?_
          refine h_icmp_ge (tgt := 32) C dX9_inFlight_4 (by decide) (fun c21 => ?_) (fun c21 => absurd (by decide) c21)
          refine h_iconst (v := (-1)) C dX9_inFlight_32 (by decide) ?_
          refine h_iret C E dX9_inFlight_33 (by decide) (by decide) ?_
          refine ⟨_, rfl, rfl, Or.inl ⟨rfl, fun b hb => ?_⟩⟩
          have h9 : b = 0 ∨ b = 1 ∨ b = 2 := by omega
          rcases h9 with rfl | rfl | rfl <;> assumption
        · refine h_al_g C dX9_inFlight_12 rfl rfl rfv_r ?_
          refine gs_X9_46 C dX9_inFlight_13 hM.kX (hM.fA (i := 10) (by decide)) ?_
          refine h_iload_g C dX9_inFlight_16 rfl rfl ?_
          refine h_aald (r := some _) C dX9_inFlight_17 (hM.kr (by decide)) (inb (hM.ln3 (by decide)) (vp_in_nI he (by decide))) (atI (cl_of (n := e) (by have h9 := he; omega)) (hM.tb (t := 3) (by decide) he)) ?_
          refine h_iload_g C dX9_inFlight_18 rfl rfl ?_
          refine h_iald C dX9_inFlight_19 (hM.k11 (by have h0_ := he; omega)) (inb (hM.ln3 (by have h0_ := he; omega)) (vp_in_nI (n := 2) (by decide) (by decide))) (atI (show Int32.toNatClampNeg 2 = 2 from rfl) (hM.t3 he (by decide))) ?_
          refine h_iload_g C dX9_inFlight_20 rfl rfl ?_
          refine h_icmp_ne (tgt := 26) C dX9_inFlight_21 (by decide) (fun c22 => ?_) (fun c22 => ?_)
          · have nc22 := FLX_no c22
            refine h_iinc_3 (q := 1) C dX9_inFlight_26 (by decide) ct_i ?_
            rw [show (2 + 1 : Int32) = 3 from by decide]
            refine h_goto (tgt := 2) C dX9_inFlight_29 (by decide) ?_
            refine h_iload_g C dX9_inFlight_2 rfl rfl ?_
            refine h_iconst (v := 3) C dX9_inFlight_3 (by decide) ?_
            refine h_icmp_ge (tgt := 32) C dX9_inFlight_4 (by decide) (fun c23 => ?_) (fun c23 => absurd (by decide) c23)
            refine h_iconst (v := (-1)) C dX9_inFlight_32 (by decide) ?_
            refine h_iret C E dX9_inFlight_33 (by decide) (by decide) ?_
            refine ⟨_, rfl, rfl, Or.inl ⟨rfl, fun b hb => ?_⟩⟩
            have h9 : b = 0 ∨ b = 1 ∨ b = 2 := by omega
            rcases h9 with rfl | rfl | rfl <;> assumption
          · refine h_iload_g C dX9_inFlight_24 rfl rfl ?_
            refine h_iret C E dX9_inFlight_25 (by decide) (by decide) ?_
            first | exact ⟨_, rfl, rfl, Or.inr ⟨0, rfl, by decide, FLX_is (by assumption) hn, fun b' hb' => absurd hb' (Nat.not_lt_zero _)⟩⟩ | exact ⟨_, rfl, rfl, Or.inr ⟨1, rfl, by decide, FLX_is (by assumption) hn, fun b' hb' => by
        have h9 : b' = 0 := by omega
        subst h9
        assumption⟩⟩ | exact ⟨_, rfl, rfl, Or.inr ⟨2, rfl, by decide, FLX_is (by assumption) hn, fun b' hb' => by
        have h9 : b' = 0 ∨ b' = 1 := by omega
        rcases h9 with rfl | rfl <;> assumption⟩⟩
      · refine h_al_g C dX9_inFlight_12 rfl rfl rfv_r ?_
        refine gs_X9_46 C dX9_inFlight_13 hM.kX (hM.fA (i := 10) (by decide)) ?_
        refine h_iload_g C dX9_inFlight_16 rfl rfl ?_
        refine h_aald (r := some _) C dX9_inFlight_17 (hM.kr (by decide)) (inb (hM.ln3 (by decide)) (vp_in_nI he (by decide))) (atI (cl_of (n := e) (by have h9 := he; omega)) (hM.tb (t := 3) (by decide) he)) ?_
        refine h_iload_g C dX9_inFlight_18 rfl rfl ?_
        refine h_iald C dX9_inFlight_19 (hM.k11 (by have h0_ := he; omega)) (inb (hM.ln3 (by have h0_ := he; omega)) (vp_in_nI (n := 1) (by decide) (by decide))) (atI (show Int32.toNatClampNeg 1 = 1 from rfl) (hM.t3 he (by decide))) ?_
        refine h_iload_g C dX9_inFlight_20 rfl rfl ?_
        refine h_icmp_ne (tgt := 26) C dX9_inFlight_21 (by decide) (fun c24 => ?_) (fun c24 => ?_)
        · have nc24 := FLX_no c24
          refine h_iinc_3 (q := 1) C dX9_inFlight_26 (by decide) ct_i ?_
          rw [show (1 + 1 : Int32) = 2 from by decide]
          refine h_goto (tgt := 2) C dX9_inFlight_29 (by decide) ?_
          refine h_iload_g C dX9_inFlight_2 rfl rfl ?_
          refine h_iconst (v := 3) C dX9_inFlight_3 (by decide) ?_
          refine h_icmp_ge (tgt := 32) C dX9_inFlight_4 (by decide) (fun c25 => absurd c25 (by decide)) (fun c25 => ?_)
          refine h_iload_g C dX9_inFlight_7 rfl rfl ?_
          refine h_iload_g C dX9_inFlight_8 rfl rfl ?_
          refine h_icmp_eq (tgt := 26) C dX9_inFlight_9 (by decide) (fun c26 => ?_) (fun c26 => ?_)
          · have nc26 := hse _ c26 (by decide)
            refine h_iinc_3 (q := 1) C dX9_inFlight_26 (by decide) ct_i ?_
            rw [show (2 + 1 : Int32) = 3 from by decide]
            refine h_goto (tgt := 2) C dX9_inFlight_29 (by decide) ?_
            refine h_iload_g C dX9_inFlight_2 rfl rfl ?_
            refine h_iconst (v := 3) C dX9_inFlight_3 (by decide) ?_
            refine h_icmp_ge (tgt := 32) C dX9_inFlight_4 (by decide) (fun c27 => ?_) (fun c27 => absurd (by decide) c27)
            refine h_iconst (v := (-1)) C dX9_inFlight_32 (by decide) ?_
            refine h_iret C E dX9_inFlight_33 (by decide) (by decide) ?_
            refine ⟨_, rfl, rfl, Or.inl ⟨rfl, fun b hb => ?_⟩⟩
            have h9 : b = 0 ∨ b = 1 ∨ b = 2 := by omega
            rcases h9 with rfl | rfl | rfl <;> assumption
          · refine h_al_g C dX9_inFlight_12 rfl rfl rfv_r ?_
            refine gs_X9_46 C dX9_inFlight_13 hM.kX (hM.fA (i := 10) (by decide)) ?_
            refine h_iload_g C dX9_inFlight_16 rfl rfl ?_
            refine h_aald (r := some _) C dX9_inFlight_17 (hM.kr (by decide)) (inb (hM.ln3 (by decide)) (vp_in_nI he (by decide))) (atI (cl_of (n := e) (by have h9 := he; omega)) (hM.tb (t := 3) (by decide) he)) ?_
            refine h_iload_g C dX9_inFlight_18 rfl rfl ?_
            refine h_iald C dX9_inFlight_19 (hM.k11 (by have h0_ := he; omega)) (inb (hM.ln3 (by have h0_ := he; omega)) (vp_in_nI (n := 2) (by decide) (by decide))) (atI (show Int32.toNatClampNeg 2 = 2 from rfl) (hM.t3 he (by decide))) ?_
            refine h_iload_g C dX9_inFlight_20 rfl rfl ?_
            refine h_icmp_ne (tgt := 26) C dX9_inFlight_21 (by decide) (fun c28 => ?_) (fun c28 => ?_)
            · have nc28 := FLX_no c28
              refine h_iinc_3 (q := 1) C dX9_inFlight_26 (by decide) ct_i ?_
              rw [show (2 + 1 : Int32) = 3 from by decide]
              refine h_goto (tgt := 2) C dX9_inFlight_29 (by decide) ?_
              refine h_iload_g C dX9_inFlight_2 rfl rfl ?_
              refine h_iconst (v := 3) C dX9_inFlight_3 (by decide) ?_
              refine h_icmp_ge (tgt := 32) C dX9_inFlight_4 (by decide) (fun c29 => ?_) (fun c29 => absurd (by decide) c29)
              refine h_iconst (v := (-1)) C dX9_inFlight_32 (by decide) ?_
              refine h_iret C E dX9_inFlight_33 (by decide) (by decide) ?_
              refine ⟨_, rfl, rfl, Or.inl ⟨rfl, fun b hb => ?_⟩⟩
              have h9 : b = 0 ∨ b = 1 ∨ b = 2 := by omega
              rcases h9 with rfl | rfl | rfl <;> assumption
            · refine h_iload_g C dX9_inFlight_24 rfl rfl ?_
              refine h_iret C E dX9_inFlight_25 (by decide) (by decide) ?_
              first | exact ⟨_, rfl, rfl, Or.inr ⟨0, rfl, by decide, FLX_is (by assumption) hn, fun b' hb' => absurd hb' (Nat.not_lt_zero _)⟩⟩ | exact ⟨_, rfl, rfl, Or.inr ⟨1, rfl, by decide, FLX_is (by assumption) hn, fun b' hb' => by
        have h9 : b' = 0 := by omega
        subst h9
        assumption⟩⟩ | exact ⟨_, rfl, rfl, Or.inr ⟨2, rfl, by decide, FLX_is (by assumption) hn, fun b' hb' => by
        have h9 : b' = 0 ∨ b' = 1 := by omega
        rcases h9 with rfl | rfl <;> assumption⟩⟩
        · refine h_iload_g C dX9_inFlight_24 rfl rfl ?_
          refine h_iret C E dX9_inFlight_25 (by decide) (by decide) ?_
          first | exact ⟨_, rfl, rfl, Or.inr ⟨0, rfl, by decide, FLX_is (by assumption) hn, fun b' hb' => absurd hb' (Nat.not_lt_zero _)⟩⟩ | exact ⟨_, rfl, rfl, Or.inr ⟨1, rfl, by decide, FLX_is (by assumption) hn, fun b' hb' => by
        have h9 : b' = 0 := by omega
        subst h9
        assumption⟩⟩ | exact ⟨_, rfl, rfl, Or.inr ⟨2, rfl, by decide, FLX_is (by assumption) hn, fun b' hb' => by
        have h9 : b' = 0 ∨ b' = 1 := by omega
        rcases h9 with rfl | rfl <;> assumption⟩⟩
    · refine h_iload_g C dX9_inFlight_24 rfl rfl ?_
      refine h_iret C E dX9_inFlight_25 (by decide) (by decide) ?_
      first | exact ⟨_, rfl, rfl, Or.inr ⟨0, rfl, by decide, FLX_is (by assumption) hn, fun b' hb' => absurd hb' (Nat.not_lt_zero _)⟩⟩ | exact ⟨_, rfl, rfl, Or.inr ⟨1, rfl, by decide, FLX_is (by assumption) hn, fun b' hb' => by
        have h9 : b' = 0 := by omega
        subst h9
        assumption⟩⟩ | exact ⟨_, rfl, rfl, Or.inr ⟨2, rfl, by decide, FLX_is (by assumption) hn, fun b' hb' => by
        have h9 : b' = 0 ∨ b' = 1 := by omega
        rcases h9 with rfl | rfl <;> assumption⟩⟩

set_option maxRecDepth 100000 in
set_option maxHeartbeats 1000000 in
theorem lp_X9_given {Z : Zx} {Post : Option Value → Mem → Prop} {PostX : String → Mem → Prop} {rc rs mc ms : Nat} {Q : Nat → Nat} {S : Sx} {t : Int32} {μ : Mem} (hM : MRq Q S (LXo S t) μ) {a : Nat} (ha : a < 3) {x : Int32} (hx : okInn x) (hok : ∀ r ∈ S.rt a, okRw r) (C : Cx Z RX9 cX9_given 0 rc rs 0) (E : Rt Z mc ms (some .int) Post PostX) {k n : Nat} (hk : k ≤ mc) (hn : n ≤ ms) (hk2 : k ≤ rc) (hn2 : n ≤ rs) :
    ∀ (m j : Nat) (most peer : Int32), j + m = (S.rt a).length → (∀ v, v = GVN x ((S.rt a).drop j) most peer → Post (some (.int v)) μ) → ∀ z6 : Option Value, HW Z k n 8 [some (.ref (Q 0)), some (.int (nI a)), some (.int x), some (.int most), some (.int peer), some (.int (nI j)), z6] [] μ := by
  have h8 := (hM.rt ha).1
  intro m
  induction m with
  | zero =>
    intro j most peer hj hP z6
    refine h_iload_w C dX9_given_8 rfl ?_
    refine h_al_g C dX9_given_10 rfl rfl rfv_r ?_
    refine gs_X9_17 C dX9_given_11 hM.kX (hM.fA (i := 2) (by decide)) ?_
    refine h_iload_g C dX9_given_14 rfl rfl ?_
    refine h_iald C dX9_given_15 (hM.k11 (by decide)) (inb (hM.ln3 (by decide)) (vp_in_nI ha (by decide))) (atI (cl_of (n := a) (by have h9 := ha; omega)) (hM.a2 ha)) ?_
    refine h_icmp_ge (tgt := 72) C dX9_given_16 (by decide) (fun c1 => ?_) (fun c1 => absurd ((nI_le (show (LXo S t).rl a ≤ j from by show (S.rt a).length ≤ j; omega) (by omega))) c1)
    refine h_iload_w C dX9_given_72 rfl ?_
    refine h_iret C E dX9_given_74 hk hn ?_
    exact hP _ (by rw [List.drop_eq_nil_of_le (by omega)]; rfl)
  | succ m ih =>
    intro j most peer hj hP z6
    have hjl : j < (S.rt a).length := by omega
    have hdr : (S.rt a).drop j = (S.rt a)[j] :: (S.rt a).drop (j + 1) := List.drop_eq_getElem_cons hjl
    obtain ⟨z, z1, z2⟩ := (hM.rt ha).2 j _ (List.getElem?_eq_getElem hjl)
    have hG : ((x ^^^ (S.rt a)[j] 0) >>> ((8 - (S.rt a)[j] 1) &&& 31) = 0) ↔ TOPB x ((S.rt a)[j] 1) = (S.rt a)[j] 0 := by
      obtain ⟨xn, x1, x2⟩ := hx
      obtain ⟨p9, b9, p1, p2, p3, p4, p5⟩ := hok _ (List.getElem_mem hjl)
      rw [x2, p3, p4]
      exact GVN_c x1 p1 p2 p5
    refine h_iload_w C dX9_given_8 rfl ?_
    refine h_al_g C dX9_given_10 rfl rfl rfv_r ?_
    refine gs_X9_17 C dX9_given_11 hM.kX (hM.fA (i := 2) (by decide)) ?_
    refine h_iload_g C dX9_given_14 rfl rfl ?_
    refine h_iald C dX9_given_15 (hM.k11 (by decide)) (inb (hM.ln3 (by decide)) (vp_in_nI ha (by decide))) (atI (cl_of (n := a) (by have h9 := ha; omega)) (hM.a2 ha)) ?_
    refine h_icmp_ge (tgt := 72) C dX9_given_16 (by decide) (fun c1 => absurd c1 ((nI_ge (show j < (LXo S t).rl a from by show j < (S.rt a).length; omega) (by show (S.rt a).length < 2 ^ 31; omega)))) (fun c1 => ?_)
    refine h_al_g C dX9_given_19 rfl rfl rfv_r ?_
    refine gs_X9_32 C dX9_given_20 hM.kX (hM.fA (i := 6) (by decide)) ?_
    refine h_iload_g C dX9_given_23 rfl rfl ?_
    refine h_aald (r := some _) C dX9_given_24 (hM.kr (by decide)) (inb (hM.ln3 (by decide)) (vp_in_nI ha (by decide))) (atI (cl_of (n := a) (by have h9 := ha; omega)) (hM.ro ha)) ?_
    refine h_iload_w C dX9_given_25 rfl ?_
    refine h_aald (r := some _) C dX9_given_27 (hM.kr (by omega)) (inb (hM.ln8 (by omega)) (vp_in_nI (by omega) (by decide))) (atI (cl_of (by omega)) z1) ?_
    refine h_ast_6 C dX9_given_28 ct_i rfv_r ?_
    refine h_al_w (j := 0) C dX9_given_30 rfl rfv_r ?_
    refine h_iconst (v := 1) C dX9_given_32 (by decide) ?_
    refine h_iald C dX9_given_33 (by rw [z2.1]; decide) (inb z2.2.1 (vp_in_nI (n := 1) (by decide) (by decide))) (z2.2.2 1 (by decide)) ?_
    refine h_iload_g C dX9_given_34 rfl rfl ?_
    refine h_icmp_le (tgt := 66) C dX9_given_35 (by decide) (fun c1 => ?_) (fun c1 => ?_)
    · refine h_iinc_5 (q := 1) C dX9_given_66 (by decide) ct_i ?_
      refine h_goto (tgt := 8) C dX9_given_69 (by decide) ?_
      rw [nI_1]
      exact ih (j + 1) _ _ (by omega) (fun v hv => hP v (by rw [hdr]; unfold GVN; rw [if_neg (fun z => absurd z.1 (Int32.not_lt.mpr c1))]; exact hv)) _
    · refine h_iload_g C dX9_given_38 rfl rfl ?_
      refine h_al_w (j := 0) C dX9_given_39 rfl rfv_r ?_
      refine h_iconst (v := 0) C dX9_given_41 (by decide) ?_
      refine h_iald C dX9_given_42 (by rw [z2.1]; decide) (inb z2.2.1 (vp_in_nI (n := 0) (by decide) (by decide))) (z2.2.2 0 (by decide)) ?_
      refine h_ixor C dX9_given_43 ?_
      refine h_bipush (v := 8) C dX9_given_44 (by decide) ?_
      refine h_al_w (j := 0) C dX9_given_46 rfl rfv_r ?_
      refine h_iconst (v := 1) C dX9_given_48 (by decide) ?_
      refine h_iald C dX9_given_49 (by rw [z2.1]; decide) (inb z2.2.1 (vp_in_nI (n := 1) (by decide) (by decide))) (z2.2.2 1 (by decide)) ?_
      refine h_isub C dX9_given_50 ?_
      refine h_ishr C dX9_given_51 ?_
      refine h_if_ne (tgt := 66) C dX9_given_52 (by decide) (fun c2 => ?_) (fun c2 => ?_)
      · refine h_iinc_5 (q := 1) C dX9_given_66 (by decide) ct_i ?_
        refine h_goto (tgt := 8) C dX9_given_69 (by decide) ?_
        rw [nI_1]
        exact ih (j + 1) _ _ (by omega) (fun v hv => hP v (by rw [hdr]; unfold GVN; rw [if_neg (fun z => c2 (hG.mpr z.2))]; exact hv)) _
      · refine h_al_w (j := 0) C dX9_given_55 rfl rfv_r ?_
        refine h_iconst (v := 1) C dX9_given_57 (by decide) ?_
        refine h_iald C dX9_given_58 (by rw [z2.1]; decide) (inb z2.2.1 (vp_in_nI (n := 1) (by decide) (by decide))) (z2.2.2 1 (by decide)) ?_
        refine h_ist_3 C dX9_given_59 ct_i ?_
        refine h_al_w (j := 0) C dX9_given_60 rfl rfv_r ?_
        refine h_iconst (v := 2) C dX9_given_62 (by decide) ?_
        refine h_iald C dX9_given_63 (by rw [z2.1]; decide) (inb z2.2.1 (vp_in_nI (n := 2) (by decide) (by decide))) (z2.2.2 2 (by decide)) ?_
        refine h_ist_4 C dX9_given_64 ct_i ?_
        refine h_iinc_5 (q := 1) C dX9_given_66 (by decide) ct_i ?_
        refine h_goto (tgt := 8) C dX9_given_69 (by decide) ?_
        rw [nI_1]
        exact ih (j + 1) _ _ (by omega) (fun v hv => hP v (by rw [hdr]; unfold GVN; rw [if_pos ⟨Int32.not_le.mp c1, hG.mp c2⟩]; exact hv)) _

set_option maxRecDepth 100000 in
set_option maxHeartbeats 1000000 in
theorem k_X9_given (l : Launch) (G : Gx) (Q : Nat → Nat) (S : Sx) (t : Int32) (μ : Mem) (hM : MRq Q S (LXo S t) μ) (a : Nat) (ha : a < 3) (xa : Int32) (hxa : xa = nI a) (x : Int32) (hx : okInn x) (hok : ∀ r ∈ S.rt a, okRw r) : Kon l yX9_given cX9_given 7 (some .int) 0 0 0 0 G [.ref (Q 0), .int xa, .int x] μ (pI fun v μ' => μ = μ' ∧ v = GVN x (S.rt a) (-1) (-1)) noX := by
  refine Kon.ofG (by decide +kernel) (Nat.le_of_ble_eq_true rfl) (Nat.le_of_ble_eq_true rfl) (fun Z hZG C E NT MT => ?_)
  subst hZG
  have C : Cx Z RX9 cX9_given 0 0 0 0 := C
  show HW Z 0 0 0 [some (.ref (Q 0)), some (.int xa), some (.int x), none, none, none, none] [] μ
  subst hxa
  refine h_iconst (v := (-1)) C dX9_given_0 (by decide) ?_
  refine h_ist_3 C dX9_given_1 ct_i ?_
  refine h_iconst (v := (-1)) C dX9_given_2 (by decide) ?_
  refine h_ist_4 C dX9_given_3 ct_i ?_
  refine h_iconst (v := 0) C dX9_given_5 (by decide) ?_
  refine h_ist_5 C dX9_given_6 ct_i ?_
  exact lp_X9_given hM ha hx hok C E (Nat.le_refl _) (Nat.le_refl _) (Nat.le_refl _) (Nat.le_refl _) (S.rt a).length 0 _ _ (by omega) (fun v hv => ⟨v, rfl, rfl, hv⟩) _

set_option maxRecDepth 100000 in
set_option maxHeartbeats 1000000 in
theorem lp_X9_place {Z : Zx} {Post : Option Value → Mem → Prop} {PostX : String → Mem → Prop} {rc rs mc ms : Nat} {Q : Nat → Nat} {S : Sx} {t : Int32} {μ : Mem} (hM : MRq Q S (LXo S t) μ) {a : Nat} (ha : a < 3) {p b : Int32} (C : Cx Z RX9 cX9_place 0 rc rs 0) (E : Rt Z mc ms (some .int) Post PostX) {k n : Nat} (hk : k ≤ mc) (hn : n ≤ ms) (hk2 : k ≤ rc) (hn2 : n ≤ rs) :
    ∀ (m j : Nat), j + m = (S.rt a).length → (∀ v, v = PRI p b ((S.rt a).drop j) j → Post (some (.int v)) μ) → HW Z k n 3 [some (.ref (Q 0)), some (.int (nI a)), some (.int p), some (.int b), some (.int (nI j))] [] μ := by
  have h8 := (hM.rt ha).1
  intro m
  induction m with
  | zero =>
    intro j hj hP
    refine h_iload_w C dX9_place_3 rfl ?_
    refine h_al_g C dX9_place_5 rfl rfl rfv_r ?_
    refine gs_X9_17 C dX9_place_6 hM.kX (hM.fA (i := 2) (by decide)) ?_
    refine h_iload_g C dX9_place_9 rfl rfl ?_
    refine h_iald C dX9_place_10 (hM.k11 (by decide)) (inb (hM.ln3 (by decide)) (vp_in_nI ha (by decide))) (atI (cl_of (n := a) (by have h9 := ha; omega)) (hM.a2 ha)) ?_
    refine h_icmp_ge (tgt := 53) C dX9_place_11 (by decide) (fun c1 => ?_) (fun c1 => absurd ((nI_le (show (LXo S t).rl a ≤ j from by show (S.rt a).length ≤ j; omega) (by omega))) c1)
    refine h_iconst (v := (-1)) C dX9_place_53 (by decide) ?_
    refine h_iret C E dX9_place_54 hk hn ?_
    exact hP _ (by rw [List.drop_eq_nil_of_le (by omega)]; rfl)
  | succ m ih =>
    intro j hj hP
    have hjl : j < (S.rt a).length := by omega
    have hdr : (S.rt a).drop j = (S.rt a)[j] :: (S.rt a).drop (j + 1) := List.drop_eq_getElem_cons hjl
    obtain ⟨z, z1, z2⟩ := (hM.rt ha).2 j _ (List.getElem?_eq_getElem hjl)
    refine h_iload_w C dX9_place_3 rfl ?_
    refine h_al_g C dX9_place_5 rfl rfl rfv_r ?_
    refine gs_X9_17 C dX9_place_6 hM.kX (hM.fA (i := 2) (by decide)) ?_
    refine h_iload_g C dX9_place_9 rfl rfl ?_
    refine h_iald C dX9_place_10 (hM.k11 (by decide)) (inb (hM.ln3 (by decide)) (vp_in_nI ha (by decide))) (atI (cl_of (n := a) (by have h9 := ha; omega)) (hM.a2 ha)) ?_
    refine h_icmp_ge (tgt := 53) C dX9_place_11 (by decide) (fun c1 => absurd c1 ((nI_ge (show j < (LXo S t).rl a from by show j < (S.rt a).length; omega) (by show (S.rt a).length < 2 ^ 31; omega)))) (fun c1 => ?_)
    refine h_al_g C dX9_place_14 rfl rfl rfv_r ?_
    refine gs_X9_32 C dX9_place_15 hM.kX (hM.fA (i := 6) (by decide)) ?_
    refine h_iload_g C dX9_place_18 rfl rfl ?_
    refine h_aald (r := some _) C dX9_place_19 (hM.kr (by decide)) (inb (hM.ln3 (by decide)) (vp_in_nI ha (by decide))) (atI (cl_of (n := a) (by have h9 := ha; omega)) (hM.ro ha)) ?_
    refine h_iload_w C dX9_place_20 rfl ?_
    refine h_aald (r := some _) C dX9_place_22 (hM.kr (by omega)) (inb (hM.ln8 (by omega)) (vp_in_nI (by omega) (by decide))) (atI (cl_of (by omega)) z1) ?_
    refine h_iconst (v := 0) C dX9_place_23 (by decide) ?_
    refine h_iald C dX9_place_24 (by rw [z2.1]; decide) (inb z2.2.1 (vp_in_nI (n := 0) (by decide) (by decide))) (z2.2.2 0 (by decide)) ?_
    refine h_iload_g C dX9_place_25 rfl rfl ?_
    refine h_icmp_ne (tgt := 47) C dX9_place_26 (by decide) (fun c1 => ?_) (fun c1 => ?_)
    · refine h_iinc_4 (q := 1) C dX9_place_47 (by decide) ct_i ?_
      refine h_goto (tgt := 3) C dX9_place_50 (by decide) ?_
      rw [nI_1]
      exact ih (j + 1) (by omega) (fun v hv => hP v (by rw [hdr]; unfold PRI; rw [if_neg (fun z => c1 z.1)]; exact hv))
    · refine h_al_g C dX9_place_29 rfl rfl rfv_r ?_
      refine gs_X9_32 C dX9_place_30 hM.kX (hM.fA (i := 6) (by decide)) ?_
      refine h_iload_g C dX9_place_33 rfl rfl ?_
      refine h_aald (r := some _) C dX9_place_34 (hM.kr (by decide)) (inb (hM.ln3 (by decide)) (vp_in_nI ha (by decide))) (atI (cl_of (n := a) (by have h9 := ha; omega)) (hM.ro ha)) ?_
      refine h_iload_w C dX9_place_35 rfl ?_
      refine h_aald (r := some _) C dX9_place_37 (hM.kr (by omega)) (inb (hM.ln8 (by omega)) (vp_in_nI (by omega) (by decide))) (atI (cl_of (by omega)) z1) ?_
      refine h_iconst (v := 1) C dX9_place_38 (by decide) ?_
      refine h_iald C dX9_place_39 (by rw [z2.1]; decide) (inb z2.2.1 (vp_in_nI (n := 1) (by decide) (by decide))) (z2.2.2 1 (by decide)) ?_
      refine h_iload_g C dX9_place_40 rfl rfl ?_
      refine h_icmp_ne (tgt := 47) C dX9_place_41 (by decide) (fun c2 => ?_) (fun c2 => ?_)
      · refine h_iinc_4 (q := 1) C dX9_place_47 (by decide) ct_i ?_
        refine h_goto (tgt := 3) C dX9_place_50 (by decide) ?_
        rw [nI_1]
        exact ih (j + 1) (by omega) (fun v hv => hP v (by rw [hdr]; unfold PRI; rw [if_neg (fun z => c2 z.2)]; exact hv))
      · refine h_iload_w C dX9_place_44 rfl ?_
        refine h_iret C E dX9_place_46 hk hn ?_
        exact hP _ (by rw [hdr]; unfold PRI; rw [if_pos ⟨c1, c2⟩])

set_option maxRecDepth 100000 in
set_option maxHeartbeats 1000000 in
theorem k_X9_place (l : Launch) (G : Gx) (Q : Nat → Nat) (S : Sx) (t : Int32) (μ : Mem) (hM : MRq Q S (LXo S t) μ) (a : Nat) (ha : a < 3) (xa : Int32) (hxa : xa = nI a) (p b : Int32) : Kon l yX9_place cX9_place 5 (some .int) 0 0 0 0 G [.ref (Q 0), .int xa, .int p, .int b] μ (pI fun v μ' => μ = μ' ∧ v = PRI p b (S.rt a) 0) noX := by
  refine Kon.ofG (by decide +kernel) (Nat.le_of_ble_eq_true rfl) (Nat.le_of_ble_eq_true rfl) (fun Z hZG C E NT MT => ?_)
  subst hZG
  have C : Cx Z RX9 cX9_place 0 0 0 0 := C
  show HW Z 0 0 0 [some (.ref (Q 0)), some (.int xa), some (.int p), some (.int b), none] [] μ
  subst hxa
  refine h_iconst (v := 0) C dX9_place_0 (by decide) ?_
  refine h_ist_4 C dX9_place_1 ct_i ?_
  exact lp_X9_place hM ha C E (Nat.le_refl _) (Nat.le_refl _) (Nat.le_refl _) (Nat.le_refl _) (S.rt a).length 0 (by omega) (fun v hv => ⟨v, rfl, rfl, hv⟩)

end
