section
set_option maxRecDepth 100000 in
set_option maxHeartbeats 1000000 in
theorem lp_X9_take {Z : Zx} {Post : Option Value → Mem → Prop} {PostX : String → Mem → Prop} {mc ms : Nat} {Q : Nat → Nat} {S : Sx} {t : Int32} {μ : Mem} {i : Nat} {x : Int32} (hM0 : MRq Q S (LXo S t) μ) (hi : i < S.nt.length) (C : Cx Z RX9 cX9_take 0 mc ms 0) (E : Rt Z mc ms none Post PostX) (hP : ∀ m, (MTo Q WPut μ (S.sNt (S.nt.eraseIdx i)) (LXo (S.sNt (S.nt.eraseIdx i)) t) m ∧ ∀ j, m.er (Q 20) j = if i ≤ j ∧ j + 1 < S.nt.length then μ.er (Q 20) (j + 1) else μ.er (Q 20) j) → Post none m) :
    ∀ (m c : Nat) (mz : Mem), c + m = S.nt.length - 1 → i ≤ c → (∀ z, z ≠ Q 20 → SameAt μ mz z) → mz.kd (Q 20) = μ.kd (Q 20) → mz.ln (Q 20) = μ.ln (Q 20) → (∀ j, mz.er (Q 20) j = if i ≤ j ∧ j < c then μ.er (Q 20) (j + 1) else μ.er (Q 20) j) → HW Z mc ms 2 [some (.ref (Q 0)), some (.int x), some (.int (nI c))] [] mz := by
  intro m
  induction m with
  | zero =>
    intro c mz hc hic hs hk hl he
    have hkX : mz.kd (Q 0) % 32 = 10 := by rw [(hs (Q 0) (hM0.neQ (by decide) (by decide) (by decide))).1]; exact hM0.kX
    have hfl : mz.fi 312 (Q 0) = nI S.nt.length := by rw [(hs (Q 0) (hM0.neQ (by decide) (by decide) (by decide))).2.1]; exact hM0.f312
    have hfr : mz.fr 311 (Q 0) = some (Q 20) := by rw [(hs (Q 0) (hM0.neQ (by decide) (by decide) (by decide))).2.2.1]; exact hM0.fA (i := 20) (by decide)
    have e1 : (nI S.nt.length - 1 : Int32) = nI (S.nt.length - 1) := pk_sub (b := 1) (by omega)
    have h60 := hM0.nt.1
    refine h_iload_g C dX9_take_2 rfl rfl ?_
    refine h_al_g C dX9_take_3 rfl rfl rfv_r ?_
    refine gf_X9_95 C dX9_take_4 hkX hfl ?_
    refine h_iconst (v := 1) C dX9_take_7 (by decide) ?_
    refine h_isub C dX9_take_8 ?_
    refine h_icmp_ge (tgt := 32) C dX9_take_9 (by decide) (fun c1 => ?_) (fun c1 => absurd ((by rw [e1]; exact nI_le (by omega) (by omega))) c1)
    have he9 : ∀ j, mz.er (Q 20) j = if i ≤ j ∧ j + 1 < S.nt.length then μ.er (Q 20) (j + 1) else μ.er (Q 20) j := fun j => by
      rw [he j]
      by_cases c9 : i ≤ j ∧ j < c
      · rw [if_pos c9, if_pos ⟨c9.1, by omega⟩]
      · rw [if_neg c9, if_neg (by omega)]
    have hM : MRq Q (S.sNt (S.nt.eraseIdx i)) (LXo S t) mz := hM0.rmL hs hk hl he9
    have hT : MTo Q WPut μ (S.sNt (S.nt.eraseIdx i)) (LXo S t) mz := (MTo.rf hM0).step (a := Q 20) hs (Or.inr (Or.inr (hM0.kd (by decide)))) (Or.inr (by rw [hM0.kd (by decide)]; exact isMk_KM (by decide))) (by rw [hM.kd (by decide)]; exact isMk_KM (by decide)) hM
    refine h_al_g C dX9_take_32 rfl rfl rfv_r ?_
    refine h_dup C dX9_take_33 rfl ?_
    refine gf_X9_95 C dX9_take_34 hM.kX hM.f312 ?_
    refine h_iconst (v := 1) C dX9_take_37 (by decide) ?_
    refine h_isub C dX9_take_38 ?_
    refine pf_X9_95 C dX9_take_39 hM.kX ?_
    refine h_abs (fun m1 em1 => ?_)
    have hT := hT.sfi (Or.inr (Or.inl (hM0.kd (by decide)))) em1 (hT.1.w312 (n := S.nt.length - 1) (em1.trans (congrArg (fun v => Mem.sfi _ 312 (Q 0) v) (show (nI S.nt.length - 1 : Int32) = _ from e1))))
    have hM := hT.1
    have her : ∀ j, m1.er (Q 20) j = mz.er (Q 20) j := fun j => by rw [em1]; rfl
    refine h_ret C E dX9_take_42 (Nat.le_refl _) (Nat.le_refl _) ?_
    refine hP _ ⟨hT.lx (show S.nt.length - 1 = (S.nt.eraseIdx i).length from by rw [List.length_eraseIdx, if_pos hi]) (fun _ _ => rfl) (fun _ _ => rfl) (fun _ _ _ _ => rfl) (fun _ _ _ _ _ _ => rfl) (fun _ _ _ _ _ _ z => z) (fun _ _ _ _ _ _ z => z), fun j => ?_⟩
    rw [her, he]
    by_cases c9 : i ≤ j ∧ j < c
    · rw [if_pos c9, if_pos ⟨c9.1, by omega⟩]
    · rw [if_neg c9, if_neg (by omega)]
  | succ m ih =>
    intro c mz hc hic hs hk hl he
    have hkX : mz.kd (Q 0) % 32 = 10 := by rw [(hs (Q 0) (hM0.neQ (by decide) (by decide) (by decide))).1]; exact hM0.kX
    have hfl : mz.fi 312 (Q 0) = nI S.nt.length := by rw [(hs (Q 0) (hM0.neQ (by decide) (by decide) (by decide))).2.1]; exact hM0.f312
    have hfr : mz.fr 311 (Q 0) = some (Q 20) := by rw [(hs (Q 0) (hM0.neQ (by decide) (by decide) (by decide))).2.2.1]; exact hM0.fA (i := 20) (by decide)
    have e1 : (nI S.nt.length - 1 : Int32) = nI (S.nt.length - 1) := pk_sub (b := 1) (by omega)
    have h60 := hM0.nt.1
    obtain ⟨y, y1, y2⟩ := hM0.row (List.getElem?_eq_getElem (show c + 1 < S.nt.length by omega))
    have hyne : y ≠ Q 20 := hM0.neD (by decide) (by rw [y2.1]; decide)
    refine h_iload_g C dX9_take_2 rfl rfl ?_
    refine h_al_g C dX9_take_3 rfl rfl rfv_r ?_
    refine gf_X9_95 C dX9_take_4 hkX hfl ?_
    refine h_iconst (v := 1) C dX9_take_7 (by decide) ?_
    refine h_isub C dX9_take_8 ?_
    refine h_icmp_ge (tgt := 32) C dX9_take_9 (by decide) (fun c1 => absurd c1 ((by rw [e1]; exact nI_ge (by omega) (by omega)))) (fun c1 => ?_)
    refine h_al_g C dX9_take_12 rfl rfl rfv_r ?_
    refine gs_X9_80 C dX9_take_13 hkX hfr ?_
    refine h_iload_g C dX9_take_16 rfl rfl ?_
    refine h_al_g C dX9_take_17 rfl rfl rfv_r ?_
    refine gs_X9_80 C dX9_take_18 hkX hfr ?_
    refine h_iload_g C dX9_take_21 rfl rfl ?_
    refine h_iconst (v := 1) C dX9_take_22 (by decide) ?_
    refine h_iadd C dX9_take_23 ?_
    refine h_aald (r := some _) C dX9_take_24 (by rw [hk]; exact hM0.kr (by decide)) (inb (hl.trans hM0.ln60) (by rw [nI_1]; exact vp_in_nI (by omega) (by decide))) (atI (show (nI c + 1 : Int32).toNatClampNeg = c + 1 from by rw [nI_1]; exact cl_of (by omega)) ((he (c + 1)).trans ((if_neg (by omega)).trans y1))) ?_
    refine h_aast C dX9_take_25 (by rw [hk, hM0.k17 (by decide), (hs y hyne).1, y2.1]; decide) (inb (hl.trans hM0.ln60) (vp_in_nI (by omega) (by decide))) ?_
    refine h_abs (fun m9 e9 => ?_)
    rw [show (nI c).toNatClampNeg = c from cl_of (by omega)] at e9
    refine h_iinc_2 (q := 1) C dX9_take_26 (by decide) ct_i ?_
    refine h_goto (tgt := 2) C dX9_take_29 (by decide) ?_
    rw [nI_1]
    exact ih (c + 1) m9 (by omega) (by omega) (fun z hz => (hs z hz).tr (by rw [e9]; exact same_ser hz)) (by rw [e9]; exact hk) (by rw [e9]; exact hl) (fun j => by
      by_cases c9 : j = c
      · subst c9
        rw [if_pos ⟨by omega, by omega⟩, mer_at e9]
        exact y1.symm
      · rw [mer_ap e9 (Or.inr c9), he j]
        by_cases c8 : i ≤ j ∧ j < c
        · rw [if_pos c8, if_pos ⟨c8.1, by omega⟩]
        · rw [if_neg c8, if_neg (by omega)])

set_option maxRecDepth 100000 in
set_option maxHeartbeats 1000000 in
theorem k_X9_take (l : Launch) (G : Gx) (Q : Nat → Nat) (S : Sx) (t : Int32) (μ : Mem) (hM : MRq Q S (LXo S t) μ) (i : Nat) (hi : i < S.nt.length) (x : Int32) (hx : x = nI i) : Kon l yX9_take cX9_take 3 none 0 0 0 0 G [.ref (Q 0), .int x] μ (pV fun μ' => MTo Q WPut μ (S.sNt (S.nt.eraseIdx i)) (LXo (S.sNt (S.nt.eraseIdx i)) t) μ' ∧ ∀ j, μ'.er (Q 20) j = if i ≤ j ∧ j + 1 < S.nt.length then μ.er (Q 20) (j + 1) else μ.er (Q 20) j) noX := by
  refine Kon.ofG (by decide +kernel) (Nat.le_of_ble_eq_true rfl) (Nat.le_of_ble_eq_true rfl) (fun Z hZG C E NT MT => ?_)
  subst hZG
  have C : Cx Z RX9 cX9_take 0 0 0 0 := C
  show HW Z 0 0 0 [some (.ref (Q 0)), some (.int x), none] [] μ
  subst hx
  refine h_iload_g C dX9_take_0 rfl rfl ?_
  refine h_ist_2 C dX9_take_1 ct_i ?_
  exact lp_X9_take hM hi C E (fun m9 h9 => ⟨rfl, h9⟩) (S.nt.length - 1 - i) i _ (by omega) (Nat.le_refl _) (fun _ _ => SameAt.rf) rfl rfl (fun j => (if_neg (by omega)).symm)

def WAll : Nat → Prop := fun _ => True
theorem BITn_0 : ∀ c, c < 40 → BITn 0 c = 0 := by decide +kernel
set_option maxRecDepth 100000 in
set_option maxHeartbeats 1000000 in
theorem k_X9_make (l : Launch) (G : Gx) (Q : Nat → Nat) (S : Sx) (l0 : LX) (μ : Mem) (hM : MRq Q S l0 μ) (a : Nat) (ha : a < 3) (xa : Int32) (hxa : xa = nI a) (b : Nat) (hb : b < 3) (xb : Int32) (hxb : xb = nI b) (w : Nat) (hw : w < 3) (xw : Int32) (hxw : xw = nI w) (i o s r g : Int32) (hi : 0 < i.toInt) : Kon l yX9_make cX9_make 9 none 0 2 49 0 G [.ref (Q 0), .int xa, .int xb, .int xw, .int i, .int o, .int s, .int r, .int g] μ (pV fun μ' => MTo Q WAll μ (S.sSes a b w (some (mkS i o (S.sc 0) s r g, 0))) (((l0.sHs a b w False).sHt a b w False).sTk a b w 0) μ') noX := by
  refine Kon.ofG (by decide +kernel) (Nat.le_of_ble_eq_true rfl) (Nat.le_of_ble_eq_true rfl) (fun Z hZG C E NT MT => ?_)
  subst hZG
  have C : Cx Z RX9 cX9_make 0 2 49 0 := C
  show HW Z 0 0 0 [some (.ref (Q 0)), some (.int xa), some (.int xb), some (.int xw), some (.int i), some (.int o), some (.int s), some (.int r), some (.int g)] [] μ
  subst hxa
  subst hxb
  subst hxw
  have hT : MTo Q WAll μ S l0 μ := MTo.rf hM
  refine h_al_g C dX9_make_0 rfl rfl rfv_r ?_
  refine gs_X9_72 C dX9_make_1 hM.kX (hM.fA (i := 18) (by decide)) ?_
  refine h_iload_g C dX9_make_4 rfl rfl ?_
  refine h_aald (r := some _) C dX9_make_5 (hM.kr (by decide)) (inb (hM.ln3 (by decide)) (vp_in_nI ha (by decide))) (atI (cl_of (n := a) (by have h9 := ha; omega)) (hM.d1 (i := 1) (by decide) ha)) ?_
  refine h_iload_g C dX9_make_6 rfl rfl ?_
  refine h_aald (r := some _) C dX9_make_7 (hM.kr (by have h0_ := ha; omega)) (inb (hM.ln3 (by have h0_ := ha; omega)) (vp_in_nI hb (by decide))) (atI (cl_of (n := b) (by have h9 := hb; omega)) (hM.d2 (i := 1) (by decide) ha hb)) ?_
  refine h_iload_g C dX9_make_8 rfl rfl ?_
  refine h_bipush (v := 9) C dX9_make_9 (by decide) ?_
  refine h_newarr (atype := .int) (N := 9) (11 + 32 * 100) C ac_11 (by decide) (Or.inl (by decide)) dX9_make_11 (by decide) (by decide) (by decide) (by first | decide | omega) (by first | decide | omega) (fun q1 hq1 => ?_)
  refine h_abs (fun m1 em1 => ?_)
  have hLq1 := NL.new em1
  have hwq1 := hT.fresh hq1
  have hT := hT.newT hq1 em1
  have hM := hT.1
  refine h_dup C dX9_make_13 rfl ?_
  refine h_iconst (v := 0) C dX9_make_14 (by decide) ?_
  refine h_iload_w C dX9_make_15 rfl ?_
  refine h_iast C dX9_make_17 hLq1.k (inb hLq1.2.1 (vp_in_nI (n := 0) (by decide) (by decide))) ?_
  refine h_abs (fun m2 em2 => ?_)
  rw [show Int32.toNatClampNeg 0 = 0 from rfl] at em2
  have hT := hT.tmp hLq1 hwq1 em2
  have hM := hT.1
  have hLq1 := hLq1.push em2 rfl
  refine h_dup C dX9_make_18 rfl ?_
  refine h_iconst (v := 1) C dX9_make_19 (by decide) ?_
  refine h_iload_w C dX9_make_20 rfl ?_
  refine h_iast C dX9_make_22 hLq1.k (inb hLq1.2.1 (vp_in_nI (n := 1) (by decide) (by decide))) ?_
  refine h_abs (fun m3 em3 => ?_)
  rw [show Int32.toNatClampNeg 1 = 1 from rfl] at em3
  have hT := hT.tmp hLq1 hwq1 em3
  have hM := hT.1
  have hLq1 := hLq1.push em3 rfl
  refine h_dup C dX9_make_23 rfl ?_
  refine h_iconst (v := 2) C dX9_make_24 (by decide) ?_
  refine h_al_g C dX9_make_25 rfl rfl rfv_r ?_
  refine gf_X9_129 C dX9_make_26 hM.kX hM.f288 ?_
  refine h_iast C dX9_make_29 hLq1.k (inb hLq1.2.1 (vp_in_nI (n := 2) (by decide) (by decide))) ?_
  refine h_abs (fun m4 em4 => ?_)
  rw [show Int32.toNatClampNeg 2 = 2 from rfl] at em4
  have hT := hT.tmp hLq1 hwq1 em4
  have hM := hT.1
  have hLq1 := hLq1.push em4 rfl
  refine h_dup C dX9_make_30 rfl ?_
  refine h_iconst (v := 3) C dX9_make_31 (by decide) ?_
  refine h_iload_w C dX9_make_32 rfl ?_
  refine h_iast C dX9_make_34 hLq1.k (inb hLq1.2.1 (vp_in_nI (n := 3) (by decide) (by decide))) ?_
  refine h_abs (fun m5 em5 => ?_)
  rw [show Int32.toNatClampNeg 3 = 3 from rfl] at em5
  have hT := hT.tmp hLq1 hwq1 em5
  have hM := hT.1
  have hLq1 := hLq1.push em5 rfl
  refine h_dup C dX9_make_35 rfl ?_
  refine h_iconst (v := 4) C dX9_make_36 (by decide) ?_
  refine h_iload_w C dX9_make_37 rfl ?_
  refine h_iast C dX9_make_39 hLq1.k (inb hLq1.2.1 (vp_in_nI (n := 4) (by decide) (by decide))) ?_
  refine h_abs (fun m6 em6 => ?_)
  rw [show Int32.toNatClampNeg 4 = 4 from rfl] at em6
  have hT := hT.tmp hLq1 hwq1 em6
  have hM := hT.1
  have hLq1 := hLq1.push em6 rfl
  refine h_dup C dX9_make_40 rfl ?_
  refine h_iconst (v := 5) C dX9_make_41 (by decide) ?_
  refine h_iconst (v := 0) C dX9_make_42 (by decide) ?_
  refine h_iast C dX9_make_43 hLq1.k (inb hLq1.2.1 (vp_in_nI (n := 5) (by decide) (by decide))) ?_
  refine h_abs (fun m7 em7 => ?_)
  rw [show Int32.toNatClampNeg 5 = 5 from rfl] at em7
  have hT := hT.tmp hLq1 hwq1 em7
  have hM := hT.1
  have hLq1 := hLq1.push em7 rfl
  refine h_dup C dX9_make_44 rfl ?_
  refine h_bipush (v := 6) C dX9_make_45 (by decide) ?_
  refine h_iload_w C dX9_make_47 rfl ?_
  refine h_iast C dX9_make_49 hLq1.k (inb hLq1.2.1 (vp_in_nI (n := 6) (by decide) (by decide))) ?_
  refine h_abs (fun m8 em8 => ?_)
  rw [show Int32.toNatClampNeg 6 = 6 from rfl] at em8
  have hT := hT.tmp hLq1 hwq1 em8
  have hM := hT.1
  have hLq1 := hLq1.push em8 rfl
  refine h_dup C dX9_make_50 rfl ?_
  refine h_bipush (v := 7) C dX9_make_51 (by decide) ?_
  refine h_iconst (v := (-1)) C dX9_make_53 (by decide) ?_
  refine h_iast C dX9_make_54 hLq1.k (inb hLq1.2.1 (vp_in_nI (n := 7) (by decide) (by decide))) ?_
  refine h_abs (fun m9 em9 => ?_)
  rw [show Int32.toNatClampNeg 7 = 7 from rfl] at em9
  have hT := hT.tmp hLq1 hwq1 em9
  have hM := hT.1
  have hLq1 := hLq1.push em9 rfl
  refine h_dup C dX9_make_55 rfl ?_
  refine h_bipush (v := 8) C dX9_make_56 (by decide) ?_
  refine h_iconst (v := 0) C dX9_make_58 (by decide) ?_
  refine h_iast C dX9_make_59 hLq1.k (inb hLq1.2.1 (vp_in_nI (n := 8) (by decide) (by decide))) ?_
  refine h_abs (fun m10 em10 => ?_)
  rw [show Int32.toNatClampNeg 8 = 8 from rfl] at em10
  have hT := hT.tmp hLq1 hwq1 em10
  have hM := hT.1
  have hLq1 := hLq1.push em10 rfl
  have hc9 : ∀ j, j < 9 → m10.ei q1 j = mkS i o (S.sc 0) s r g j := fun j hj => by
    have h9 : j = 0 ∨ j = 1 ∨ j = 2 ∨ j = 3 ∨ j = 4 ∨ j = 5 ∨ j = 6 ∨ j = 7 ∨ j = 8 := by omega
    rcases h9 with rfl | rfl | rfl | rfl | rfl | rfl | rfl | rfl | rfl <;> exact hLq1.2.2 _ (Nat.le_of_ble_eq_true rfl)
  refine h_skd q1 (KSE a b w) (by rw [hLq1.1, KSE_m]; decide) (by rw [hLq1.1]; decide) ?_
  have hT := hT.mark hLq1.1 (k := KSE a b w) ⟨by unfold KSE; omega, by unfold KSE; omega⟩ hwq1
  have hM := hT.1
  refine h_aast C dX9_make_60 (by rw [hM.k17 (by omega), kd_skd, KSE_m]; decide) (inb (hM.ln3 (by omega)) (vp_in_nI hw (by decide))) ?_
  refine h_abs (fun m20 e20 => ?_)
  rw [show (nI w).toNatClampNeg = w from cl_of (by omega)] at e20
  have hT := hT.ser (j := 72 + 3 * a + b) (by omega) (Or.inr trivial) e20 (hM.pSe ha hb hw e20 kd_skd hLq1.2.1 (o := some (mkS i o (S.sc 0) s r g, 0)) ⟨hi, hc9⟩)
  have hM := hT.1
  refine h_al_g C dX9_make_61 rfl rfl rfv_r ?_
  refine gs_X9_77 C dX9_make_62 hM.kX (hM.fA (i := 19) (by decide)) ?_
  refine h_iload_g C dX9_make_65 rfl rfl ?_
  refine h_aald (r := some _) C dX9_make_66 (hM.kr (by decide)) (inb (hM.ln3 (by decide)) (vp_in_nI ha (by decide))) (atI (cl_of (n := a) (by have h9 := ha; omega)) (hM.d1 (i := 2) (by decide) ha)) ?_
  refine h_iload_g C dX9_make_67 rfl rfl ?_
  refine h_aald (r := some _) C dX9_make_68 (hM.kr (by have h0_ := ha; omega)) (inb (hM.ln3 (by have h0_ := ha; omega)) (vp_in_nI hb (by decide))) (atI (cl_of (n := b) (by have h9 := hb; omega)) (hM.d2 (i := 2) (by decide) ha hb)) ?_
  refine h_iload_g C dX9_make_69 rfl rfl ?_
  refine h_bipush (v := 40) C dX9_make_70 (by decide) ?_
  refine h_newarr (atype := .boolean) (N := 40) (12 + 32 * (230 + 9 * a + 3 * b + w)) C ac_12 (by rw [(show (12 + 32 * (230 + 9 * a + 3 * b + w)) % 32 = 12 by first | decide | omega | (unfold FM; omega))]; rfl) (Or.inr (Or.inl (show (12 + 32 * (230 + 9 * a + 3 * b + w)) % 32 = 12 by first | decide | omega | (unfold FM; omega)))) dX9_make_72 (by decide) (by decide) (by decide) (by first | decide | omega) (by first | decide | omega) (fun q2 hq2 => ?_)
  refine h_abs (fun m21 e21 => ?_)
  have hT := hT.newM hq2 e21 ⟨by omega, by omega⟩
  have hM := hT.1
  have k2 : m21.kd q2 = KTK a b w := by rw [e21]; exact kd_newA
  have k3 : ∀ c, c < 40 → m21.ei q2 c = BITn 0 c := fun c hc => by
    rw [e21, z_ei_newA, if_pos rfl]
    exact (BITn_0 c hc).symm
  refine h_aast C dX9_make_74 (by rw [hM.k20 (by omega), k2, KTK_m]; decide) (inb (hM.ln3 (by omega)) (vp_in_nI hw (by decide))) ?_
  refine h_abs (fun m22 e22 => ?_)
  rw [show (nI w).toNatClampNeg = w from cl_of (by omega)] at e22
  have hT := hT.ser (j := 81 + 3 * a + b) (by omega) (Or.inr trivial) e22 (hM.pTk ha hb hw e22 k2 (by rw [e21]; exact ln_newA) k3)
  have hM := hT.1
  refine h_ret C E dX9_make_75 (by decide) (by decide) ?_
  exact ⟨rfl, hT⟩

def WTo (a b : Nat) (k : Nat) : Prop := k = KM (72 + 3 * a + b) ∨ k = KM (81 + 3 * a + b) ∨ k = KSE a b 1 ∨ k = KTK a b 1
def LTo (l : LX) (a b : Nat) : LX := ((((l.sHs a b 1 True).sHs a b 0 False).sHt a b 1 True).sHt a b 0 False).sTk a b 0 (l.tk a b 1)
set_option maxRecDepth 100000 in
set_option maxHeartbeats 1000000 in
theorem k_X9_turnOver (l : Launch) (G : Gx) (Q : Nat → Nat) (S : Sx) (l0 : LX) (μ : Mem) (hM : MRq Q S l0 μ) (a : Nat) (ha : a < 3) (xa : Int32) (hxa : xa = nI a) (b : Nat) (hb : b < 3) (xb : Int32) (hxb : xb = nI b) (n1 : ¬ l0.hs a b 1) (n2 : ¬ l0.ht a b 1) : Kon l yX9_turnOver cX9_turnOver 3 none 0 0 0 0 G [.ref (Q 0), .int xa, .int xb] μ (pV fun μ' => MTo Q (WTo a b) μ (S.sSes a b 0 (S.ses a b 1)) (LTo l0 a b) μ') noX := by
  refine Kon.ofG (by decide +kernel) (Nat.le_of_ble_eq_true rfl) (Nat.le_of_ble_eq_true rfl) (fun Z hZG C E NT MT => ?_)
  subst hZG
  have C : Cx Z RX9 cX9_turnOver 0 0 0 0 := C
  show HW Z 0 0 0 [some (.ref (Q 0)), some (.int xa), some (.int xb)] [] μ
  subst hxa
  subst hxb
  have hM0 := hM
  have hT : MTo Q (WTo a b) μ S l0 μ := MTo.rf hM
  refine h_al_g C dX9_turnOver_0 rfl rfl rfv_r ?_
  refine gs_X9_72 C dX9_turnOver_1 hM.kX (hM.fA (i := 18) (by decide)) ?_
  refine h_iload_g C dX9_turnOver_4 rfl rfl ?_
  refine h_aald (r := some _) C dX9_turnOver_5 (hM.kr (by decide)) (inb (hM.ln3 (by decide)) (vp_in_nI ha (by decide))) (atI (cl_of (n := a) (by have h9 := ha; omega)) (hM.d1 (i := 1) (by decide) ha)) ?_
  refine h_iload_g C dX9_turnOver_6 rfl rfl ?_
  refine h_aald (r := some _) C dX9_turnOver_7 (hM.kr (by have h0_ := ha; omega)) (inb (hM.ln3 (by have h0_ := ha; omega)) (vp_in_nI hb (by decide))) (atI (cl_of (n := b) (by have h9 := hb; omega)) (hM.d2 (i := 1) (by decide) ha hb)) ?_
  refine h_iconst (v := 0) C dX9_turnOver_8 (by decide) ?_
  refine h_al_g C dX9_turnOver_9 rfl rfl rfv_r ?_
  refine gs_X9_72 C dX9_turnOver_10 hM.kX (hM.fA (i := 18) (by decide)) ?_
  refine h_iload_g C dX9_turnOver_13 rfl rfl ?_
  refine h_aald (r := some _) C dX9_turnOver_14 (hM.kr (by decide)) (inb (hM.ln3 (by decide)) (vp_in_nI ha (by decide))) (atI (cl_of (n := a) (by have h9 := ha; omega)) (hM.d1 (i := 1) (by decide) ha)) ?_
  refine h_iload_g C dX9_turnOver_15 rfl rfl ?_
  refine h_aald (r := some _) C dX9_turnOver_16 (hM.kr (by have h0_ := ha; omega)) (inb (hM.ln3 (by have h0_ := ha; omega)) (vp_in_nI hb (by decide))) (atI (cl_of (n := b) (by have h9 := hb; omega)) (hM.d2 (i := 1) (by decide) ha hb)) ?_
  refine h_iconst (v := 1) C dX9_turnOver_17 (by decide) ?_
  obtain ⟨s, s1, s2, s3, s4⟩ := hM.se ha hb (w := 1) (by decide) n1
  refine h_aald (r := some _) C dX9_turnOver_18 (hM.kr (by omega)) (inb (hM.ln3 (by omega)) (vp_in_nI (n := 1) (by decide) (by decide))) (atI (show Int32.toNatClampNeg 1 = 1 from rfl) s1) ?_
  have hw1 : μ.kd s = 0 ∨ WTo a b (μ.kd s) := Or.inr (Or.inr (Or.inr (Or.inl s2)))
  refine h_skd s (KSE a b 0) (by rw [s2, KSE_m, KSE_m]) (by rw [s2]; unfold KSE; omega) ?_
  have hT := hT.skd (by rw [s2]; exact ⟨by unfold KSE; omega, by unfold KSE; omega⟩) (k := KSE a b 0) ⟨by unfold KSE; omega, by unfold KSE; omega⟩ hw1 (hM.hSe s2 ha hb (by decide))
  have hM := hT.1
  refine h_aast C dX9_turnOver_19 (by rw [hM.k17 (by omega), kd_skd, KSE_m]; decide) (inb (hM.ln3 (by omega)) (vp_in_nI (n := 0) (by decide) (by decide))) ?_
  refine h_abs (fun m20 e20 => ?_)
  rw [show Int32.toNatClampNeg 0 = 0 from rfl] at e20
  have hT := hT.ser (j := 72 + 3 * a + b) (by omega) (Or.inr (Or.inl (hM0.kd (by omega)))) e20 (hM.pSe ha hb (w := 0) (by decide) e20 kd_skd s3 (o := S.ses a b 1) s4)
  have hM := hT.1
  refine h_al_g C dX9_turnOver_20 rfl rfl rfv_r ?_
  refine gs_X9_77 C dX9_turnOver_21 hM.kX (hM.fA (i := 19) (by decide)) ?_
  refine h_iload_g C dX9_turnOver_24 rfl rfl ?_
  refine h_aald (r := some _) C dX9_turnOver_25 (hM.kr (by decide)) (inb (hM.ln3 (by decide)) (vp_in_nI ha (by decide))) (atI (cl_of (n := a) (by have h9 := ha; omega)) (hM.d1 (i := 2) (by decide) ha)) ?_
  refine h_iload_g C dX9_turnOver_26 rfl rfl ?_
  refine h_aald (r := some _) C dX9_turnOver_27 (hM.kr (by have h0_ := ha; omega)) (inb (hM.ln3 (by have h0_ := ha; omega)) (vp_in_nI hb (by decide))) (atI (cl_of (n := b) (by have h9 := hb; omega)) (hM.d2 (i := 2) (by decide) ha hb)) ?_
  refine h_iconst (v := 0) C dX9_turnOver_28 (by decide) ?_
  refine h_al_g C dX9_turnOver_29 rfl rfl rfv_r ?_
  refine gs_X9_77 C dX9_turnOver_30 hM.kX (hM.fA (i := 19) (by decide)) ?_
  refine h_iload_g C dX9_turnOver_33 rfl rfl ?_
  refine h_aald (r := some _) C dX9_turnOver_34 (hM.kr (by decide)) (inb (hM.ln3 (by decide)) (vp_in_nI ha (by decide))) (atI (cl_of (n := a) (by have h9 := ha; omega)) (hM.d1 (i := 2) (by decide) ha)) ?_
  refine h_iload_g C dX9_turnOver_35 rfl rfl ?_
  refine h_aald (r := some _) C dX9_turnOver_36 (hM.kr (by have h0_ := ha; omega)) (inb (hM.ln3 (by have h0_ := ha; omega)) (vp_in_nI hb (by decide))) (atI (cl_of (n := b) (by have h9 := hb; omega)) (hM.d2 (i := 2) (by decide) ha hb)) ?_
  refine h_iconst (v := 1) C dX9_turnOver_37 (by decide) ?_
  obtain ⟨u, u1, u2, u3, u4⟩ := hM.tk ha hb (w := 1) (by decide) n2
  refine h_aald (r := some _) C dX9_turnOver_38 (hM.kr (by omega)) (inb (hM.ln3 (by omega)) (vp_in_nI (n := 1) (by decide) (by decide))) (atI (show Int32.toNatClampNeg 1 = 1 from rfl) u1) ?_
  have hw2 : μ.kd u = 0 ∨ WTo a b (μ.kd u) := by
    by_cases c9 : μ.kd u = 0
    · exact Or.inl c9
    · refine Or.inr (Classical.byContradiction fun c8 => ?_)
      have z9 := hT.2.2 u c9 c8
      rw [z9.1] at u2
      exact c8 (Or.inr (Or.inr (Or.inr u2)))
  refine h_skd u (KTK a b 0) (by rw [u2, KTK_m, KTK_m]) (by rw [u2]; unfold KTK; omega) ?_
  have hT := hT.skd (by rw [u2]; exact ⟨by unfold KTK; omega, by unfold KTK; omega⟩) (k := KTK a b 0) ⟨by unfold KTK; omega, by unfold KTK; omega⟩ hw2 (hM.hTk u2 ha hb (by decide))
  have hM := hT.1
  refine h_aast C dX9_turnOver_39 (by rw [hM.k20 (by omega), kd_skd, KTK_m]; decide) (inb (hM.ln3 (by omega)) (vp_in_nI (n := 0) (by decide) (by decide))) ?_
  refine h_abs (fun m22 e22 => ?_)
  rw [show Int32.toNatClampNeg 0 = 0 from rfl] at e22
  have hT := hT.ser (j := 81 + 3 * a + b) (by omega) (Or.inr (Or.inr (Or.inl (hM0.kd (by omega))))) e22 (hM.pTk ha hb (w := 0) (by decide) e22 kd_skd u3 u4)
  have hM := hT.1
  refine h_ret C E dX9_turnOver_40 (by decide) (by decide) ?_
  exact ⟨rfl, hT⟩

theorem sgS_N {K : Nat} {kind : Int32} {fs : List Int32} : nI (sgS K ((kind :: fs).map Int32.toInt) 0 1).toNat = SEALN K kind fs := by
  unfold SEALN
  show nI (sgS K (kind.toInt :: fs.map Int32.toInt) 0 1).toNat = _
  rw [sgS_SEALc (K : Int) kind.toInt (fun i => (fs.getD i 0).toInt) (fs.map Int32.toInt) (fun j hj => by
    rw [List.length_map] at hj
    rw [List.getElem_map, List.getD_eq_getElem?_getD, List.getElem?_eq_getElem hj]; rfl), List.length_map]
def WDa (a b k : Nat) : Prop := k = KM 0 ∨ k = KM 20 ∨ k = KSE a b 1
set_option maxRecDepth 100000 in
set_option maxHeartbeats 1000000 in
theorem k_X9_data (l : Launch) (G : Gx) (Q : Nat → Nat) (S : Sx) (t : Int32) (μ : Mem) (hM : MRq Q S (LXo S t) μ) (a : Nat) (ha : a < 3) (xa : Int32) (hxa : xa = nI a) (b : Nat) (hb : b < 3) (xb : Int32) (hxb : xb = nI b) (x y z : Int32) (r : Ses) (hr : S.ses a b 1 = some r) (hK3 : r.1 3 = nI (cl (r.1 3))) (hK : cl (r.1 3) < 65521) : Kon l yX9_data cX9_data 8 none 2 3 28 50 G [.ref (Q 0), .int xa, .int xb, .int x, .int y, .int z] μ (pV fun μ' => MTo Q (WDa a b) μ (DATS S a b r x y z) (LXo (DATS S a b r x y z) t) μ') noX := by
  refine Kon.ofG (by decide +kernel) (Nat.le_of_ble_eq_true rfl) (Nat.le_of_ble_eq_true rfl) (fun Z hZG C E NT MT => ?_)
  subst hZG
  have C : Cx Z RX9 cX9_data 2 3 28 50 := C
  show HW Z 0 0 0 [some (.ref (Q 0)), some (.int xa), some (.int xb), some (.int x), some (.int y), some (.int z), none, none] [] μ
  subst hxa
  subst hxb
  have hM0 := hM
  have hT : MTo Q (WDa a b) μ S (LXo S t) μ := MTo.rf hM
  refine h_al_g C dX9_data_0 rfl rfl rfv_r ?_
  refine gs_X9_72 C dX9_data_1 hM.kX (hM.fA (i := 18) (by decide)) ?_
  refine h_iload_g C dX9_data_4 rfl rfl ?_
  refine h_aald (r := some _) C dX9_data_5 (hM.kr (by decide)) (inb (hM.ln3 (by decide)) (vp_in_nI ha (by decide))) (atI (cl_of (n := a) (by have h9 := ha; omega)) (hM.d1 (i := 1) (by decide) ha)) ?_
  refine h_iload_g C dX9_data_6 rfl rfl ?_
  refine h_aald (r := some _) C dX9_data_7 (hM.kr (by have h0_ := ha; omega)) (inb (hM.ln3 (by have h0_ := ha; omega)) (vp_in_nI hb (by decide))) (atI (cl_of (n := b) (by have h9 := hb; omega)) (hM.d2 (i := 1) (by decide) ha hb)) ?_
  refine h_iconst (v := 1) C dX9_data_8 (by decide) ?_
  obtain ⟨s, s1, s2, s3, s4⟩ := hM.se ha hb (w := 1) (by decide) (fun z => z)
  rw [hr] at s4
  have hR_s : RowAt μ (KSE a b 1) s 9 r.1 := ⟨s2, s3, s4.2⟩
  refine h_aald (r := some _) C dX9_data_9 (hM.kr (by omega)) (inb (hM.ln3 (by omega)) (vp_in_nI (n := 1) (by decide) (by decide))) (atI (show Int32.toNatClampNeg 1 = 1 from rfl) s1) ?_
  refine h_ast_6 C dX9_data_10 ct_i rfv_r ?_
  refine h_al_w (j := 0) C dX9_data_12 rfl rfv_r ?_
  refine h_iconst (v := 5) C dX9_data_14 (by decide) ?_
  refine h_iald C dX9_data_15 (by rw [hR_s.1]; first | decide | exact KSE_m _ _ _) (inb hR_s.2.1 (vp_in_nI (n := 5) (by decide) (by decide))) (hR_s.2.2 5 (by decide)) ?_
  refine h_ist_7 C dX9_data_16 ct_r ?_
  refine h_al_g C dX9_data_18 rfl rfl rfv_r ?_
  refine h_al_g C dX9_data_19 rfl rfl rfv_r ?_
  refine gs_X9_13 C dX9_data_20 hM.kX (hM.fA (i := 1) (by decide)) ?_
  refine h_iload_g C dX9_data_23 rfl rfl ?_
  refine h_iald C dX9_data_24 (hM.k11 (by decide)) (inb (hM.ln3 (by decide)) (vp_in_nI ha (by decide))) (atI (cl_of (n := a) (by have h9 := ha; omega)) (hM.a1 ha)) ?_
  refine h_al_g C dX9_data_25 rfl rfl rfv_r ?_
  refine gs_X9_37 C dX9_data_26 hM.kX (hM.fA (i := 7) (by decide)) ?_
  refine h_iload_g C dX9_data_29 rfl rfl ?_
  refine h_aald (r := some _) C dX9_data_30 (hM.kr (by decide)) (inb (hM.ln3 (by decide)) (vp_in_nI ha (by decide))) (atI (cl_of (n := a) (by have h9 := ha; omega)) (hM.tb (t := 0) (by decide) ha)) ?_
  refine h_iload_g C dX9_data_31 rfl rfl ?_
  refine h_iald C dX9_data_32 (hM.k11 (by have h0_ := ha; omega)) (inb (hM.ln3 (by have h0_ := ha; omega)) (vp_in_nI hb (by decide))) (atI (cl_of (n := b) (by have h9 := hb; omega)) (hM.t0 ha hb)) ?_
  refine h_iconst (v := 4) C dX9_data_33 (by decide) ?_
  refine h_bipush (v := 6) C dX9_data_34 (by decide) ?_
  refine h_newarr (atype := .int) (N := 6) (11 + 32 * 100) C ac_11 (by decide) (Or.inl (by decide)) dX9_data_36 (by decide) (by decide) (by decide) (by first | decide | omega) (by first | decide | omega) (fun q1 hq1 => ?_)
  refine h_abs (fun m1 em1 => ?_)
  have hLq1 := NL.new em1
  have hR_s := hR_s.newA (by first | decide | (unfold KSE; omega) | (unfold KSE KTMP; omega)) hq1 em1
  have hwq1 := hT.fresh hq1
  have hT := hT.newT hq1 em1
  have hM := hT.1
  refine h_dup C dX9_data_38 rfl ?_
  refine h_iconst (v := 0) C dX9_data_39 (by decide) ?_
  refine h_al_w (j := 0) C dX9_data_40 rfl rfv_r ?_
  refine h_iconst (v := 1) C dX9_data_42 (by decide) ?_
  refine h_iald C dX9_data_43 (by rw [hR_s.1]; first | decide | exact KSE_m _ _ _) (inb hR_s.2.1 (vp_in_nI (n := 1) (by decide) (by decide))) (hR_s.2.2 1 (by decide)) ?_
  refine h_iast C dX9_data_44 hLq1.k (inb hLq1.2.1 (vp_in_nI (n := 0) (by decide) (by decide))) ?_
  refine h_abs (fun m2 em2 => ?_)
  rw [show Int32.toNatClampNeg 0 = 0 from rfl] at em2
  have hR_s := hR_s.tmp hLq1 (by first | decide | (unfold KSE; omega) | (unfold KSE KTMP; omega)) em2
  have hT := hT.tmp hLq1 hwq1 em2
  have hM := hT.1
  have hLq1 := hLq1.push em2 rfl
  refine h_dup C dX9_data_45 rfl ?_
  refine h_iconst (v := 1) C dX9_data_46 (by decide) ?_
  refine h_iload_w C dX9_data_47 rfl ?_
  refine h_iast C dX9_data_49 hLq1.k (inb hLq1.2.1 (vp_in_nI (n := 1) (by decide) (by decide))) ?_
  refine h_abs (fun m3 em3 => ?_)
  rw [show Int32.toNatClampNeg 1 = 1 from rfl] at em3
  have hR_s := hR_s.tmp hLq1 (by first | decide | (unfold KSE; omega) | (unfold KSE KTMP; omega)) em3
  have hT := hT.tmp hLq1 hwq1 em3
  have hM := hT.1
  have hLq1 := hLq1.push em3 rfl
  refine h_dup C dX9_data_50 rfl ?_
  refine h_iconst (v := 2) C dX9_data_51 (by decide) ?_
  refine h_iload_g C dX9_data_52 rfl rfl ?_
  refine h_iast C dX9_data_53 hLq1.k (inb hLq1.2.1 (vp_in_nI (n := 2) (by decide) (by decide))) ?_
  refine h_abs (fun m4 em4 => ?_)
  rw [show Int32.toNatClampNeg 2 = 2 from rfl] at em4
  have hR_s := hR_s.tmp hLq1 (by first | decide | (unfold KSE; omega) | (unfold KSE KTMP; omega)) em4
  have hT := hT.tmp hLq1 hwq1 em4
  have hM := hT.1
  have hLq1 := hLq1.push em4 rfl
  refine h_dup C dX9_data_54 rfl ?_
  refine h_iconst (v := 3) C dX9_data_55 (by decide) ?_
  refine h_iload_w C dX9_data_56 rfl ?_
  refine h_iast C dX9_data_58 hLq1.k (inb hLq1.2.1 (vp_in_nI (n := 3) (by decide) (by decide))) ?_
  refine h_abs (fun m5 em5 => ?_)
  rw [show Int32.toNatClampNeg 3 = 3 from rfl] at em5
  have hR_s := hR_s.tmp hLq1 (by first | decide | (unfold KSE; omega) | (unfold KSE KTMP; omega)) em5
  have hT := hT.tmp hLq1 hwq1 em5
  have hM := hT.1
  have hLq1 := hLq1.push em5 rfl
  refine h_dup C dX9_data_59 rfl ?_
  refine h_iconst (v := 4) C dX9_data_60 (by decide) ?_
  refine h_iload_w C dX9_data_61 rfl ?_
  refine h_iast C dX9_data_63 hLq1.k (inb hLq1.2.1 (vp_in_nI (n := 4) (by decide) (by decide))) ?_
  refine h_abs (fun m6 em6 => ?_)
  rw [show Int32.toNatClampNeg 4 = 4 from rfl] at em6
  have hR_s := hR_s.tmp hLq1 (by first | decide | (unfold KSE; omega) | (unfold KSE KTMP; omega)) em6
  have hT := hT.tmp hLq1 hwq1 em6
  have hM := hT.1
  have hLq1 := hLq1.push em6 rfl
  refine h_dup C dX9_data_64 rfl ?_
  refine h_iconst (v := 5) C dX9_data_65 (by decide) ?_
  refine h_al_w (j := 0) C dX9_data_66 rfl rfv_r ?_
  refine h_iconst (v := 3) C dX9_data_68 (by decide) ?_
  refine h_iald C dX9_data_69 (by rw [hR_s.1]; first | decide | exact KSE_m _ _ _) (inb hR_s.2.1 (vp_in_nI (n := 3) (by decide) (by decide))) (hR_s.2.2 3 (by decide)) ?_
  refine h_bipush (v := 6) C dX9_data_70 (by decide) ?_
  refine h_newarr (atype := .int) (N := 6) (11 + 32 * 100) C ac_11 (by decide) (Or.inl (by decide)) dX9_data_72 (by decide) (by decide) (by decide) (by first | decide | omega) (by first | decide | omega) (fun q2 hq2 => ?_)
  refine h_abs (fun m7 em7 => ?_)
  have hne_q1_q2 := hLq1.ne hq2
  have hLq1 := hLq1.newA hq2 em7
  have hLq2 := NL.new em7
  have hR_s := hR_s.newA (by first | decide | (unfold KSE; omega) | (unfold KSE KTMP; omega)) hq2 em7
  have hwq2 := hT.fresh hq2
  have hT := hT.newT hq2 em7
  have hM := hT.1
  refine h_dup C dX9_data_74 rfl ?_
  refine h_iconst (v := 0) C dX9_data_75 (by decide) ?_
  refine h_iconst (v := 4) C dX9_data_76 (by decide) ?_
  refine h_iast C dX9_data_77 hLq2.k (inb hLq2.2.1 (vp_in_nI (n := 0) (by decide) (by decide))) ?_
  refine h_abs (fun m8 em8 => ?_)
  rw [show Int32.toNatClampNeg 0 = 0 from rfl] at em8
  have hR_s := hR_s.tmp hLq2 (by first | decide | (unfold KSE; omega) | (unfold KSE KTMP; omega)) em8
  have hT := hT.tmp hLq2 hwq2 em8
  have hM := hT.1
  have hLq1 := hLq1.sei hne_q1_q2 em8
  have hLq2 := hLq2.push em8 rfl
  refine h_dup C dX9_data_78 rfl ?_
  refine h_iconst (v := 1) C dX9_data_79 (by decide) ?_
  refine h_al_w (j := 0) C dX9_data_80 rfl rfv_r ?_
  refine h_iconst (v := 1) C dX9_data_82 (by decide) ?_
  refine h_iald C dX9_data_83 (by rw [hR_s.1]; first | decide | exact KSE_m _ _ _) (inb hR_s.2.1 (vp_in_nI (n := 1) (by decide) (by decide))) (hR_s.2.2 1 (by decide)) ?_
  refine h_iast C dX9_data_84 hLq2.k (inb hLq2.2.1 (vp_in_nI (n := 1) (by decide) (by decide))) ?_
  refine h_abs (fun m9 em9 => ?_)
  rw [show Int32.toNatClampNeg 1 = 1 from rfl] at em9
  have hR_s := hR_s.tmp hLq2 (by first | decide | (unfold KSE; omega) | (unfold KSE KTMP; omega)) em9
  have hT := hT.tmp hLq2 hwq2 em9
  have hM := hT.1
  have hLq1 := hLq1.sei hne_q1_q2 em9
  have hLq2 := hLq2.push em9 rfl
  refine h_dup C dX9_data_85 rfl ?_
  refine h_iconst (v := 2) C dX9_data_86 (by decide) ?_
  refine h_iload_w C dX9_data_87 rfl ?_
  refine h_iast C dX9_data_89 hLq2.k (inb hLq2.2.1 (vp_in_nI (n := 2) (by decide) (by decide))) ?_
  refine h_abs (fun m10 em10 => ?_)
  rw [show Int32.toNatClampNeg 2 = 2 from rfl] at em10
  have hR_s := hR_s.tmp hLq2 (by first | decide | (unfold KSE; omega) | (unfold KSE KTMP; omega)) em10
  have hT := hT.tmp hLq2 hwq2 em10
  have hM := hT.1
  have hLq1 := hLq1.sei hne_q1_q2 em10
  have hLq2 := hLq2.push em10 rfl
  refine h_dup C dX9_data_90 rfl ?_
  refine h_iconst (v := 3) C dX9_data_91 (by decide) ?_
  refine h_iload_g C dX9_data_92 rfl rfl ?_
  refine h_iast C dX9_data_93 hLq2.k (inb hLq2.2.1 (vp_in_nI (n := 3) (by decide) (by decide))) ?_
  refine h_abs (fun m11 em11 => ?_)
  rw [show Int32.toNatClampNeg 3 = 3 from rfl] at em11
  have hR_s := hR_s.tmp hLq2 (by first | decide | (unfold KSE; omega) | (unfold KSE KTMP; omega)) em11
  have hT := hT.tmp hLq2 hwq2 em11
  have hM := hT.1
  have hLq1 := hLq1.sei hne_q1_q2 em11
  have hLq2 := hLq2.push em11 rfl
  refine h_dup C dX9_data_94 rfl ?_
  refine h_iconst (v := 4) C dX9_data_95 (by decide) ?_
  refine h_iload_w C dX9_data_96 rfl ?_
  refine h_iast C dX9_data_98 hLq2.k (inb hLq2.2.1 (vp_in_nI (n := 4) (by decide) (by decide))) ?_
  refine h_abs (fun m12 em12 => ?_)
  rw [show Int32.toNatClampNeg 4 = 4 from rfl] at em12
  have hR_s := hR_s.tmp hLq2 (by first | decide | (unfold KSE; omega) | (unfold KSE KTMP; omega)) em12
  have hT := hT.tmp hLq2 hwq2 em12
  have hM := hT.1
  have hLq1 := hLq1.sei hne_q1_q2 em12
  have hLq2 := hLq2.push em12 rfl
  refine h_dup C dX9_data_99 rfl ?_
  refine h_iconst (v := 5) C dX9_data_100 (by decide) ?_
  refine h_iload_w C dX9_data_101 rfl ?_
  refine h_iast C dX9_data_103 hLq2.k (inb hLq2.2.1 (vp_in_nI (n := 5) (by decide) (by decide))) ?_
  refine h_abs (fun m13 em13 => ?_)
  rw [show Int32.toNatClampNeg 5 = 5 from rfl] at em13
  have hR_s := hR_s.tmp hLq2 (by first | decide | (unfold KSE; omega) | (unfold KSE KTMP; omega)) em13
  have hT := hT.tmp hLq2 hwq2 em13
  have hM := hT.1
  have hLq1 := hLq1.sei hne_q1_q2 em13
  have hLq2 := hLq2.push em13 rfl
  refine h_callS2 C (k_X9_sealOf Z.l Z.G _ (cl (r.1 3)) q2 [4, r.1 1, r.1 5, x, y, z] _ hK3 hK hLq2.k hLq2.2.1 hLq2.2.2 (Nat.le_of_ble_eq_true rfl)) cw_X9_154 st_X9_sealOf dX9_data_104 (by first | decide | exact Nat.le_of_ble_eq_true rfl) (by decide) (by decide) (by decide) (by decide) (kI fun r1 μ1 hp1 => ?_) kN
  obtain ⟨rfl, rfl⟩ := hp1
  rw [sgS_N]
  refine h_iast C dX9_data_107 hLq1.k (inb hLq1.2.1 (vp_in_nI (n := 5) (by decide) (by decide))) ?_
  refine h_abs (fun m14 em14 => ?_)
  rw [show Int32.toNatClampNeg 5 = 5 from rfl] at em14
  have hR_s := hR_s.tmp hLq1 (by first | decide | (unfold KSE; omega) | (unfold KSE KTMP; omega)) em14
  have hT := hT.tmp hLq1 hwq1 em14
  have hM := hT.1
  have hLq2 := hLq2.sei hne_q1_q2.symm em14
  have hLq1 := hLq1.push em14 rfl
  refine h_callV4 (ci := 9) C (k_X9_put Z.l Z.G Q S t _ hM (S.ef 0 a) (S.lf 0 a b) 4 q1 [r.1 1, r.1 5, x, y, z, SEALN (cl (r.1 3)) 4 [r.1 1, r.1 5, x, y, z]] hLq1 (Nat.le_of_ble_eq_true rfl) (r.1 3)) cw_X9_162 im_X9_put sl_X9_put rfl (by decide) hM.kX dX9_data_108 (by first | decide | exact Nat.le_of_ble_eq_true rfl) (by decide) (by decide) (by decide) (by decide) (kV fun μ2 hp2 => ?_) kN
  have hPu := hp2
  have hT := hT.tr hPu (fun k h => h.elim Or.inl (fun z => Or.inr (Or.inl z)))
  have hM := hT.1
  have hR_s := hR_s.same (hPu.2.2 s (by rw [hR_s.1]; unfold KSE; omega) (fun h => h.elim (fun e => KM_hi (j := 0) (k := KSE a b 1) (by decide) (by unfold KSE; omega) (by rw [← hR_s.1, e])) (fun e => KM_hi (j := 20) (k := KSE a b 1) (by decide) (by unfold KSE; omega) (by rw [← hR_s.1, e]))))
  have hQ7 := hT.2.2 (Q (72 + 3 * a + b)) (by rw [hM0.kd (by omega)]; exact KM_nz _) (fun h => by
    rw [hM0.kd (by omega)] at h
    rcases h with h | h | h
    · have := KM_inj h; omega
    · have := KM_inj h; omega
    · exact KM_hi (by omega) (k := KSE a b 1) (by unfold KSE; omega) h)
  refine h_al_w (j := 0) C dX9_data_111 rfl rfv_r ?_
  refine h_iconst (v := 5) C dX9_data_113 (by decide) ?_
  refine h_iload_w C dX9_data_114 rfl ?_
  refine h_iconst (v := 1) C dX9_data_116 (by decide) ?_
  refine h_iadd C dX9_data_117 ?_
  refine h_iast C dX9_data_118 (by rw [hR_s.1]; exact KSE_m _ _ _) (inb hR_s.2.1 (vp_in_nI (n := 5) (by decide) (by decide))) ?_
  refine h_abs (fun m30 e30 => ?_)
  rw [show Int32.toNatClampNeg 5 = 5 from rfl] at e30
  have hT := hT.seD (by rw [hR_s.1]; exact ⟨by unfold KSE; omega, by unfold KSE; omega⟩) (Or.inr (Or.inr (Or.inr s2))) e30 (hM.cSe (r := r) (r9 := (u1 r.1 5 (r.1 5 + 1), r.2)) hr rfl rfl (fun j _ hj => u1_ne hj) ha hb (by decide) (by rw [hQ7.2.2.2.2.2.2.1]; exact s1) hR_s.1 e30)
  have hM := hT.1
  refine h_ret C E dX9_data_119 (by decide) (by decide) ?_
  refine ⟨rfl, ?_⟩
  refine hT.lx ?_ (fun _ _ => rfl) (fun _ _ => rfl) (fun _ _ _ _ => rfl) (fun a9 b9 w9 _ _ _ => ?_) (fun _ _ _ _ _ _ z => z) (fun _ _ _ _ _ _ z => z)
  · rfl
  · show TKo (S.ses a9 b9 w9) = TKo (w3 S.ses a b 1 (some (u1 r.1 5 (r.1 5 + 1), r.2)) a9 b9 w9)
    by_cases c9 : a9 = a ∧ b9 = b ∧ w9 = 1
    · obtain ⟨rfl, rfl, rfl⟩ := c9
      rw [w3_eq, hr]
      rfl
    · rw [w3_ne c9]

end
