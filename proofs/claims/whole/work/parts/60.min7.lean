section
theorem h_anew17 {Z : Zx} {own : String} {cc : ByteArray} {rf rc rs rl k n pc : Nat} {L : List (Option Value)} {st : List Value} {μ : Mem} {x : Int32} {N idx : Nat} (kd : Nat) (C : Cx Z own cc rf rc rs rl) (hcl : Cond.classLink own idx "[I" ∈ lw_good) (hty : kd % 32 = 17) (d : decode cc pc = .ok (.anewarray idx, 3)) (hx0 : ¬ x < 0) (hN : x.toNatClampNeg = N) (hbytes : N * 4 ≤ 536870912) (h1 : k + 1 ≤ rc) (h2 : n + N ≤ rs)
    (kk : ∀ a : Nat, μ.kd a = 0 → HW Z (k + 1) (n + N) (pc + 3) L (.ref a :: st) (μ.newA a kd N)) : HW Z k n pc L (.int x :: st) μ := by
  obtain ⟨p, l, e, R, s, m, args, below, meth, c, G, A, nL, Q⟩ := Z
  obtain ⟨⟨hx, hbb, hml, hown, hts⟩, rfl, hK, hE, hA, _⟩ := C
  intro H locs ls hR hS hl
  subst hN
  refine W.anewA (t := .int) hx hbb hown (hts _ hcl) (show (Cond.arrayOver (.array .int)).before args s = true from hK.2.2.2.1 (.array .int) (by decide)) rfl d rfl hx0 hbytes h1 h2 fun cA kA comp f1 f2 f3 f4 => ?_
  generalize hH1 : H.push ({ cls := cA, slots := Array.replicate x.toNatClampNeg .null, vm := .none } : Cell) = H1
  have z1 : H1.size = H.size + 1 := by rw [← hH1, Array.size_push]
  have e1 : H1[H.size]? = some (arrV cA x.toNatClampNeg (fun _ => .null)) := by rw [← hH1, Array.getElem?_push_size, ← arrV_new]
  have o1 : ∀ q : Nat, q < H.size → H1[q]? = H[q]? := fun q hq => by rw [← hH1, Array.getElem?_push, if_neg (Nat.ne_of_lt hq)]
  have hfr : μ.kd H.size = 0 := hR.fresh (Nat.le_refl _)
  have hcA : cA = G.2.1 (kd % 32) := by
    have h3 : s.vm.findClass ("[" ++ (FieldType.array FieldType.int).toString) = some (G.2.1 17) := (hK.1.2 6 (G.2.1 17, .array .int) rfl).2
    rw [hty]
    exact Option.some.inj (f1.symm.trans h3)
  refine kk H.size hfr H1 locs ls (hR.upd (a := H.size) (fun q hq => same_newA hq) (fun q _ hlt => o1 q hlt) (hA _ hS.1) (cell_newA (by omega) ?_)) ⟨Nat.le_trans hS.1 (by omega), fun q a1 a2 => (o1 q (Nat.lt_of_lt_of_le a1 hS.1)).trans (hS.2.1 q a1 a2), hS.2.2⟩ hl
  rw [e1, hcA]
  congr 2
  funext i
  rw [if_neg (by omega), if_neg (by omega)]
abbrev KTM2 : Nat := 17 + 32 * 100
/-- bits and counters -/
theorem BITn_iff {m : Int64} {c : Int32} (h : 0 ≤ c.toInt) : BITn m (cl c) = 1 ↔ BIT m c := by
  unfold BITn BIT
  rw [← cl_nI h]
  split
  · rename_i g; exact ⟨fun _ => g, fun _ => rfl⟩
  · rename_i g; exact ⟨fun z => absurd z (by decide), fun z => absurd z g⟩
theorem BITn_01 (m : Int64) (c : Nat) : BITn m c = 0 ∨ BITn m c = 1 := by unfold BITn; split <;> simp
theorem or_bits (x y : Int64) (k : UInt64) : ((x ||| y).toUInt64 >>> k).toInt64 &&& 1 = ((x.toUInt64 >>> k).toInt64 &&& 1) ||| ((y.toUInt64 >>> k).toInt64 &&& 1) := Int64.toBitVec_inj.mp (by
  show ((x.toBitVec ||| y.toBitVec) >>> (k.toBitVec % 64).toNat) &&& 1#64 = ((x.toBitVec >>> (k.toBitVec % 64).toNat) &&& 1#64) ||| ((y.toBitVec >>> (k.toBitVec % 64).toNat) &&& 1#64)
  rw [BitVec.ushiftRight_or_distrib]
  ext i hi
  simp [Bool.and_or_distrib_right])
theorem one_bits (a : Int64) : (a &&& 1) ||| 1 = 1 := Int64.toBitVec_inj.mp (by
  show (a.toBitVec &&& 1#64) ||| 1#64 = 1#64
  ext i hi
  simp)
theorem sh_bits : ∀ c, c < 40 → ∀ d, d < 40 → ((1 <<< ((nI c).toInt64 &&& 63) : Int64).toUInt64 >>> ((nI d).toInt64.toUInt64 &&& Int64.toUInt64 63)).toInt64 &&& 1 = if d = c then 1 else 0 := by decide +kernel
theorem BITn_or (x : Int64) (c : Nat) (hc : c < 40) (d : Nat) (hd : d < 40) : BITn (x ||| (1 <<< ((nI c).toInt64 &&& 63))) d = if d = c then 1 else BITn x d := by
  unfold BITn
  rw [or_bits, sh_bits c hc d hd]
  by_cases h : d = c
  · rw [if_pos h, if_pos h, one_bits, if_pos rfl]
  · rw [if_neg h, if_neg h, Int64.or_zero]
def okTk (r : Ses) : Prop := (r.1 8 ≤ 0 ∧ r.1 7 = -1) ∨ (¬ r.1 8 ≤ 0 ∧ ¬ r.1 7 = -1)
/-- an untouched DATA letter -/
def okD (g : Row) : Prop := (0 ≤ (g 4).toInt ∧ (g 4).toInt < 40) ∧ (g 5 = -1 → g 6 = -1 ∧ g 7 = -1) ∧ (¬ g 5 = -1 → okInn (g 5))
theorem SWT_rt (a b : Nat) : ∀ (m : Nat) (S : Sx), (SWT a b m S).rt = S.rt
  | 0, S => rfl
  | m + 1, S => by
    show (match USE S a b with
      | none => S
      | some r => match S.wt a b with
        | [] => S
        | p :: ps => SWT a b m (DATS (S.sWt a b ps) a b r (p 0) (p 1) (p 2))).rt = S.rt
    cases USE S a b with
    | none => rfl
    | some r =>
      show (match S.wt a b with
        | [] => S
        | p :: ps => SWT a b m (DATS (S.sWt a b ps) a b r (p 0) (p 1) (p 2))).rt = S.rt
      cases S.wt a b with
      | nil => rfl
      | cons p ps => exact (SWT_rt a b m _).trans rfl
theorem TDP_rt {S : Sx} {e b w : Nat} {r : Ses} {g : Row} : (TDP S e b w r g).rt = S.rt := by
  unfold TDP
  split
  · exact (SWT_rt _ _ _ _).trans rfl
  · rfl
theorem TKE {S : Sx} {t : Int32} {e b w : Nat} {r : Ses} (h : S.ses e b w = some r) : (LXo S t).tk e b w = r.2 := by
  show TKo (S.ses e b w) = _
  rw [h]
  rfl
def mtD (S : Sx) (e : Nat) (i : Int32) (b w : Nat) : Prop := ¬ b = e ∧ sIs S e b w i
def InvD (S : Sx) (e : Nat) (i : Int32) (p : Nat) (x y : Int32) : Prop := (x = -1 ∧ ∀ b w, b < 3 → w < 3 → 3 * b + w < p → ¬ mtD S e i b w) ∨ (∃ b w, b < 3 ∧ w < 3 ∧ 3 * b + w < p ∧ mtD S e i b w ∧ x = nI b ∧ y = nI w)
theorem InvD.no {S : Sx} {e : Nat} {i x y : Int32} {b w : Nat} (hb : b < 3) (hw : w < 3) (h : InvD S e i (3 * b + w) x y) (hn : ¬ mtD S e i b w) : InvD S e i (3 * b + w + 1) x y := by
  rcases h with ⟨h1, h2⟩ | ⟨b9, w9, h1, h2, h3, h4⟩
  · refine Or.inl ⟨h1, fun b9 w9 hb9 hw9 h9 => ?_⟩
    by_cases c : 3 * b9 + w9 = 3 * b + w
    · have e1 : b9 = b := by omega
      have e2 : w9 = w := by omega
      subst e1; subst e2
      exact hn
    · exact h2 b9 w9 hb9 hw9 (by omega)
  · exact Or.inr ⟨b9, w9, h1, h2, by omega, h4⟩
theorem InvD.yes {S : Sx} {e : Nat} {i : Int32} {b w : Nat} (hb : b < 3) (hw : w < 3) (hm : mtD S e i b w) : InvD S e i (3 * b + w + 1) (nI b) (nI w) := Or.inr ⟨b, w, hb, hw, by omega, hm, rfl, rfl⟩
set_option maxRecDepth 100000 in
set_option maxHeartbeats 1000000 in
theorem lp_X9_gd {Z : Zx} {rc rs : Nat} {Q : Nat → Nat} {S : Sx} {t : Int32} {μ : Mem} (hM : MRq Q S (LXo S t) μ) {e z : Nat} (he : e < 3) {i x4 x5 x6 x7 : Int32} (C : Cx Z RX9 cX9_gotData 4 rc rs 101) {k0 n0 : Nat} (hk2 : k0 ≤ rc) (hn2 : n0 ≤ rs) (kk : ∀ x y, InvD S e i 9 x y → ∀ z10 z11 z12 : Option Value, HW Z k0 n0 106 [some (.ref (Q 0)), some (.int (nI e)), some (.ref z), some (.int i), some (.int x4), some (.int x5), some (.int x6), some (.int x7), some (.int x), some (.int y), z10, z11, z12] [] μ) :
    ∀ (m k w : Nat) (x y : Int32), k < 3 → w < 3 → 3 * k + w + m = 8 → InvD S e i (3 * k + w) x y → ∀ z12 : Option Value, HW Z k0 n0 44 [some (.ref (Q 0)), some (.int (nI e)), some (.ref z), some (.int i), some (.int x4), some (.int x5), some (.int x6), some (.int x7), some (.int x), some (.int y), some (.int (nI k)), some (.int (nI w)), z12] [] μ := by
  intro m
  induction m with
  | zero =>
    intro k w x y hk3 hw3 hm hI z12
    have hNext : ∀ x y, InvD S e i (3 * k + w + 1) x y → ∀ z12 : Option Value, HW Z k0 n0 94 [some (.ref (Q 0)), some (.int (nI e)), some (.ref z), some (.int i), some (.int x4), some (.int x5), some (.int x6), some (.int x7), some (.int x), some (.int y), some (.int (nI k)), some (.int (nI w)), z12] [] μ := by
      intro x y hI z12
      refine h_iinc_11 (q := 1) C dX9_gotData_94 (by decide) ct_i ?_
      refine h_goto (tgt := 44) C dX9_gotData_97 (by decide) ?_
      refine h_iload_w C dX9_gotData_44 rfl ?_
      refine h_iconst (v := 3) C dX9_gotData_46 (by decide) ?_
      refine h_icmp_ge (tgt := 100) C dX9_gotData_47 (by decide) (fun c1 => ?_) (fun c1 => absurd ((by rw [nI_1]; exact nI_le (a := 3) (by omega) (by omega))) c1)
      refine h_iinc_10 (q := 1) C dX9_gotData_100 (by decide) ct_i ?_
      refine h_goto (tgt := 35) C dX9_gotData_103 (by decide) ?_
      refine h_iload_w C dX9_gotData_35 rfl ?_
      refine h_iconst (v := 3) C dX9_gotData_37 (by decide) ?_
      refine h_icmp_ge (tgt := 106) C dX9_gotData_38 (by decide) (fun c2 => ?_) (fun c2 => absurd ((by rw [nI_1]; exact nI_le (a := 3) (by omega) (by omega))) c2)
      exact kk _ _ (by rw [show 9 = 3 * k + w + 1 by omega]; exact hI) _ _ _
    refine h_iload_w C dX9_gotData_44 rfl ?_
    refine h_iconst (v := 3) C dX9_gotData_46 (by decide) ?_
    refine h_icmp_ge (tgt := 100) C dX9_gotData_47 (by decide) (fun c1 => absurd c1 ((nI_ge (b := 3) (by omega) (by decide)))) (fun c1 => ?_)
    refine h_iload_w C dX9_gotData_50 rfl ?_
    refine h_iload_g C dX9_gotData_52 rfl rfl ?_
    refine h_icmp_eq (tgt := 94) C dX9_gotData_53 (by decide) (fun ce => ?_) (fun ce => ?_)
    · have hkE : k = e := (nI_eq (by omega) (by omega)).mp ce
      exact hNext _ _ (hI.no hk3 hw3 (fun z => z.1 hkE)) _
    · have hkE : ¬ k = e := fun z => ce (by rw [z])
      refine h_al_g C dX9_gotData_56 rfl rfl rfv_r ?_
      refine h_iload_g C dX9_gotData_57 rfl rfl ?_
      refine h_iload_w C dX9_gotData_58 rfl ?_
      refine h_iload_w C dX9_gotData_60 rfl ?_
      refine h_callV3 (ci := 9) C (k_X9_isThere Z.l Z.G Q S t _ hM e he _ rfl k hk3 _ rfl w hw3 _ rfl) cw_X9_166 im_X9_isThere sl_X9_isThere rfl (by decide) hM.kX dX9_gotData_62 (by first | decide | exact Nat.le_of_ble_eq_true rfl) (by decide) (by decide) (by omega) (by omega) (kB (fun μ1 hp1 => ?_) (fun μ1 hp1 => ?_)) kN
      · obtain ⟨rfl, r, hr⟩ := hp1
        refine h_if_eq (tgt := 94) C dX9_gotData_65 (by decide) (fun c3 => absurd c3 (by decide)) (fun c3 => ?_)
        refine h_al_g C dX9_gotData_68 rfl rfl rfv_r ?_
        refine gs_X9_72 C dX9_gotData_69 hM.kX (hM.fA (i := 18) (by decide)) ?_
        refine h_iload_g C dX9_gotData_72 rfl rfl ?_
        refine h_aald (r := some _) C dX9_gotData_73 (hM.kr (by decide)) (inb (hM.ln3 (by decide)) (vp_in_nI he (by decide))) (atI (cl_of (n := e) (by have h9 := he; omega)) (hM.d1 (i := 1) (by decide) he)) ?_
        refine h_iload_w C dX9_gotData_74 rfl ?_
        refine h_aald (r := some _) C dX9_gotData_76 (hM.kr (by have h0_ := he; omega)) (inb (hM.ln3 (by have h0_ := he; omega)) (vp_in_nI hk3 (by decide))) (atI (cl_of (n := k) (by have h9 := hk3; omega)) (hM.d2 (i := 1) (by decide) he hk3)) ?_
        refine h_iload_w C dX9_gotData_77 rfl ?_
        obtain ⟨s, s1, s2, s3, s4⟩ := hM.se he hk3 (w := w) hw3 (fun z => z)
        rw [hr] at s4
        refine h_aald (r := some _) C dX9_gotData_79 (hM.kr (by omega)) (inb (hM.ln3 (by omega)) (vp_in_nI hw3 (by decide))) (atI (cl_of (by omega)) s1) ?_
        refine h_iconst (v := 0) C dX9_gotData_80 (by decide) ?_
        refine h_iald C dX9_gotData_81 (by rw [s2]; exact KSE_m _ _ _) (inb s3 (vp_in_nI (n := 0) (by decide) (by decide))) (s4.2 0 (by decide)) ?_
        refine h_iload_g C dX9_gotData_82 rfl rfl ?_
        refine h_icmp_ne (tgt := 94) C dX9_gotData_83 (by decide) (fun ci => ?_) (fun ci => ?_)
        · exact hNext _ _ (hI.no hk3 hw3 (fun z => by
            obtain ⟨r9, h1, h2⟩ := z.2
            rw [hr] at h1
            cases h1
            exact ci h2)) _
        · refine h_iload_w C dX9_gotData_86 rfl ?_
          refine h_ist_8 C dX9_gotData_88 ct_i ?_
          refine h_iload_w C dX9_gotData_90 rfl ?_
          refine h_ist_9 C dX9_gotData_92 ct_i ?_
          exact hNext _ _ (InvD.yes hk3 hw3 ⟨hkE, r, hr, ci⟩) _
      · obtain ⟨rfl, hr⟩ := hp1
        refine h_if_eq (tgt := 94) C dX9_gotData_65 (by decide) (fun c5 => ?_) (fun c5 => absurd (by decide) c5)
        exact hNext _ _ (hI.no hk3 hw3 (fun z => by
          obtain ⟨r9, h1, h2⟩ := z.2
          rw [hr] at h1
          cases h1)) _
  | succ m ih =>
    intro k w x y hk3 hw3 hm hI z12
    have hNext : ∀ x y, InvD S e i (3 * k + w + 1) x y → ∀ z12 : Option Value, HW Z k0 n0 94 [some (.ref (Q 0)), some (.int (nI e)), some (.ref z), some (.int i), some (.int x4), some (.int x5), some (.int x6), some (.int x7), some (.int x), some (.int y), some (.int (nI k)), some (.int (nI w)), z12] [] μ := by
      intro x y hI z12
      by_cases hw2 : w + 1 < 3
      · skip
        refine h_iinc_11 (q := 1) C dX9_gotData_94 (by decide) ct_i ?_
        refine h_goto (tgt := 44) C dX9_gotData_97 (by decide) ?_
        rw [nI_1]
        exact ih k (w + 1) x y hk3 (by omega) (by omega) hI _
      · skip
        refine h_iinc_11 (q := 1) C dX9_gotData_94 (by decide) ct_i ?_
        refine h_goto (tgt := 44) C dX9_gotData_97 (by decide) ?_
        refine h_iload_w C dX9_gotData_44 rfl ?_
        refine h_iconst (v := 3) C dX9_gotData_46 (by decide) ?_
        refine h_icmp_ge (tgt := 100) C dX9_gotData_47 (by decide) (fun c1 => ?_) (fun c1 => absurd ((by rw [nI_1]; exact nI_le (a := 3) (by omega) (by omega))) c1)
        refine h_iinc_10 (q := 1) C dX9_gotData_100 (by decide) ct_i ?_
        refine h_goto (tgt := 35) C dX9_gotData_103 (by decide) ?_
        refine h_iload_w C dX9_gotData_35 rfl ?_
        refine h_iconst (v := 3) C dX9_gotData_37 (by decide) ?_
        refine h_icmp_ge (tgt := 106) C dX9_gotData_38 (by decide) (fun c2 => absurd c2 ((by rw [nI_1]; exact nI_ge (b := 3) (by omega) (by decide)))) (fun c2 => ?_)
        refine h_iconst (v := 0) C dX9_gotData_41 (by decide) ?_
        refine h_ist_11 C dX9_gotData_42 ct_i ?_
        rw [nI_1]
        exact ih (k + 1) 0 x y (by omega) (by decide) (by omega) (by rw [show 3 * (k + 1) + 0 = 3 * k + w + 1 by omega]; exact hI) _
    refine h_iload_w C dX9_gotData_44 rfl ?_
    refine h_iconst (v := 3) C dX9_gotData_46 (by decide) ?_
    refine h_icmp_ge (tgt := 100) C dX9_gotData_47 (by decide) (fun c1 => absurd c1 ((nI_ge (b := 3) (by omega) (by decide)))) (fun c1 => ?_)
    refine h_iload_w C dX9_gotData_50 rfl ?_
    refine h_iload_g C dX9_gotData_52 rfl rfl ?_
    refine h_icmp_eq (tgt := 94) C dX9_gotData_53 (by decide) (fun ce => ?_) (fun ce => ?_)
    · have hkE : k = e := (nI_eq (by omega) (by omega)).mp ce
      exact hNext _ _ (hI.no hk3 hw3 (fun z => z.1 hkE)) _
    · have hkE : ¬ k = e := fun z => ce (by rw [z])
      refine h_al_g C dX9_gotData_56 rfl rfl rfv_r ?_
      refine h_iload_g C dX9_gotData_57 rfl rfl ?_
      refine h_iload_w C dX9_gotData_58 rfl ?_
      refine h_iload_w C dX9_gotData_60 rfl ?_
      refine h_callV3 (ci := 9) C (k_X9_isThere Z.l Z.G Q S t _ hM e he _ rfl k hk3 _ rfl w hw3 _ rfl) cw_X9_166 im_X9_isThere sl_X9_isThere rfl (by decide) hM.kX dX9_gotData_62 (by first | decide | exact Nat.le_of_ble_eq_true rfl) (by decide) (by decide) (by omega) (by omega) (kB (fun μ1 hp1 => ?_) (fun μ1 hp1 => ?_)) kN
      · obtain ⟨rfl, r, hr⟩ := hp1
        refine h_if_eq (tgt := 94) C dX9_gotData_65 (by decide) (fun c3 => absurd c3 (by decide)) (fun c3 => ?_)
        refine h_al_g C dX9_gotData_68 rfl rfl rfv_r ?_
        refine gs_X9_72 C dX9_gotData_69 hM.kX (hM.fA (i := 18) (by decide)) ?_
        refine h_iload_g C dX9_gotData_72 rfl rfl ?_
        refine h_aald (r := some _) C dX9_gotData_73 (hM.kr (by decide)) (inb (hM.ln3 (by decide)) (vp_in_nI he (by decide))) (atI (cl_of (n := e) (by have h9 := he; omega)) (hM.d1 (i := 1) (by decide) he)) ?_
        refine h_iload_w C dX9_gotData_74 rfl ?_
        refine h_aald (r := some _) C dX9_gotData_76 (hM.kr (by have h0_ := he; omega)) (inb (hM.ln3 (by have h0_ := he; omega)) (vp_in_nI hk3 (by decide))) (atI (cl_of (n := k) (by have h9 := hk3; omega)) (hM.d2 (i := 1) (by decide) he hk3)) ?_
        refine h_iload_w C dX9_gotData_77 rfl ?_
        obtain ⟨s, s1, s2, s3, s4⟩ := hM.se he hk3 (w := w) hw3 (fun z => z)
        rw [hr] at s4
        refine h_aald (r := some _) C dX9_gotData_79 (hM.kr (by omega)) (inb (hM.ln3 (by omega)) (vp_in_nI hw3 (by decide))) (atI (cl_of (by omega)) s1) ?_
        refine h_iconst (v := 0) C dX9_gotData_80 (by decide) ?_
        refine h_iald C dX9_gotData_81 (by rw [s2]; exact KSE_m _ _ _) (inb s3 (vp_in_nI (n := 0) (by decide) (by decide))) (s4.2 0 (by decide)) ?_
        refine h_iload_g C dX9_gotData_82 rfl rfl ?_
        refine h_icmp_ne (tgt := 94) C dX9_gotData_83 (by decide) (fun ci => ?_) (fun ci => ?_)
        · exact hNext _ _ (hI.no hk3 hw3 (fun z => by
            obtain ⟨r9, h1, h2⟩ := z.2
            rw [hr] at h1
            cases h1
            exact ci h2)) _
        · refine h_iload_w C dX9_gotData_86 rfl ?_
          refine h_ist_8 C dX9_gotData_88 ct_i ?_
          refine h_iload_w C dX9_gotData_90 rfl ?_
          refine h_ist_9 C dX9_gotData_92 ct_i ?_
          exact hNext _ _ (InvD.yes hk3 hw3 ⟨hkE, r, hr, ci⟩) _
      · obtain ⟨rfl, hr⟩ := hp1
        refine h_if_eq (tgt := 94) C dX9_gotData_65 (by decide) (fun c5 => ?_) (fun c5 => absurd (by decide) c5)
        exact hNext _ _ (hI.no hk3 hw3 (fun z => by
          obtain ⟨r9, h1, h2⟩ := z.2
          rw [hr] at h1
          cases h1)) _

set_option maxRecDepth 100000 in
set_option maxHeartbeats 1000000 in
theorem lp_X9_oc {Z : Zx} {rc rs : Nat} {Q : Nat → Nat} {S : Sx} {t : Int32} {μ0 : Mem} {e b w z s q : Nat} {g : Row} (C : Cx Z RX9 cX9_gotData 4 rc rs 101) {k0 n0 : Nat} (hk2 : k0 ≤ rc) (hn2 : n0 ≤ rs) (kk : ∀ m, MTo Q WAll μ0 S (LXo S t) m → m.kd q = KTM2 → m.ln q = S.ou.length + 1 → (∀ i (hi : i < S.ou.length), ∃ p, m.er q i = some p ∧ RowAt m KIM p 5 S.ou[i]) → ∀ z12 : Option Value, HW Z k0 n0 477 [some (.ref (Q 0)), some (.int (nI e)), some (.ref z), some (.int (g 3)), some (.int (g 4)), some (.int (g 5)), some (.int (g 6)), some (.int (g 7)), some (.int (nI b)), some (.int (nI w)), some (.ref s), some (.ref q), z12] [] m) :
    ∀ (m j : Nat) (mz : Mem), j + m = S.ou.length → MTo Q WAll μ0 S (LXo S t) mz → mz.kd q = KTM2 → mz.ln q = S.ou.length + 1 → (∀ i (hi : i < S.ou.length), i < j → ∃ p, mz.er q i = some p ∧ RowAt mz KIM p 5 S.ou[i]) → HW Z k0 n0 449 [some (.ref (Q 0)), some (.int (nI e)), some (.ref z), some (.int (g 3)), some (.int (g 4)), some (.int (g 5)), some (.int (g 6)), some (.int (g 7)), some (.int (nI b)), some (.int (nI w)), some (.ref s), some (.ref q), some (.int (nI j))] [] mz := by
  intro m
  induction m with
  | zero =>
    intro j mz hj hT hq1 hq2 hq3
    have hM := hT.1
    obtain ⟨h60, A, a1, a2, a3, a4⟩ := hM.ou
    refine h_iload_w C dX9_gotData_449 rfl ?_
    refine h_al_g C dX9_gotData_451 rfl rfl rfv_r ?_
    refine gs_X9_83 C dX9_gotData_452 hM.kX a1 ?_
    refine h_alen C dX9_gotData_455 ⟨by rw [a2]; decide, by rw [a2]; decide⟩ a3 ?_
    refine h_icmp_ge (tgt := 477) C dX9_gotData_456 (by decide) (fun c1 => ?_) (fun c1 => absurd ((nI_le (show S.ou.length ≤ j by omega) (by omega))) c1)
    exact kk _ hT hq1 hq2 (fun i hi => hq3 i hi (by omega)) _
  | succ m ih =>
    intro j mz hj hT hq1 hq2 hq3
    have hM := hT.1
    obtain ⟨h60, A, a1, a2, a3, a4⟩ := hM.ou
    have hj9 : j < S.ou.length := by omega
    obtain ⟨y, y1, y2⟩ := a4 j S.ou[j] (List.getElem?_eq_getElem hj9)
    refine h_iload_w C dX9_gotData_449 rfl ?_
    refine h_al_g C dX9_gotData_451 rfl rfl rfv_r ?_
    refine gs_X9_83 C dX9_gotData_452 hM.kX a1 ?_
    refine h_alen C dX9_gotData_455 ⟨by rw [a2]; decide, by rw [a2]; decide⟩ a3 ?_
    refine h_icmp_ge (tgt := 477) C dX9_gotData_456 (by decide) (fun c1 => absurd c1 ((nI_ge (show j < S.ou.length by omega) (by omega)))) (fun c1 => ?_)
    refine h_al_w (j := 0) C dX9_gotData_459 rfl rfv_r ?_
    refine h_iload_w C dX9_gotData_461 rfl ?_
    refine h_al_g C dX9_gotData_463 rfl rfl rfv_r ?_
    refine gs_X9_83 C dX9_gotData_464 hM.kX a1 ?_
    refine h_iload_w C dX9_gotData_467 rfl ?_
    refine h_aald (r := some _) C dX9_gotData_469 ⟨by rw [a2]; decide, by rw [a2]; decide⟩ (inb a3 (vp_in_nI hj9 (by omega))) (atI (cl_of (by omega)) y1) ?_
    refine h_aast C dX9_gotData_470 (by rw [hq1, y2.1]; decide) (inb hq2 (vp_in_nI (by omega) (by omega))) ?_
    refine h_abs (fun m9 e9 => ?_)
    rw [show (nI j).toNatClampNeg = j from cl_of (by omega)] at e9
    refine h_iinc_12 (q := 1) C dX9_gotData_471 (by decide) ct_r ?_
    refine h_goto (tgt := 449) C dX9_gotData_474 (by decide) ?_
    rw [nI_1]
    have hT9 : MTo Q WAll μ0 S (LXo S t) m9 := hT.step (a := q) (fun z hz => by rw [e9]; exact same_ser hz) (Or.inr trivial) (Or.inr (by rw [hq1]; unfold isMk; decide)) (by rw [e9]; show isMk (mz.kd q); rw [hq1]; unfold isMk; decide) (hM.same fun z hz => by
      rw [e9]
      exact same_ser (fun e8 => by
        rw [e8, hq1] at hz
        rcases hz with hz | hz
        · exact absurd hz (by decide)
        · exact absurd hz (by decide)))
    refine ih (j + 1) m9 (by omega) hT9 (by rw [e9]; exact hq1) (by rw [e9]; exact hq2) (fun i hi h8_ => ?_)
    by_cases c9 : i = j
    · subst c9
      exact ⟨y, mer_at e9, y2.same (by rw [e9]; exact same_ser (fun e8 => by have h8 := y2.1; rw [e8, hq1] at h8; exact absurd h8 (by decide)))⟩
    · obtain ⟨p, p1, p2⟩ := hq3 i hi (by omega)
      exact ⟨p, (mer_ap e9 (Or.inr c9)).trans p1, p2.same (by rw [e9]; exact same_ser (fun e8 => by have h8 := p2.1; rw [e8, hq1] at h8; exact absurd h8 (by decide)))⟩

end
