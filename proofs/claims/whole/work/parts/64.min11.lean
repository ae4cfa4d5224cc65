section
/-- a new array of ints with what another holds -/
def Mem.cln (μ : Mem) (q a k n : Nat) : Mem := (u1 μ.kd q k, μ.fi, μ.fr, μ.fl, u1 μ.ln q n, ub μ.ei q (μ.ei a), ub μ.er q (fun _ => none), ub μ.el q (fun _ => 0))
theorem same_cln {μ : Mem} {q a k n z : Nat} (h : z ≠ q) : SameAt μ (μ.cln q a k n) z := ⟨u1_ne h, fun _ => rfl, fun _ => rfl, fun _ => rfl, u1_ne h, funext fun _ => if_neg h, funext fun _ => if_neg h, funext fun _ => if_neg h⟩
theorem kd_cln {μ : Mem} {q a k n : Nat} : (μ.cln q a k n).kd q = k := u1_eq
theorem ln_cln {μ : Mem} {q a k n : Nat} : (μ.cln q a k n).ln q = n := u1_eq
theorem ei_cln {μ : Mem} {q a k n : Nat} (i : Nat) : (μ.cln q a k n).ei q i = μ.ei a i := if_pos rfl
theorem cell_cln {G : Gx} {μ : Mem} {q a k n : Nat} {H : Heap} (hk : k % 32 = 11) (h : H[q]? = some (arrV (G.2.1 11) n (fun i => .int (μ.ei a i)))) : cellAt G (μ.cln q a k n) q H := by
  unfold cellAt
  rw [kd_cln, if_neg (by omega), h, ln_cln, hk]
  congr 2
  funext i
  unfold aval
  rw [ei_cln, if_pos (by decide)]
theorem ck_l : Cond.methodLink RX9 254 ⟨"[I", "clone", "()Ljava/lang/Object;"⟩ ∈ lw_good := lg_6 172 (by decide +kernel) (by decide +kernel)
theorem ck_s : Cond.sameMethod "[I" "java/lang/Object" "clone" "()Ljava/lang/Object;" ∈ lw_good := lg_6 173 (by decide +kernel) (by decide +kernel)
theorem ck_n : Cond.native ⟨"java/lang/Object", "clone", "()Ljava/lang/Object;"⟩ ∈ lw_good := lg_6 174 (by decide +kernel) (by decide +kernel)
theorem ck_i : Cond.instanceMethod ⟨"java/lang/Object", "clone", "()Ljava/lang/Object;"⟩ ∈ lw_good := lg_6 175 (by decide +kernel) (by decide +kernel)
theorem ck_v : Cond.selects "[I" ⟨"[I", "clone", "()Ljava/lang/Object;"⟩ ⟨"java/lang/Object", "clone", "()Ljava/lang/Object;"⟩ ∈ lw_good := lg_6 176 (by decide +kernel) (by decide +kernel)
theorem ck_x : Cond.castable "[I" "java/lang/Cloneable" ∈ xW := List.mem_filter.mpr ⟨List.mem_of_getElem? (i := 1377) (by decide +kernel), rfl⟩
theorem ck_c : Cond.classLink RX9 199 "[I" ∈ lw_good := lg_6 163 (by decide +kernel) (by decide +kernel)
theorem h_clone {Z : Zx} {cc : ByteArray} {rf rc rs rl k n pc N : Nat} {L : List (Option Value)} {st : List Value} {μ : Mem} {a : Nat} (kd : Nat) (C : Cx Z RX9 cc rf rc rs rl) (hkd : kd % 32 = 11) (d : decode cc pc = .ok (.invokevirtual 254, 3)) (hk : μ.kd a % 32 = 11) (hN : μ.ln a = N) (hfr : 1 ≤ rf) (hlo : (st.map fun v => v.category).sum + 14 ≤ rl) (h1 : k + 1 ≤ rc) (h2 : n + N ≤ rs)
    (kk : ∀ q : Nat, μ.kd q = 0 → HW Z (k + 1) (n + N) (pc + 3) L (.ref q :: st) (μ.cln q a kd N)) : HW Z k n pc L (.ref a :: st) μ := by
  obtain ⟨p, l, e, R, s, m, args, below, meth, c, G, A, nL, Q⟩ := Z
  obtain ⟨⟨hx, hbb, hml, hown, hts⟩, rfl, hK, hE, hA, _⟩ := C
  intro H locs ls hR hS hl
  subst hN
  have hcell : H[a]? = some (arrV (G.2.1 11) (μ.ln a) (fun i => .int (μ.ei a i))) := by
    have h9 := (hR a (by omega)).2
    unfold cellAt at h9
    rw [if_neg (by omega), hk] at h9
    exact h9
  have hnm := (hK.1.2 0 (G.2.1 11, .int) rfl).2
  have hnm2 : s.vm.findClass "[I" = some (G.2.1 11) := va_nm_int hnm
  have hsz : (arrV (G.2.1 11) (μ.ln a) (fun i => .int (μ.ei a i))).slots.size = μ.ln a := arrV_size _ _ _
  obtain ⟨c0, t0', f1, f2, f3⟩ := Cond.castable_spec (va_Nw.use (A := args) rfl (hK.2.2.2.2.2.2 _ ck_x))
  cases hnm2.symm.trans f1
  have hfr0 : μ.kd H.size = 0 := hR.fresh (Nat.le_refl _)
  intro T hT X
  obtain ⟨-, kA, hkA, comp, hkind⟩ := State.isArrayOf_alike X.warmed.alike ((hK.1.2 0 (G.2.1 11, .int) rfl).1 0 (fun _ => .null))
  obtain ⟨-, kS, hkS, compS, hkindS⟩ := (hK.1.2 0 (G.2.1 11, .int) rfl).1 0 (fun _ => .null)
  obtain ⟨vm', X', st9⟩ := X.cloneArray hx hown (hts _ ck_l) (hts _ ck_s) (hts _ ck_n) (hts _ ck_i) (hts _ ck_v) (a := a) (cell := arrV (G.2.1 11) (μ.ln a) (fun i => .int (μ.ei a i))) (by rw [hT]; exact hcell) (fun k h => by cases h) (fun h => by cases h) hnm2 f2 f3
    (fun i v hv => by
      have hk' : T.vm.classes[G.2.1 11]? = some kA := hkA
      have h9 := va_fit (cA := G.2.1 11) (n := μ.ln a) (F := fun i => .int (μ.ei a i)) (ty := .int) (fun _ _ => rfl) i v hv
      show State.fitsSlot T (G.2.1 11) .none i v = true
      simpa [State.fitsSlot, State.slotType?, hk', hkind] using h9)
    (g := F0 m pc ls (.ref a :: st)) rfl (by rw [hml]; exact hl.1) rfl (by rw [hbb]; exact d) hfr (by show 2 * 0 + (st.map fun v => v.category).sum + 14 ≤ rl; omega) h1 (by rw [hsz]; exact h2) (hloader := Vm.clonesLoader_of_array hkS hkindS)
  rw [hsz] at X'
  generalize hH1 : H.push (arrV (G.2.1 11) (μ.ln a) (fun i => .int (μ.ei a i))) = H1
  have z1 : H1.size = H.size + 1 := by rw [← hH1, Array.size_push]
  have e1 : H1[H.size]? = some (arrV (G.2.1 11) (μ.ln a) (fun i => .int (μ.ei a i))) := by rw [← hH1, Array.getElem?_push_size]
  have o1 : ∀ q : Nat, q < H.size → H1[q]? = H[q]? := fun q hq => by rw [← hH1, Array.getElem?_push, if_neg (Nat.ne_of_lt hq)]
  obtain ⟨t, b1, b2⟩ := kk H.size hfr0 H1 locs ls (hR.upd (a := H.size) (fun q hq => same_cln hq) (fun q _ hlt => o1 q hlt) (hA _ hS.1) (cell_cln hkd e1)) ⟨Nat.le_trans hS.1 (by omega), fun q a1 a2 => (o1 q (Nat.lt_of_lt_of_le a1 hS.1)).trans (hS.2.1 q a1 a2), hS.2.2⟩ hl
    ((T.setVm vm').pushCell (arrV (G.2.1 11) (μ.ln a) (fun i => .int (μ.ei a i)))) (by rw [← hH1, ← hT]; rfl) X'
  refine ⟨t, st9 t ?_, b2⟩
  rw [hT]
  exact b1
theorem h_castI {Z : Zx} {cc : ByteArray} {rf rc rs rl k n pc : Nat} {L : List (Option Value)} {st : List Value} {μ : Mem} {a : Nat} (C : Cx Z RX9 cc rf rc rs rl) (d : decode cc pc = .ok (.checkcast 199, 3)) (hk : μ.kd a % 32 = 11) (kk : HW Z k n (pc + 3) L (.ref a :: st) μ) : HW Z k n pc L (.ref a :: st) μ := by
  obtain ⟨p, l, e, R, s, m, args, below, meth, c, G, A, nL, Q⟩ := Z
  obtain ⟨⟨hx, hb, hml, hown, hts⟩, _, hK, _⟩ := C
  intro H locs ls hR hS hl
  have hcell : H[a]? = some (arrV (G.2.1 11) (μ.ln a) (fun i => .int (μ.ei a i))) := by
    have h9 := (hR a (by omega)).2
    unfold cellAt at h9
    rw [if_neg (by omega), hk] at h9
    exact h9
  have hnm2 : s.vm.findClass "[I" = some (G.2.1 11) := va_nm_int (hK.1.2 0 (G.2.1 11, .int) rfl).2
  intro T' hT X
  obtain ⟨vm', X', st9⟩ := X.checkcastYes hx hown (hts _ ck_c) (by rw [hT]; exact hcell) rfl hnm2 (va_asg _ _) (g := F0 m pc ls (.ref a :: st)) rfl rfl (by rw [hb]; exact d)
  obtain ⟨t, a1, b1⟩ := kk H locs ls hR hS hl (T'.setVm vm') hT X'
  exact ⟨t, st9 t a1, b1⟩
theorem twiC_1 {S : Sx} {x : Int32} (h : isL S x) : twiC S x = if S.nt.length < 60 then 0 else 2 := if_pos h
set_option maxRecDepth 100000 in
set_option maxHeartbeats 1000000 in
theorem k_X9_twice (l : Launch) (G : Gx) (Q : Nat → Nat) (S : Sx) (t : Int32) (μ : Mem) (hM : MRq Q S (LXo S t) μ) (x : Int32) : Kon l yX9_twice cX9_twice 2 (some .int) 2 1 16 46 G [.ref (Q 0), .int x] μ (pI fun v μ' => (twiC S x = 0 ∧ v = nI (S.nt.length + 1) ∧ MTo Q WAll μ (S.sNt (S.nt ++ [LTR S (cl x)])) (LXo (S.sNt (S.nt ++ [LTR S (cl x)])) 0) μ') ∨ (¬ twiC S x = 0 ∧ MTo Q WAll μ S (LXo S (twiC S x)) μ')) noX := by
  refine Kon.ofG (by decide +kernel) (Nat.le_of_ble_eq_true rfl) (Nat.le_of_ble_eq_true rfl) (fun Z hZG C E NT MT => ?_)
  subst hZG
  have C : Cx Z RX9 cX9_twice 2 1 16 46 := C
  show HW Z 0 0 0 [some (.ref (Q 0)), some (.int x)] [] μ
  have hT : MTo Q WAll μ S (LXo S t) μ := MTo.rf hM
  have h60_ := hM.nt.1
  refine h_al_g C dX9_twice_0 rfl rfl rfv_r ?_
  refine h_al_g C dX9_twice_1 rfl rfl rfv_r ?_
  refine h_iload_g C dX9_twice_2 rfl rfl ?_
  refine h_callV1 (ci := 9) C (k_X9_isLetter Z.l Z.G (Q 0) _ hM.kX S.nt.length hM.f312 h60_ _) cw_X9_241 im_X9_isLetter sl_X9_isLetter rfl (by decide) hM.kX dX9_twice_3 (by first | decide | exact Nat.le_of_ble_eq_true rfl) (by decide) (by decide) (by decide) (by decide) (kB (fun μ1 hp1 => ?_) (fun μ1 hp1 => ?_)) kN
  · obtain ⟨rfl, hL⟩ := hp1
    refine h_if_ne (tgt := 13) C dX9_twice_6 (by decide) (fun c1 => ?_) (fun c1 => absurd c1 (by decide))
    refine h_al_g C dX9_twice_13 rfl rfl rfv_r ?_
    refine gf_X9_95 C dX9_twice_14 hM.kX hM.f312 ?_
    refine h_bipush (v := 60) C dX9_twice_17 (by decide) ?_
    refine h_icmp_ne (tgt := 26) C dX9_twice_19 (by decide) (fun c1 => ?_) (fun c1 => ?_)
    · have hlt : S.nt.length < 60 := by
        have h9 : S.nt.length ≠ 60 := fun h => c1 (by show nI S.nt.length = 60; rw [h]; rfl)
        omega
      refine h_iconst (v := 0) C dX9_twice_26 (by decide) ?_
      refine h_callV1 (ci := 9) C (k_X9_isWrong Z.l Z.G (Q 0) _ hM.kX (0)) cw_X9_215 im_X9_isWrong sl_X9_isWrong rfl (by decide) hM.kX dX9_twice_27 (by first | decide | exact Nat.le_of_ble_eq_true rfl) (by decide) (by decide) (by decide) (by decide) (kB (fun μ2 hp2 => ?_) (fun μ2 hp2 => ?_)) kN
      · obtain ⟨hc, e9⟩ := hp2
        exact absurd rfl hc
      · obtain ⟨hc, e9⟩ := hp2
        have hT := hT.sfi (Or.inr trivial) e9 (hT.1.w290 e9)
        have hM := hT.1
        refine h_if_eq (tgt := 35) C dX9_twice_30 (by decide) (fun c3 => ?_) (fun c3 => absurd (by decide) c3)
        refine h_al_g C dX9_twice_35 rfl rfl rfv_r ?_
        refine gs_X9_80 C dX9_twice_36 hM.kX (hM.fA (i := 20) (by decide)) ?_
        refine h_al_g C dX9_twice_39 rfl rfl rfv_r ?_
        refine h_dup C dX9_twice_40 rfl ?_
        refine gf_X9_95 C dX9_twice_41 hM.kX hM.f312 ?_
        refine h_dup_x1 C dX9_twice_44 rfl rfl ?_
        refine h_iconst (v := 1) C dX9_twice_45 (by decide) ?_
        refine h_iadd C dX9_twice_46 ?_
        refine pf_X9_95 C dX9_twice_47 hM.kX ?_
        refine h_abs (fun m1 em1 => ?_)
        have hT := hT.sfi (Or.inr trivial) em1 (hT.1.w312 (n := S.nt.length + 1) (em1.trans (congrArg (fun v => Mem.sfi _ 312 (Q 0) v) (nI_add _ 1))))
        have hM := hT.1
        refine h_al_g C dX9_twice_50 rfl rfl rfv_r ?_
        refine gs_X9_80 C dX9_twice_51 hM.kX (hM.fA (i := 20) (by decide)) ?_
        refine h_iload_g C dX9_twice_54 rfl rfl ?_
        obtain ⟨z, y1, hR_z⟩ := hM.row (List.getElem?_eq_getElem (show cl x < S.nt.length by have := cl_eq hL.1; have := hL.2; omega))
        have eL : LTR S (cl x) = S.nt[cl x]'(by have := cl_eq hL.1; have := hL.2; omega) := LTR_eq (List.getElem?_eq_getElem _)
        rw [← eL] at hR_z
        refine h_aald (r := some _) C dX9_twice_55 (hM.kr (by decide)) (inb hM.ln60 (vp_isE hL.1 (by have := hL.2; omega) (by decide))) y1 ?_
        refine h_clone (N := 16) (11 + 32 * 100) C rfl dX9_twice_56 (by rw [hR_z.1]; decide) hR_z.2.1 (by omega) (Nat.le_of_ble_eq_true rfl) (by omega) (by omega) (fun q hq => ?_)
        refine h_abs (fun m8 e8 => ?_)
        have hR2 : RowAt m8 KTMP q 16 (LTR S (cl x)) := ⟨by rw [e8]; exact kd_cln, by rw [e8]; exact ln_cln, fun j hj => by rw [e8]; exact (ei_cln j).trans (hR_z.2.2 j hj)⟩
        have hwz := hT.fresh hq
        have hT := hT.nw (Nw.rf.at (m' := m8) hq (fun z hz => by rw [e8]; exact same_cln hz) hR2.1)
        have hM := hT.1
        refine h_castI C dX9_twice_59 (by rw [hR2.1]; decide) ?_
        have hn : ∀ i, i < S.nt.length → m8.er (Q 20) i ≠ some q := fun i hi e => by
          obtain ⟨y, y1, y2⟩ := hM.row (List.getElem?_eq_getElem hi)
          cases e.symm.trans y1
          have y3 := y2.1
          rw [hR2.1] at y3
          exact absurd y3 (by decide)
        refine h_skd q KLR (by first | (rw [hR2.1]; done) | (rw [hR2.1]; decide)) (by rw [hR2.1]; decide) ?_
        have hT := hT.mark hR2.1 (k := KLR) ⟨by decide, by decide⟩ hwz
        have hM := hT.1
        have hR := hR2.mark (k' := KLR)
        refine h_aast C dX9_twice_62 (by rw [hM.k17 (by decide), kd_skd]; decide) (inb hM.ln60 (vp_in_nI hlt (by decide))) ?_
        refine h_abs (fun m7 e7 => ?_)
        rw [show (nI ((LXo S t).sTh 0).n).toNatClampNeg = S.nt.length from cl_of (show S.nt.length < 2 ^ 31 by omega)] at e7
        have hT := hT.ser (j := 20) (by decide) (Or.inr trivial) e7 (hM.addL e7 hR hn hlt)
        have hT := hT.lx (List.length_append (as := S.nt) (bs := [_])).symm (fun _ _ => rfl) (fun _ _ => rfl) (fun _ _ _ _ => rfl) (fun _ _ _ _ _ _ => rfl) (fun _ _ _ _ _ _ z => z) (fun _ _ _ _ _ _ z => z)
        have hM := hT.1
        refine h_al_g C dX9_twice_63 rfl rfl rfv_r ?_
        refine gf_X9_95 C dX9_twice_64 hM.kX hM.f312 ?_
        refine h_iret C E dX9_twice_67 (by decide) (by decide) ?_
        exact ⟨_, rfl, Or.inl ⟨(twiC_1 hL).trans (if_pos hlt), congrArg nI List.length_append, hT⟩⟩
    · have hlt : ¬ S.nt.length < 60 := by
        have h9 : S.nt.length = 60 := (nI_eq (a := S.nt.length) (b := 60) (by omega) (by decide)).mp c1
        omega
      refine h_iconst (v := 2) C dX9_twice_22 (by decide) ?_
      refine h_goto (tgt := 27) C dX9_twice_23 (by decide) ?_
      refine h_callV1 (ci := 9) C (k_X9_isWrong Z.l Z.G (Q 0) _ hM.kX (2)) cw_X9_215 im_X9_isWrong sl_X9_isWrong rfl (by decide) hM.kX dX9_twice_27 (by first | decide | exact Nat.le_of_ble_eq_true rfl) (by decide) (by decide) (by decide) (by decide) (kB (fun μ3 hp3 => ?_) (fun μ3 hp3 => ?_)) kN
      · obtain ⟨hc, e9⟩ := hp3
        have hT := hT.sfi (Or.inr trivial) e9 (hT.1.w290 e9)
        have hM := hT.1
        refine h_if_eq (tgt := 35) C dX9_twice_30 (by decide) (fun c4 => absurd c4 (by decide)) (fun c4 => ?_)
        refine h_iconst (v := 0) C dX9_twice_33 (by decide) ?_
        refine h_iret C E dX9_twice_34 (by decide) (by decide) ?_
        exact ⟨_, rfl, Or.inr ⟨by rw [(twiC_1 hL).trans (if_neg hlt)]; decide, by rw [(twiC_1 hL).trans (if_neg hlt)]; exact hT⟩⟩
      · obtain ⟨hc, e9⟩ := hp3
        exact absurd hc (by decide)
  · obtain ⟨rfl, hL⟩ := hp1
    refine h_if_ne (tgt := 13) C dX9_twice_6 (by decide) (fun c5 => absurd c5 (by decide)) (fun c5 => ?_)
    refine h_iconst (v := 1) C dX9_twice_9 (by decide) ?_
    refine h_goto (tgt := 27) C dX9_twice_10 (by decide) ?_
    refine h_callV1 (ci := 9) C (k_X9_isWrong Z.l Z.G (Q 0) _ hM.kX (1)) cw_X9_215 im_X9_isWrong sl_X9_isWrong rfl (by decide) hM.kX dX9_twice_27 (by first | decide | exact Nat.le_of_ble_eq_true rfl) (by decide) (by decide) (by decide) (by decide) (kB (fun μ4 hp4 => ?_) (fun μ4 hp4 => ?_)) kN
    · obtain ⟨hc, e9⟩ := hp4
      have hT := hT.sfi (Or.inr trivial) e9 (hT.1.w290 e9)
      have hM := hT.1
      refine h_if_eq (tgt := 35) C dX9_twice_30 (by decide) (fun c6 => absurd c6 (by decide)) (fun c6 => ?_)
      refine h_iconst (v := 0) C dX9_twice_33 (by decide) ?_
      refine h_iret C E dX9_twice_34 (by decide) (by decide) ?_
      exact ⟨_, rfl, Or.inr ⟨by rw [show twiC S x = 1 from if_neg hL]; decide, by rw [show twiC S x = 1 from if_neg hL]; exact hT⟩⟩
    · obtain ⟨hc, e9⟩ := hp4
      exact absurd hc (by decide)

set_option maxRecDepth 100000 in
set_option maxHeartbeats 1000000 in
theorem k_X9_later (l : Launch) (G : Gx) (Q : Nat → Nat) (S : Sx) (t : Int32) (μ : Mem) (hM : MRq Q S (LXo S t) μ) (x : Int32) : Kon l yX9_later cX9_later 3 (some .int) 2 0 0 46 G [.ref (Q 0), .int x] μ (pI fun v μ' => (letC S x = 0 ∧ v = nI S.nt.length - 1 ∧ MTo Q WAll μ (S.sNt (S.nt.eraseIdx (cl x) ++ [LTR S (cl x)])) (LXo (S.sNt (S.nt.eraseIdx (cl x) ++ [LTR S (cl x)])) 0) μ') ∨ (¬ letC S x = 0 ∧ MTo Q WAll μ S (LXo S (letC S x)) μ')) noX := by
  refine Kon.ofG (by decide +kernel) (Nat.le_of_ble_eq_true rfl) (Nat.le_of_ble_eq_true rfl) (fun Z hZG C E NT MT => ?_)
  subst hZG
  have C : Cx Z RX9 cX9_later 2 0 0 46 := C
  show HW Z 0 0 0 [some (.ref (Q 0)), some (.int x), none] [] μ
  have hT : MTo Q WAll μ S (LXo S t) μ := MTo.rf hM
  have h60_ := hM.nt.1
  refine h_al_g C dX9_later_0 rfl rfl rfv_r ?_
  refine h_al_g C dX9_later_1 rfl rfl rfv_r ?_
  refine h_iload_g C dX9_later_2 rfl rfl ?_
  refine h_callV1 (ci := 9) C (k_X9_isLetter Z.l Z.G (Q 0) _ hM.kX S.nt.length hM.f312 h60_ _) cw_X9_241 im_X9_isLetter sl_X9_isLetter rfl (by decide) hM.kX dX9_later_3 (by first | decide | exact Nat.le_of_ble_eq_true rfl) (by decide) (by decide) (by decide) (by decide) (kB (fun μ1 hp1 => ?_) (fun μ1 hp1 => ?_)) kN
  · obtain ⟨rfl, hL⟩ := hp1
    refine h_if_eq (tgt := 13) C dX9_later_6 (by decide) (fun c1 => absurd c1 (by decide)) (fun c1 => ?_)
    refine h_iconst (v := 0) C dX9_later_9 (by decide) ?_
    refine h_goto (tgt := 14) C dX9_later_10 (by decide) ?_
    refine h_callV1 (ci := 9) C (k_X9_isWrong Z.l Z.G (Q 0) _ hM.kX (0)) cw_X9_215 im_X9_isWrong sl_X9_isWrong rfl (by decide) hM.kX dX9_later_14 (by first | decide | exact Nat.le_of_ble_eq_true rfl) (by decide) (by decide) (by decide) (by decide) (kB (fun μ2 hp2 => ?_) (fun μ2 hp2 => ?_)) kN
    · obtain ⟨hc, e9⟩ := hp2
      exact absurd rfl hc
    · obtain ⟨hc, e9⟩ := hp2
      have hT := hT.sfi (Or.inr trivial) e9 (hT.1.w290 e9)
      have hM := hT.1
      refine h_if_eq (tgt := 22) C dX9_later_17 (by decide) (fun c2 => ?_) (fun c2 => absurd (by decide) c2)
      refine h_al_g C dX9_later_22 rfl rfl rfv_r ?_
      refine gs_X9_80 C dX9_later_23 hM.kX (hM.fA (i := 20) (by decide)) ?_
      refine h_iload_g C dX9_later_26 rfl rfl ?_
      obtain ⟨z, y1, hR_z⟩ := hM.row (List.getElem?_eq_getElem (show cl x < S.nt.length by have := cl_eq hL.1; have := hL.2; omega))
      have eL : LTR S (cl x) = S.nt[cl x]'(by have := cl_eq hL.1; have := hL.2; omega) := LTR_eq (List.getElem?_eq_getElem _)
      rw [← eL] at hR_z
      have hlen : cl x < S.nt.length := by have := cl_eq hL.1; have := hL.2; omega
      have hM0 := hM
      have he1 : (S.nt.eraseIdx (cl x)).length + 1 = S.nt.length := by rw [List.length_eraseIdx, if_pos hlen]; omega
      refine h_aald (r := some _) C dX9_later_27 (hM.kr (by decide)) (inb hM.ln60 (vp_isE hL.1 (by have := hL.2; omega) (by decide))) y1 ?_
      refine h_ast_2 C dX9_later_28 ct_i rfv_r ?_
      refine h_al_g C dX9_later_29 rfl rfl rfv_r ?_
      refine h_iload_g C dX9_later_30 rfl rfl ?_
      refine h_callV1 (ci := 9) C (k_X9_take Z.l Z.G Q S _ _ hM (cl x) (by have := cl_eq hL.1; have := hL.2; omega) x (cl_nI hL.1)) cw_X9_244 im_X9_take sl_X9_take rfl (by decide) hM.kX dX9_later_31 (by first | decide | exact Nat.le_of_ble_eq_true rfl) (by decide) (by decide) (by decide) (by decide) (kV fun μ3 hp3 => ?_) kN
      obtain ⟨hTk, her⟩ := hp3
      have hR_z := hR_z.same (hTk.2.2 z (by rw [hR_z.1]; decide) (fun h => by
        rw [hR_z.1] at h
        exact h.elim (fun e => KM_hi (j := 0) (k := KLR) (by decide) (by decide) e.symm) (fun e => KM_hi (j := 20) (k := KLR) (by decide) (by decide) e.symm)))
      have hT := hT.tr hTk (fun _ _ => trivial)
      have hM := hT.1
      have hn : ∀ i, i < (S.nt.eraseIdx (cl x)).length → μ3.er (Q 20) i ≠ some z := fun i hi e => by
        rw [her i] at e
        by_cases c : cl x ≤ i ∧ i + 1 < S.nt.length
        · rw [if_pos c] at e
          have := hM0.rowNe (k := cl x) (k' := i + 1) hlen c.2 y1 e
          omega
        · rw [if_neg c] at e
          have := hM0.rowNe (k := cl x) (k' := i) hlen (by omega) y1 e
          omega
      refine h_al_g C dX9_later_34 rfl rfl rfv_r ?_
      refine gs_X9_80 C dX9_later_35 hM.kX (hM.fA (i := 20) (by decide)) ?_
      refine h_al_g C dX9_later_38 rfl rfl rfv_r ?_
      refine h_dup C dX9_later_39 rfl ?_
      refine gf_X9_95 C dX9_later_40 hM.kX hM.f312 ?_
      refine h_dup_x1 C dX9_later_43 rfl rfl ?_
      refine h_iconst (v := 1) C dX9_later_44 (by decide) ?_
      refine h_iadd C dX9_later_45 ?_
      have hM_ := hM
      refine pf_X9_95 C dX9_later_46 hM.kX ?_
      refine h_abs (fun m1 em1 => ?_)
      have hT := hT.sfi (Or.inr trivial) em1 (hT.1.w312 (n := (S.nt.eraseIdx (cl x)).length + 1) (em1.trans (congrArg (fun v => Mem.sfi _ 312 (Q 0) v) (nI_add _ 1))))
      have hM := hT.1
      have hR_z := hR_z.same (show SameAt _ m1 z from by rw [em1]; exact same_sfi (fun h9 => by have h8 := hR_z.1; rw [h9, hM_.kd (by decide)] at h8; exact absurd h8 (by decide)))
      have hn : ∀ i, i < (S.nt.eraseIdx (cl x)).length → m1.er (Q 20) i ≠ some z := fun i hi e => hn i hi (by rw [em1] at e; exact e)
      refine h_al_g C dX9_later_49 rfl rfl rfv_r ?_
      refine h_aast C dX9_later_50 (by rw [hM.k17 (by decide), hR_z.1]; decide) (inb hM.ln60 (vp_in_nI (show (S.nt.eraseIdx (cl x)).length < 60 by omega) (by decide))) ?_
      refine h_abs (fun m7 e7 => ?_)
      rw [show (nI (LXo (S.sNt (S.nt.eraseIdx (cl x))) 0).n).toNatClampNeg = (S.nt.eraseIdx (cl x)).length from cl_of (show (S.nt.eraseIdx (cl x)).length < 2 ^ 31 by omega)] at e7
      have hT := hT.ser (j := 20) (by decide) (Or.inr trivial) e7 (hM.addL e7 hR_z hn (show (S.nt.eraseIdx (cl x)).length < 60 by omega))
      have hT := hT.lx (List.length_append (as := S.nt.eraseIdx (cl x)) (bs := [_])).symm (fun _ _ => rfl) (fun _ _ => rfl) (fun _ _ _ _ => rfl) (fun _ _ _ _ _ _ => rfl) (fun _ _ _ _ _ _ z => z) (fun _ _ _ _ _ _ z => z)
      have hM := hT.1
      refine h_al_g C dX9_later_51 rfl rfl rfv_r ?_
      refine gf_X9_95 C dX9_later_52 hM.kX hM.f312 ?_
      refine h_iconst (v := 1) C dX9_later_55 (by decide) ?_
      refine h_isub C dX9_later_56 ?_
      refine h_iret C E dX9_later_57 (by decide) (by decide) ?_
      exact ⟨_, rfl, Or.inl ⟨if_pos hL, congrArg (fun n => nI n - 1) (List.length_append.trans he1), hT⟩⟩
  · obtain ⟨rfl, hL⟩ := hp1
    refine h_if_eq (tgt := 13) C dX9_later_6 (by decide) (fun c3 => ?_) (fun c3 => absurd (by decide) c3)
    refine h_iconst (v := 1) C dX9_later_13 (by decide) ?_
    refine h_callV1 (ci := 9) C (k_X9_isWrong Z.l Z.G (Q 0) _ hM.kX (1)) cw_X9_215 im_X9_isWrong sl_X9_isWrong rfl (by decide) hM.kX dX9_later_14 (by first | decide | exact Nat.le_of_ble_eq_true rfl) (by decide) (by decide) (by decide) (by decide) (kB (fun μ4 hp4 => ?_) (fun μ4 hp4 => ?_)) kN
    · obtain ⟨hc, e9⟩ := hp4
      have hT := hT.sfi (Or.inr trivial) e9 (hT.1.w290 e9)
      have hM := hT.1
      refine h_if_eq (tgt := 22) C dX9_later_17 (by decide) (fun c4 => absurd c4 (by decide)) (fun c4 => ?_)
      refine h_iconst (v := 0) C dX9_later_20 (by decide) ?_
      refine h_iret C E dX9_later_21 (by decide) (by decide) ?_
      exact ⟨_, rfl, Or.inr ⟨by rw [show letC S x = 1 from if_neg hL]; decide, by rw [show letC S x = 1 from if_neg hL]; exact hT⟩⟩
    · obtain ⟨hc, e9⟩ := hp4
      exact absurd hc (by decide)

theorem tIx {f : Int32} (h : 1 ≤ f.toInt ∧ f.toInt ≤ 5) : vp_in (3 + f) 16 ∧ (3 + f : Int32).toNatClampNeg = 3 + cl f ∧ vp_in (9 + f) 16 ∧ (9 + f : Int32).toNatClampNeg = 9 + cl f ∧ cl f < 6 ∧ f = nI (cl f) := by
  have h0 : 0 ≤ f.toInt := by omega
  have e1 := cl_eq h0
  have e3 : (3 + f : Int32) = nI (3 + cl f) := (congrArg (fun q => 3 + q) (cl_nI h0)).trans (nI_add 3 _)
  have e9 : (9 + f : Int32) = nI (9 + cl f) := (congrArg (fun q => 9 + q) (cl_nI h0)).trans (nI_add 9 _)
  exact ⟨by rw [e3]; exact vp_in_nI (by omega) (by decide), by rw [e3]; exact cl_of (by omega), by rw [e9]; exact vp_in_nI (by omega) (by decide), by rw [e9]; exact cl_of (by omega), by omega, cl_nI h0⟩
theorem CTM_r {k f : Int32} (h : CTM k f) : 1 ≤ f.toInt ∧ f.toInt ≤ 5 := by
  rcases h with ⟨-, h | h⟩ | ⟨-, h⟩ | ⟨-, h | h⟩ | ⟨-, h⟩
  · rw [h]; decide
  · rw [h]; decide
  · rw [h]; decide
  · rw [h]; decide
  · rw [h]; decide
  · exact h
theorem CTM_b {k f : Int32} (h : k = 1 ∨ k = 2 ∨ k = 3 ∨ k = 4) : CTM k f ↔ CTNb k f = true := (CTM_CTN h).trans CTN_iff
theorem trn_L {a b z : Int32} (ha : -10000 ≤ a.toInt - b.toInt ∧ a.toInt - b.toInt ≤ 10000) (hb : -2100000000 ≤ b.toInt ∧ b.toInt ≤ 2100000000) (hz : -500 ≤ z.toInt ∧ z.toInt ≤ 500) : (a.toInt64 + z.toInt64 - b.toInt64 : Int64).toInt = a.toInt + z.toInt - b.toInt ∧ (a + z - b : Int32).toInt = a.toInt + z.toInt - b.toInt := by
  have h1 : (a + z : Int32).toInt = a.toInt + z.toInt := fb_addI (by omega) (by omega)
  have h2 : (a.toInt64 + z.toInt64 : Int64).toInt = a.toInt + z.toInt := by rw [fb_addL (by rw [Int32.toInt_toInt64, Int32.toInt_toInt64]; omega) (by rw [Int32.toInt_toInt64, Int32.toInt_toInt64]; omega), Int32.toInt_toInt64, Int32.toInt_toInt64]
  refine ⟨?_, ?_⟩
  · rw [fb_subL (by rw [h2, Int32.toInt_toInt64]; omega) (by rw [h2, Int32.toInt_toInt64]; omega), h2, Int32.toInt_toInt64]
  · rw [fb_subI (by rw [h1]; omega) (by rw [h1]; omega), h1]
theorem trn_btw {a b z : Int32} (ha : -10000 ≤ a.toInt - b.toInt ∧ a.toInt - b.toInt ≤ 10000) (hb : -2100000000 ≤ b.toInt ∧ b.toInt ≤ 2100000000) (hz : -500 ≤ z.toInt ∧ z.toInt ≤ 500) : ((-10000 : Int64) ≤ a.toInt64 + z.toInt64 - b.toInt64 ∧ (a.toInt64 + z.toInt64 - b.toInt64 : Int64) ≤ 10000) ↔ inR (a + z - b) (-10000) 10000 := by
  obtain ⟨h1, h2⟩ := trn_L ha hb hz
  rw [Int64.le_iff_toInt_le, Int64.le_iff_toInt_le, h1]
  unfold inR
  rw [h2]
  exact Iff.rfl
/-- the code of turn, the letter's test in the model's own words -/
theorem trn_code {S : Sx} {x f z : Int32} (hL : isL S x) (hg : okG (LTR S (cl x))) (hc : CTNb (LTR S (cl x) 2) f = true) (hf : 1 ≤ f.toInt ∧ f.toInt ≤ 5) (hz : inR z (-500) 500) (hz0 : ¬ z = 0) : (¬ inR (LTR S (cl x) (3 + cl f) + z - LTR S (cl x) (9 + cl f)) (-10000) 10000 → trnC S x f z = 2) ∧ (inR (LTR S (cl x) (3 + cl f) + z - LTR S (cl x) (9 + cl f)) (-10000) 10000 → (LTR S (cl x) 15 = -1 → trnC S x f z = 0) ∧ (LTR S (cl x) 15 = f → trnC S x f z = 0) ∧ (¬ LTR S (cl x) 15 = -1 → ¬ LTR S (cl x) 15 = f → trnC S x f z = 3)) := by
  obtain ⟨g1, g2, g3, g4⟩ := hg
  obtain ⟨-, -, -, -, h6, hn⟩ := tIx hf
  have hF : FLDv (LTR S (cl x)) f = LTR S (cl x) (3 + cl f) := if_pos ⟨by omega, by omega⟩
  have hm1 : ¬ f = -1 := fun h => by rw [h] at hf; exact absurd hf.1 (by decide)
  have hB := g4 (cl f) h6
  have hT : trnC S x f z = (if LTR S (cl x) 15 = f then (if inR (FLDv (LTR S (cl x)) f + z - ORIG (LTR S (cl x))) (-10000) 10000 then 0 else 2) else (if LTR S (cl x) 15 = -1 then 0 else 3)) := by
    unfold trnC
    rw [if_pos hL, if_pos hc, if_pos hz, if_pos hz0]
  have hnear : ¬ LTR S (cl x) 15 = f → inR (LTR S (cl x) (3 + cl f) + z - LTR S (cl x) (9 + cl f)) (-10000) 10000 := fun h => by
    have h9 := g3 (cl f) h6 (fun q => h (q.trans hn.symm))
    obtain ⟨-, e2⟩ := trn_L hB.1 hB.2 hz
    unfold inR
    rw [e2, h9]
    have z1 : -500 ≤ z.toInt := hz.1
    have z2 : z.toInt ≤ 500 := hz.2
    exact ⟨by show (-10000 : Int) ≤ _; omega, by show _ ≤ (10000 : Int); omega⟩
  have hO : LTR S (cl x) 15 = f → ORIG (LTR S (cl x)) = LTR S (cl x) (9 + cl f) := fun h => by
    unfold ORIG
    rw [if_neg (fun q => hm1 (h.symm.trans q)), h]
  refine ⟨fun h => ?_, fun h => ⟨fun h1 => ?_, fun h1 => ?_, fun h1 h2 => ?_⟩⟩
  · have h1 : LTR S (cl x) 15 = f := Decidable.byContradiction fun q => h (hnear q)
    rw [hT, if_pos h1, hF, hO h1, if_neg h]
  · rw [hT, if_neg (fun q => hm1 (q.symm.trans h1)), if_pos h1]
  · rw [hT, if_pos h1, hF, hO h1, if_pos h]
  · rw [hT, if_neg h2, if_neg h1]
set_option maxRecDepth 100000 in
set_option maxHeartbeats 1000000 in
theorem k_X9_turn (l : Launch) (G : Gx) (Q : Nat → Nat) (S : Sx) (t : Int32) (μ : Mem) (hM : MRq Q S (LXo S t) μ) (x f z9 : Int32) (hG : ∀ g ∈ S.nt, okG g) : Kon l yX9_turn cX9_turn 5 (some .int) 2 0 0 46 G [.ref (Q 0), .int x, .int f, .int z9] μ (pI fun v μ' => (trnC S x f z9 = 0 ∧ v = LTR S (cl x) (3 + cl f) + z9 ∧ MTo Q WAll μ (S.sNt (S.nt.set (cl x) (TRN (LTR S (cl x)) f z9))) (LXo (S.sNt (S.nt.set (cl x) (TRN (LTR S (cl x)) f z9))) 0) μ') ∨ (¬ trnC S x f z9 = 0 ∧ MTo Q WAll μ S (LXo S (trnC S x f z9)) μ')) noX := by
  refine Kon.ofG (by decide +kernel) (Nat.le_of_ble_eq_true rfl) (Nat.le_of_ble_eq_true rfl) (fun Z hZG C E NT MT => ?_)
  subst hZG
  have C : Cx Z RX9 cX9_turn 2 0 0 46 := C
  show HW Z 0 0 0 [some (.ref (Q 0)), some (.int x), some (.int f), some (.int z9), none] [] μ
  have hT : MTo Q WAll μ S (LXo S t) μ := MTo.rf hM
  have h60_ := hM.nt.1
  refine h_al_g C dX9_turn_0 rfl rfl rfv_r ?_
  refine h_iload_g C dX9_turn_1 rfl rfl ?_
  refine h_callV1 (ci := 9) C (k_X9_isLetter Z.l Z.G (Q 0) _ hM.kX S.nt.length hM.f312 h60_ _) cw_X9_241 im_X9_isLetter sl_X9_isLetter rfl (by decide) hM.kX dX9_turn_2 (by first | decide | exact Nat.le_of_ble_eq_true rfl) (by decide) (by decide) (by decide) (by decide) (kB (fun μ1 hp1 => ?_) (fun μ1 hp1 => ?_)) kN
  · obtain ⟨rfl, hL⟩ := hp1
    refine h_if_ne (tgt := 12) C dX9_turn_5 (by decide) (fun c1 => ?_) (fun c1 => absurd c1 (by decide))
    refine h_al_g C dX9_turn_12 rfl rfl rfv_r ?_
    refine gs_X9_80 C dX9_turn_13 hM.kX (hM.fA (i := 20) (by decide)) ?_
    refine h_iload_g C dX9_turn_16 rfl rfl ?_
    obtain ⟨z, y1, hR_z⟩ := hM.row (List.getElem?_eq_getElem (show cl x < S.nt.length by have := cl_eq hL.1; have := hL.2; omega))
    have eL : LTR S (cl x) = S.nt[cl x]'(by have := cl_eq hL.1; have := hL.2; omega) := LTR_eq (List.getElem?_eq_getElem _)
    rw [← eL] at hR_z
    have hlen : cl x < S.nt.length := by have := cl_eq hL.1; have := hL.2; omega
    have hg := hG _ (List.getElem_mem hlen)
    rw [← eL] at hg
    refine h_aald (r := some _) C dX9_turn_17 (hM.kr (by decide)) (inb hM.ln60 (vp_isE hL.1 (by have := hL.2; omega) (by decide))) y1 ?_
    refine h_iconst (v := 2) C dX9_turn_18 (by decide) ?_
    refine h_iald C dX9_turn_19 (by rw [hR_z.1]; first | decide | exact KSE_m _ _ _) (inb hR_z.2.1 (vp_in_nI (n := 2) (by decide) (by decide))) (hR_z.2.2 2 (by decide)) ?_
    refine h_iload_g C dX9_turn_20 rfl rfl ?_
    refine h_callS2 C (k_X9_canTurn Z.l Z.G _ _ _) cw_X9_260 st_X9_canTurn dX9_turn_21 (by first | decide | exact Nat.le_of_ble_eq_true rfl) (by decide) (by decide) (by decide) (by decide) (kB (fun μ2 hp2 => ?_) (fun μ2 hp2 => ?_)) kN
    · obtain ⟨rfl, hCT⟩ := hp2
      have hCb := CTM_b (f := f) hg.1
      have hcf := CTM_r hCT
      obtain ⟨hi3, hi4, hi5, hi6, hi7, hi8⟩ := tIx hcf
      refine h_if_eq (tgt := 45) C dX9_turn_24 (by decide) (fun c2 => absurd c2 (by decide)) (fun c2 => ?_)
      refine h_iload_g C dX9_turn_27 rfl rfl ?_
      refine h_if_eq (tgt := 45) C dX9_turn_28 (by decide) (fun c1 => ?_) (fun c1 => ?_)
      · refine h_iconst (v := 2) C dX9_turn_45 (by decide) ?_
        refine h_goto (tgt := 50) C dX9_turn_46 (by decide) ?_
        refine h_ist_4 C dX9_turn_50 ct_i ?_
        refine h_iload_w C dX9_turn_52 rfl ?_
        refine h_if_ne (tgt := 99) C dX9_turn_54 (by decide) (fun c4 => ?_) (fun c4 => absurd c4 (by decide))
        refine h_al_g C dX9_turn_99 rfl rfl rfv_r ?_
        refine h_iload_w C dX9_turn_100 rfl ?_
        refine h_if_ne (tgt := 135) C dX9_turn_102 (by decide) (fun c5 => ?_) (fun c5 => absurd c5 (by decide))
        refine h_iload_w C dX9_turn_135 rfl ?_
        refine h_callV1 (ci := 9) C (k_X9_isWrong Z.l Z.G (Q 0) _ hM.kX (2)) cw_X9_215 im_X9_isWrong sl_X9_isWrong rfl (by decide) hM.kX dX9_turn_137 (by first | decide | exact Nat.le_of_ble_eq_true rfl) (by decide) (by decide) (by decide) (by decide) (kB (fun μ3 hp3 => ?_) (fun μ3 hp3 => ?_)) kN
        · obtain ⟨hc, e9⟩ := hp3
          have hT := hT.sfi (Or.inr trivial) e9 (hT.1.w290 e9)
          have hM := hT.1
          refine h_if_eq (tgt := 145) C dX9_turn_140 (by decide) (fun c6 => absurd c6 (by decide)) (fun c6 => ?_)
          refine h_iconst (v := 0) C dX9_turn_143 (by decide) ?_
          refine h_iret C E dX9_turn_144 (by decide) (by decide) ?_
          exact ⟨_, rfl, Or.inr ⟨by rw [(show trnC S x f z9 = 2 from (if_pos hL).trans ((if_pos (hCb.mp hCT)).trans (by rw [if_pos (show inR z9 (-500) 500 by rw [c1]; exact ⟨by decide, by decide⟩), if_neg (fun q => q c1)])))]; decide, by rw [(show trnC S x f z9 = 2 from (if_pos hL).trans ((if_pos (hCb.mp hCT)).trans (by rw [if_pos (show inR z9 (-500) 500 by rw [c1]; exact ⟨by decide, by decide⟩), if_neg (fun q => q c1)])))]; exact hT⟩⟩
        · obtain ⟨hc, e9⟩ := hp3
          exact absurd hc (by decide)
      · refine h_iload_g C dX9_turn_31 rfl rfl ?_
        refine h_i2l C dX9_turn_32 ?_
        refine h_ldc2 C kc_X9_263 dX9_turn_33 ?_
        refine h_ldc2 C kc_X9_265 dX9_turn_36 ?_
        refine h_callS3 C (k_X9_isBetween Z.l Z.G _ _ _ _) cw_X9_91 st_X9_isBetween dX9_turn_39 (by first | decide | exact Nat.le_of_ble_eq_true rfl) (by decide) (by decide) (by decide) (by decide) (kB (fun μ4 hp4 => ?_) (fun μ4 hp4 => ?_)) kN
        · obtain ⟨rfl, hBt⟩ := hp4
          rw [btw_i] at hBt
          have hBt : inR z9 (-500) 500 := hBt
          have hCO := trn_code hL hg (hCb.mp hCT) hcf hBt c1
          refine h_if_ne (tgt := 49) C dX9_turn_42 (by decide) (fun c7 => ?_) (fun c7 => absurd c7 (by decide))
          refine h_iconst (v := 0) C dX9_turn_49 (by decide) ?_
          refine h_ist_4 C dX9_turn_50 ct_i ?_
          refine h_iload_w C dX9_turn_52 rfl ?_
          refine h_if_ne (tgt := 99) C dX9_turn_54 (by decide) (fun c8 => absurd c8 (by decide)) (fun c8 => ?_)
          refine h_al_g C dX9_turn_57 rfl rfl rfv_r ?_
          refine gs_X9_80 C dX9_turn_58 hM.kX (hM.fA (i := 20) (by decide)) ?_
          refine h_iload_g C dX9_turn_61 rfl rfl ?_
          refine h_aald (r := some _) C dX9_turn_62 (hM.kr (by decide)) (inb hM.ln60 (vp_isE hL.1 (by have := hL.2; omega) (by decide))) y1 ?_
          refine h_iconst (v := 3) C dX9_turn_63 (by decide) ?_
          refine h_iload_g C dX9_turn_64 rfl rfl ?_
          refine h_iadd C dX9_turn_65 ?_
          refine h_iald C dX9_turn_66 (by rw [hR_z.1]; decide) (inb hR_z.2.1 hi3) (atI hi4 (hR_z.2.2 _ (by omega))) ?_
          refine h_i2l C dX9_turn_67 ?_
          refine h_iload_g C dX9_turn_68 rfl rfl ?_
          refine h_i2l C dX9_turn_69 ?_
          refine h_ladd C dX9_turn_70 ?_
          refine h_al_g C dX9_turn_71 rfl rfl rfv_r ?_
          refine gs_X9_80 C dX9_turn_72 hM.kX (hM.fA (i := 20) (by decide)) ?_
          refine h_iload_g C dX9_turn_75 rfl rfl ?_
          refine h_aald (r := some _) C dX9_turn_76 (hM.kr (by decide)) (inb hM.ln60 (vp_isE hL.1 (by have := hL.2; omega) (by decide))) y1 ?_
          refine h_bipush (v := 9) C dX9_turn_77 (by decide) ?_
          refine h_iload_g C dX9_turn_79 rfl rfl ?_
          refine h_iadd C dX9_turn_80 ?_
          refine h_iald C dX9_turn_81 (by rw [hR_z.1]; decide) (inb hR_z.2.1 hi5) (atI hi6 (hR_z.2.2 _ (by omega))) ?_
          refine h_i2l C dX9_turn_82 ?_
          refine h_lsub C dX9_turn_83 ?_
          refine h_ldc2 C kc_X9_267 dX9_turn_84 ?_
          refine h_ldc2 C kc_X9_269 dX9_turn_87 ?_
          refine h_callS3 C (k_X9_isBetween Z.l Z.G _ _ _ _) cw_X9_91 st_X9_isBetween dX9_turn_90 (by first | decide | exact Nat.le_of_ble_eq_true rfl) (by decide) (by decide) (by decide) (by decide) (kB (fun μ5 hp5 => ?_) (fun μ5 hp5 => ?_)) kN
          · obtain ⟨rfl, hB2⟩ := hp5
            have hB2 := (trn_btw (hg.2.2.2 _ hi7).1 (hg.2.2.2 _ hi7).2 hBt).mp hB2
            refine h_if_ne (tgt := 99) C dX9_turn_93 (by decide) (fun c9 => ?_) (fun c9 => absurd c9 (by decide))
            refine h_al_g C dX9_turn_99 rfl rfl rfv_r ?_
            refine h_iload_w C dX9_turn_100 rfl ?_
            refine h_if_ne (tgt := 135) C dX9_turn_102 (by decide) (fun c10 => absurd c10 (by decide)) (fun c10 => ?_)
            refine h_al_g C dX9_turn_105 rfl rfl rfv_r ?_
            refine gs_X9_80 C dX9_turn_106 hM.kX (hM.fA (i := 20) (by decide)) ?_
            refine h_iload_g C dX9_turn_109 rfl rfl ?_
            refine h_aald (r := some _) C dX9_turn_110 (hM.kr (by decide)) (inb hM.ln60 (vp_isE hL.1 (by have := hL.2; omega) (by decide))) y1 ?_
            refine h_bipush (v := 15) C dX9_turn_111 (by decide) ?_
            refine h_iald C dX9_turn_113 (by rw [hR_z.1]; first | decide | exact KSE_m _ _ _) (inb hR_z.2.1 (vp_in_nI (n := 15) (by decide) (by decide))) (hR_z.2.2 15 (by decide)) ?_
            refine h_iconst (v := (-1)) C dX9_turn_114 (by decide) ?_
            refine h_icmp_eq (tgt := 135) C dX9_turn_115 (by decide) (fun c2 => ?_) (fun c2 => ?_)
            · refine h_iload_w C dX9_turn_135 rfl ?_
              refine h_callV1 (ci := 9) C (k_X9_isWrong Z.l Z.G (Q 0) _ hM.kX (0)) cw_X9_215 im_X9_isWrong sl_X9_isWrong rfl (by decide) hM.kX dX9_turn_137 (by first | decide | exact Nat.le_of_ble_eq_true rfl) (by decide) (by decide) (by decide) (by decide) (kB (fun μ6 hp6 => ?_) (fun μ6 hp6 => ?_)) kN
              · obtain ⟨hc, e9⟩ := hp6
                exact absurd rfl hc
              · obtain ⟨hc, e9⟩ := hp6
                have hT := hT.sfi (Or.inr trivial) e9 (hT.1.w290 e9)
                have hM := hT.1
                have hR_z := hR_z.same (show SameAt _ μ6 z from by rw [e9]; exact same_sfi (fun h9 => by have h8 := hR_z.1; rw [h9] at h8; have h7 := hM.kd (j := 0) (by decide); rw [e9] at h7; exact absurd (h8.symm.trans h7) (by decide)))
                have y1 : μ6.er (Q 20) (cl x) = some z := by rw [e9]; exact y1
                have hC0 := (hCO.2 hB2).1 c2
                refine h_if_eq (tgt := 145) C dX9_turn_140 (by decide) (fun c12 => ?_) (fun c12 => absurd (by decide) c12)
                refine h_al_g C dX9_turn_145 rfl rfl rfv_r ?_
                refine gs_X9_80 C dX9_turn_146 hM.kX (hM.fA (i := 20) (by decide)) ?_
                refine h_iload_g C dX9_turn_149 rfl rfl ?_
                refine h_aald (r := some _) C dX9_turn_150 (hM.kr (by decide)) (inb hM.ln60 (vp_isE hL.1 (by have := hL.2; omega) (by decide))) y1 ?_
                refine h_bipush (v := 15) C dX9_turn_151 (by decide) ?_
                refine h_iload_g C dX9_turn_153 rfl rfl ?_
                refine h_iast C dX9_turn_154 (by rw [hR_z.1]; decide) (inb hR_z.2.1 (vp_in_nI (n := 15) (by decide) (by decide))) ?_
                refine h_abs (fun m8 e8 => ?_)
                rw [show Int32.toNatClampNeg 15 = 15 from rfl] at e8
                obtain ⟨hT, hR_z, y1⟩ := hT.seLt (r9 := (u1 (LTR S (cl x)) 15 f)) y1 (show S.nt[cl x]? = some (LTR S (cl x)) from by rw [eL]; exact List.getElem?_eq_getElem _) e8 u1_eq (fun j _ hj => u1_ne hj)
                have hM := hT.1
                refine h_al_g C dX9_turn_155 rfl rfl rfv_r ?_
                refine gs_X9_80 C dX9_turn_156 hM.kX (hM.fA (i := 20) (by decide)) ?_
                refine h_iload_g C dX9_turn_159 rfl rfl ?_
                refine h_aald (r := some _) C dX9_turn_160 (hM.kr (by decide)) (inb hM.ln60 (vp_isE hL.1 (by have := hL.2; omega) (by decide))) y1 ?_
                refine h_iconst (v := 3) C dX9_turn_161 (by decide) ?_
                refine h_iload_g C dX9_turn_162 rfl rfl ?_
                refine h_iadd C dX9_turn_163 ?_
                refine h_dup2 C dX9_turn_164 rfl rfl ?_
                refine h_iald C dX9_turn_165 (by rw [hR_z.1]; decide) (inb hR_z.2.1 hi3) (atI hi4 (hR_z.2.2 _ (by omega))) ?_
                refine h_iload_g C dX9_turn_166 rfl rfl ?_
                refine h_iadd C dX9_turn_167 ?_
                refine h_iast C dX9_turn_168 (by rw [hR_z.1]; decide) (inb hR_z.2.1 hi3) ?_
                refine h_abs (fun m7 e7 => ?_)
                rw [hi4, show u1 (LTR S (cl x)) 15 f (3 + cl f) = LTR S (cl x) (3 + cl f) from u1_ne (by omega)] at e7
                obtain ⟨hT, hR_z, y1⟩ := hT.seLt (r9 := TRN (LTR S (cl x)) f z9) y1 (set_r hlen) e7 u1_eq (fun j _ hj => u1_ne hj)
                rw [show (S.sNt (S.nt.set (cl x) (u1 (LTR S (cl x)) 15 f))).sNt ((S.sNt (S.nt.set (cl x) (u1 (LTR S (cl x)) 15 f))).nt.set (cl x) (TRN (LTR S (cl x)) f z9)) = S.sNt (S.nt.set (cl x) (TRN (LTR S (cl x)) f z9)) from set_s] at hT
                have hM := hT.1
                refine h_al_g C dX9_turn_169 rfl rfl rfv_r ?_
                refine gs_X9_80 C dX9_turn_170 hM.kX (hM.fA (i := 20) (by decide)) ?_
                refine h_iload_g C dX9_turn_173 rfl rfl ?_
                refine h_aald (r := some _) C dX9_turn_174 (hM.kr (by decide)) (inb hM.ln60 (vp_isE hL.1 (by have := hL.2; omega) (by decide))) y1 ?_
                refine h_iconst (v := 3) C dX9_turn_175 (by decide) ?_
                refine h_iload_g C dX9_turn_176 rfl rfl ?_
                refine h_iadd C dX9_turn_177 ?_
                refine h_iald C dX9_turn_178 (by rw [hR_z.1]; decide) (inb hR_z.2.1 hi3) (atI hi4 (hR_z.2.2 _ (by omega))) ?_
                refine h_iret C E dX9_turn_179 (by decide) (by decide) ?_
                exact ⟨_, rfl, Or.inl ⟨hC0, u1_eq, hT⟩⟩
            · refine h_al_g C dX9_turn_118 rfl rfl rfv_r ?_
              refine gs_X9_80 C dX9_turn_119 hM.kX (hM.fA (i := 20) (by decide)) ?_
              refine h_iload_g C dX9_turn_122 rfl rfl ?_
              refine h_aald (r := some _) C dX9_turn_123 (hM.kr (by decide)) (inb hM.ln60 (vp_isE hL.1 (by have := hL.2; omega) (by decide))) y1 ?_
              refine h_bipush (v := 15) C dX9_turn_124 (by decide) ?_
              refine h_iald C dX9_turn_126 (by rw [hR_z.1]; first | decide | exact KSE_m _ _ _) (inb hR_z.2.1 (vp_in_nI (n := 15) (by decide) (by decide))) (hR_z.2.2 15 (by decide)) ?_
              refine h_iload_g C dX9_turn_127 rfl rfl ?_
              refine h_icmp_eq (tgt := 135) C dX9_turn_128 (by decide) (fun c3 => ?_) (fun c3 => ?_)
              · refine h_iload_w C dX9_turn_135 rfl ?_
                refine h_callV1 (ci := 9) C (k_X9_isWrong Z.l Z.G (Q 0) _ hM.kX (0)) cw_X9_215 im_X9_isWrong sl_X9_isWrong rfl (by decide) hM.kX dX9_turn_137 (by first | decide | exact Nat.le_of_ble_eq_true rfl) (by decide) (by decide) (by decide) (by decide) (kB (fun μ7 hp7 => ?_) (fun μ7 hp7 => ?_)) kN
                · obtain ⟨hc, e9⟩ := hp7
                  exact absurd rfl hc
                · obtain ⟨hc, e9⟩ := hp7
                  have hT := hT.sfi (Or.inr trivial) e9 (hT.1.w290 e9)
                  have hM := hT.1
                  have hR_z := hR_z.same (show SameAt _ μ7 z from by rw [e9]; exact same_sfi (fun h9 => by have h8 := hR_z.1; rw [h9] at h8; have h7 := hM.kd (j := 0) (by decide); rw [e9] at h7; exact absurd (h8.symm.trans h7) (by decide)))
                  have y1 : μ7.er (Q 20) (cl x) = some z := by rw [e9]; exact y1
                  have hC0 := (hCO.2 hB2).2.1 c3
                  refine h_if_eq (tgt := 145) C dX9_turn_140 (by decide) (fun c14 => ?_) (fun c14 => absurd (by decide) c14)
                  refine h_al_g C dX9_turn_145 rfl rfl rfv_r ?_
                  refine gs_X9_80 C dX9_turn_146 hM.kX (hM.fA (i := 20) (by decide)) ?_
                  refine h_iload_g C dX9_turn_149 rfl rfl ?_
                  refine h_aald (r := some _) C dX9_turn_150 (hM.kr (by decide)) (inb hM.ln60 (vp_isE hL.1 (by have := hL.2; omega) (by decide))) y1 ?_
                  refine h_bipush (v := 15) C dX9_turn_151 (by decide) ?_
                  refine h_iload_g C dX9_turn_153 rfl rfl ?_
                  refine h_iast C dX9_turn_154 (by rw [hR_z.1]; decide) (inb hR_z.2.1 (vp_in_nI (n := 15) (by decide) (by decide))) ?_
                  refine h_abs (fun m8 e8 => ?_)
                  rw [show Int32.toNatClampNeg 15 = 15 from rfl] at e8
                  obtain ⟨hT, hR_z, y1⟩ := hT.seLt (r9 := (u1 (LTR S (cl x)) 15 f)) y1 (show S.nt[cl x]? = some (LTR S (cl x)) from by rw [eL]; exact List.getElem?_eq_getElem _) e8 u1_eq (fun j _ hj => u1_ne hj)
                  have hM := hT.1
                  refine h_al_g C dX9_turn_155 rfl rfl rfv_r ?_
                  refine gs_X9_80 C dX9_turn_156 hM.kX (hM.fA (i := 20) (by decide)) ?_
                  refine h_iload_g C dX9_turn_159 rfl rfl ?_
                  refine h_aald (r := some _) C dX9_turn_160 (hM.kr (by decide)) (inb hM.ln60 (vp_isE hL.1 (by have := hL.2; omega) (by decide))) y1 ?_
                  refine h_iconst (v := 3) C dX9_turn_161 (by decide) ?_
                  refine h_iload_g C dX9_turn_162 rfl rfl ?_
                  refine h_iadd C dX9_turn_163 ?_
                  refine h_dup2 C dX9_turn_164 rfl rfl ?_
                  refine h_iald C dX9_turn_165 (by rw [hR_z.1]; decide) (inb hR_z.2.1 hi3) (atI hi4 (hR_z.2.2 _ (by omega))) ?_
                  refine h_iload_g C dX9_turn_166 rfl rfl ?_
                  refine h_iadd C dX9_turn_167 ?_
                  refine h_iast C dX9_turn_168 (by rw [hR_z.1]; decide) (inb hR_z.2.1 hi3) ?_
                  refine h_abs (fun m7 e7 => ?_)
                  rw [hi4, show u1 (LTR S (cl x)) 15 f (3 + cl f) = LTR S (cl x) (3 + cl f) from u1_ne (by omega)] at e7
                  obtain ⟨hT, hR_z, y1⟩ := hT.seLt (r9 := TRN (LTR S (cl x)) f z9) y1 (set_r hlen) e7 u1_eq (fun j _ hj => u1_ne hj)
                  rw [show (S.sNt (S.nt.set (cl x) (u1 (LTR S (cl x)) 15 f))).sNt ((S.sNt (S.nt.set (cl x) (u1 (LTR S (cl x)) 15 f))).nt.set (cl x) (TRN (LTR S (cl x)) f z9)) = S.sNt (S.nt.set (cl x) (TRN (LTR S (cl x)) f z9)) from set_s] at hT
                  have hM := hT.1
                  refine h_al_g C dX9_turn_169 rfl rfl rfv_r ?_
                  refine gs_X9_80 C dX9_turn_170 hM.kX (hM.fA (i := 20) (by decide)) ?_
                  refine h_iload_g C dX9_turn_173 rfl rfl ?_
                  refine h_aald (r := some _) C dX9_turn_174 (hM.kr (by decide)) (inb hM.ln60 (vp_isE hL.1 (by have := hL.2; omega) (by decide))) y1 ?_
                  refine h_iconst (v := 3) C dX9_turn_175 (by decide) ?_
                  refine h_iload_g C dX9_turn_176 rfl rfl ?_
                  refine h_iadd C dX9_turn_177 ?_
                  refine h_iald C dX9_turn_178 (by rw [hR_z.1]; decide) (inb hR_z.2.1 hi3) (atI hi4 (hR_z.2.2 _ (by omega))) ?_
                  refine h_iret C E dX9_turn_179 (by decide) (by decide) ?_
                  exact ⟨_, rfl, Or.inl ⟨hC0, u1_eq, hT⟩⟩
              · refine h_iconst (v := 3) C dX9_turn_131 (by decide) ?_
                refine h_goto (tgt := 137) C dX9_turn_132 (by decide) ?_
                refine h_callV1 (ci := 9) C (k_X9_isWrong Z.l Z.G (Q 0) _ hM.kX (3)) cw_X9_215 im_X9_isWrong sl_X9_isWrong rfl (by decide) hM.kX dX9_turn_137 (by first | decide | exact Nat.le_of_ble_eq_true rfl) (by decide) (by decide) (by decide) (by decide) (kB (fun μ8 hp8 => ?_) (fun μ8 hp8 => ?_)) kN
                · obtain ⟨hc, e9⟩ := hp8
                  have hT := hT.sfi (Or.inr trivial) e9 (hT.1.w290 e9)
                  have hM := hT.1
                  refine h_if_eq (tgt := 145) C dX9_turn_140 (by decide) (fun c15 => absurd c15 (by decide)) (fun c15 => ?_)
                  refine h_iconst (v := 0) C dX9_turn_143 (by decide) ?_
                  refine h_iret C E dX9_turn_144 (by decide) (by decide) ?_
                  exact ⟨_, rfl, Or.inr ⟨by rw [((hCO.2 hB2).2.2 c2 c3)]; decide, by rw [((hCO.2 hB2).2.2 c2 c3)]; exact hT⟩⟩
                · obtain ⟨hc, e9⟩ := hp8
                  exact absurd hc (by decide)
          · obtain ⟨rfl, hB2⟩ := hp5
            have hB2 := fun q => hB2 ((trn_btw (hg.2.2.2 _ hi7).1 (hg.2.2.2 _ hi7).2 hBt).mpr q)
            refine h_if_ne (tgt := 99) C dX9_turn_93 (by decide) (fun c16 => absurd c16 (by decide)) (fun c16 => ?_)
            refine h_iconst (v := 2) C dX9_turn_96 (by decide) ?_
            refine h_ist_4 C dX9_turn_97 ct_i ?_
            refine h_al_g C dX9_turn_99 rfl rfl rfv_r ?_
            refine h_iload_w C dX9_turn_100 rfl ?_
            refine h_if_ne (tgt := 135) C dX9_turn_102 (by decide) (fun c17 => ?_) (fun c17 => absurd c17 (by decide))
            refine h_iload_w C dX9_turn_135 rfl ?_
            refine h_callV1 (ci := 9) C (k_X9_isWrong Z.l Z.G (Q 0) _ hM.kX (2)) cw_X9_215 im_X9_isWrong sl_X9_isWrong rfl (by decide) hM.kX dX9_turn_137 (by first | decide | exact Nat.le_of_ble_eq_true rfl) (by decide) (by decide) (by decide) (by decide) (kB (fun μ9 hp9 => ?_) (fun μ9 hp9 => ?_)) kN
            · obtain ⟨hc, e9⟩ := hp9
              have hT := hT.sfi (Or.inr trivial) e9 (hT.1.w290 e9)
              have hM := hT.1
              refine h_if_eq (tgt := 145) C dX9_turn_140 (by decide) (fun c18 => absurd c18 (by decide)) (fun c18 => ?_)
              refine h_iconst (v := 0) C dX9_turn_143 (by decide) ?_
              refine h_iret C E dX9_turn_144 (by decide) (by decide) ?_
              exact ⟨_, rfl, Or.inr ⟨by rw [(hCO.1 hB2)]; decide, by rw [(hCO.1 hB2)]; exact hT⟩⟩
            · obtain ⟨hc, e9⟩ := hp9
              exact absurd hc (by decide)
        · obtain ⟨rfl, hBt⟩ := hp4
          rw [btw_i] at hBt
          have hBt : ¬ inR z9 (-500) 500 := hBt
          refine h_if_ne (tgt := 49) C dX9_turn_42 (by decide) (fun c19 => absurd c19 (by decide)) (fun c19 => ?_)
          refine h_iconst (v := 2) C dX9_turn_45 (by decide) ?_
          refine h_goto (tgt := 50) C dX9_turn_46 (by decide) ?_
          refine h_ist_4 C dX9_turn_50 ct_i ?_
          refine h_iload_w C dX9_turn_52 rfl ?_
          refine h_if_ne (tgt := 99) C dX9_turn_54 (by decide) (fun c20 => ?_) (fun c20 => absurd c20 (by decide))
          refine h_al_g C dX9_turn_99 rfl rfl rfv_r ?_
          refine h_iload_w C dX9_turn_100 rfl ?_
          refine h_if_ne (tgt := 135) C dX9_turn_102 (by decide) (fun c21 => ?_) (fun c21 => absurd c21 (by decide))
          refine h_iload_w C dX9_turn_135 rfl ?_
          refine h_callV1 (ci := 9) C (k_X9_isWrong Z.l Z.G (Q 0) _ hM.kX (2)) cw_X9_215 im_X9_isWrong sl_X9_isWrong rfl (by decide) hM.kX dX9_turn_137 (by first | decide | exact Nat.le_of_ble_eq_true rfl) (by decide) (by decide) (by decide) (by decide) (kB (fun μ10 hp10 => ?_) (fun μ10 hp10 => ?_)) kN
          · obtain ⟨hc, e9⟩ := hp10
            have hT := hT.sfi (Or.inr trivial) e9 (hT.1.w290 e9)
            have hM := hT.1
            refine h_if_eq (tgt := 145) C dX9_turn_140 (by decide) (fun c22 => absurd c22 (by decide)) (fun c22 => ?_)
            refine h_iconst (v := 0) C dX9_turn_143 (by decide) ?_
            refine h_iret C E dX9_turn_144 (by decide) (by decide) ?_
            exact ⟨_, rfl, Or.inr ⟨by rw [(show trnC S x f z9 = 2 from (if_pos hL).trans ((if_pos (hCb.mp hCT)).trans (if_neg hBt)))]; decide, by rw [(show trnC S x f z9 = 2 from (if_pos hL).trans ((if_pos (hCb.mp hCT)).trans (if_neg hBt)))]; exact hT⟩⟩
          · obtain ⟨hc, e9⟩ := hp10
            exact absurd hc (by decide)
    · obtain ⟨rfl, hCT⟩ := hp2
      have hCb := CTM_b (f := f) hg.1
      refine h_if_eq (tgt := 45) C dX9_turn_24 (by decide) (fun c23 => ?_) (fun c23 => absurd (by decide) c23)
      refine h_iconst (v := 2) C dX9_turn_45 (by decide) ?_
      refine h_goto (tgt := 50) C dX9_turn_46 (by decide) ?_
      refine h_ist_4 C dX9_turn_50 ct_i ?_
      refine h_iload_w C dX9_turn_52 rfl ?_
      refine h_if_ne (tgt := 99) C dX9_turn_54 (by decide) (fun c24 => ?_) (fun c24 => absurd c24 (by decide))
      refine h_al_g C dX9_turn_99 rfl rfl rfv_r ?_
      refine h_iload_w C dX9_turn_100 rfl ?_
      refine h_if_ne (tgt := 135) C dX9_turn_102 (by decide) (fun c25 => ?_) (fun c25 => absurd c25 (by decide))
      refine h_iload_w C dX9_turn_135 rfl ?_
      refine h_callV1 (ci := 9) C (k_X9_isWrong Z.l Z.G (Q 0) _ hM.kX (2)) cw_X9_215 im_X9_isWrong sl_X9_isWrong rfl (by decide) hM.kX dX9_turn_137 (by first | decide | exact Nat.le_of_ble_eq_true rfl) (by decide) (by decide) (by decide) (by decide) (kB (fun μ11 hp11 => ?_) (fun μ11 hp11 => ?_)) kN
      · obtain ⟨hc, e9⟩ := hp11
        have hT := hT.sfi (Or.inr trivial) e9 (hT.1.w290 e9)
        have hM := hT.1
        refine h_if_eq (tgt := 145) C dX9_turn_140 (by decide) (fun c26 => absurd c26 (by decide)) (fun c26 => ?_)
        refine h_iconst (v := 0) C dX9_turn_143 (by decide) ?_
        refine h_iret C E dX9_turn_144 (by decide) (by decide) ?_
        exact ⟨_, rfl, Or.inr ⟨by rw [(show trnC S x f z9 = 2 from (if_pos hL).trans (if_neg (fun q => hCT (hCb.mpr q))))]; decide, by rw [(show trnC S x f z9 = 2 from (if_pos hL).trans (if_neg (fun q => hCT (hCb.mpr q))))]; exact hT⟩⟩
      · obtain ⟨hc, e9⟩ := hp11
        exact absurd hc (by decide)
  · obtain ⟨rfl, hL⟩ := hp1
    refine h_if_ne (tgt := 12) C dX9_turn_5 (by decide) (fun c27 => absurd c27 (by decide)) (fun c27 => ?_)
    refine h_iconst (v := 1) C dX9_turn_8 (by decide) ?_
    refine h_goto (tgt := 50) C dX9_turn_9 (by decide) ?_
    refine h_ist_4 C dX9_turn_50 ct_i ?_
    refine h_iload_w C dX9_turn_52 rfl ?_
    refine h_if_ne (tgt := 99) C dX9_turn_54 (by decide) (fun c28 => ?_) (fun c28 => absurd c28 (by decide))
    refine h_al_g C dX9_turn_99 rfl rfl rfv_r ?_
    refine h_iload_w C dX9_turn_100 rfl ?_
    refine h_if_ne (tgt := 135) C dX9_turn_102 (by decide) (fun c29 => ?_) (fun c29 => absurd c29 (by decide))
    refine h_iload_w C dX9_turn_135 rfl ?_
    refine h_callV1 (ci := 9) C (k_X9_isWrong Z.l Z.G (Q 0) _ hM.kX (1)) cw_X9_215 im_X9_isWrong sl_X9_isWrong rfl (by decide) hM.kX dX9_turn_137 (by first | decide | exact Nat.le_of_ble_eq_true rfl) (by decide) (by decide) (by decide) (by decide) (kB (fun μ12 hp12 => ?_) (fun μ12 hp12 => ?_)) kN
    · obtain ⟨hc, e9⟩ := hp12
      have hT := hT.sfi (Or.inr trivial) e9 (hT.1.w290 e9)
      have hM := hT.1
      refine h_if_eq (tgt := 145) C dX9_turn_140 (by decide) (fun c30 => absurd c30 (by decide)) (fun c30 => ?_)
      refine h_iconst (v := 0) C dX9_turn_143 (by decide) ?_
      refine h_iret C E dX9_turn_144 (by decide) (by decide) ?_
      exact ⟨_, rfl, Or.inr ⟨by rw [(show trnC S x f z9 = 1 from if_neg hL)]; decide, by rw [(show trnC S x f z9 = 1 from if_neg hL)]; exact hT⟩⟩
    · obtain ⟨hc, e9⟩ := hp12
      exact absurd hc (by decide)

end
