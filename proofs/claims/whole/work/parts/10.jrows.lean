section
theorem lk_gets : Cond.fieldLink RJx4a65c 39 "java/util/ArrayList" "DEFAULTCAPACITY_EMPTY_ELEMENTDATA" "[Ljava/lang/Object;" ∈ lw_good := lg_1 50 (by decide +kernel) (by decide +kernel)
theorem lk_cpA : Cond.methodLink RJ7 150 arraycopyName ∈ lw_good := lg_3 78 (by decide +kernel) (by decide +kernel)
theorem lk_cpL : Cond.methodLink RJx4a65c 112 arraycopyName ∈ lw_good := lg_3 115 (by decide +kernel) (by decide +kernel)
theorem lk_cpN : Cond.native arraycopyName ∈ lw_good := lg_3 80 (by decide +kernel) (by decide +kernel)
theorem lk_cpS : Cond.static arraycopyName ∈ lw_good := lg_3 79 (by decide +kernel) (by decide +kernel)
theorem lk_sys : Cond.initialized "java/lang/System" ∈ lw_good := lg_1 21 (by decide +kernel) (by decide +kernel)
def gcN : MethodName := ⟨"java/lang/Object", "getClass", "()Ljava/lang/Class;"⟩
theorem lk_gcL : Cond.methodLink RJ7 86 gcN ∈ lw_good := lg_3 53 (by decide +kernel) (by decide +kernel)
theorem lk_gcS : Cond.selects "[Ljava/lang/Object;" gcN gcN ∈ lw_good := lg_7 83 (by decide +kernel) (by decide +kernel)
theorem lk_gcI : Cond.instanceMethod gcN ∈ lw_good := lg_3 54 (by decide +kernel) (by decide +kernel)
theorem lk_gcN : Cond.native gcN ∈ lw_good := lg_3 70 (by decide +kernel) (by decide +kernel)
/-- the empty row of a new list -/
theorem h_getsE {Z : Zx} {cc : ByteArray} {rf rc rs rl k n pc : Nat} {L : List (Option Value)} {st : List Value} {μ : Mem} (C : Cx Z RJx4a65c cc rf rc rs rl) (d : decode cc pc = .ok (.getstatic 39, 3)) (kk : HW Z k n (pc + 3) L (.ref Z.G.2.2.1 :: st) μ) : HW Z k n pc L st μ := by
  obtain ⟨p, l, e, R, s, m, args, below, meth, c, G, A, nL, Q⟩ := Z
  obtain ⟨⟨hx, hb, hml, hown, hts⟩, _, hK, hE, _⟩ := C
  intro H locs ls hR hS hl
  exact va_gets hx hb hE.2.2.1 hS hown (hts _ lk_gets) (fun x h => h) d (kk H locs ls hR hS hl)
theorem h_alenE {Z : Zx} {own : String} {cc : ByteArray} {rf rc rs rl k n pc : Nat} {L : List (Option Value)} {st : List Value} {μ : Mem} (C : Cx Z own cc rf rc rs rl) (d : decode cc pc = .ok (.arraylength, 1)) (kk : HW Z k n (pc + 1) L (.int 0 :: st) μ) : HW Z k n pc L (.ref Z.G.2.2.1 :: st) μ := by
  obtain ⟨p, l, e, R, s, m, args, below, meth, c, G, A, nL, Q⟩ := Z
  obtain ⟨⟨hx, hb, hml, hown, hts⟩, _, hK, hE, _⟩ := C
  intro H locs ls hR hS hl
  obtain ⟨cell, h1, h2, h3, h4, h5, h6, h7⟩ := hE.2.2.2
  exact W.alen (n := 0) hx hb (by rw [hS.2.1 _ (Array.getElem?_eq_some_iff.mp h1).1 h7]; exact h1) h2 h5 rfl rfl d (kk H locs ls hR hS hl)
theorem RepH.notE {Z : Zx} {own : String} {cc : ByteArray} {rf rc rs rl : Nat} {μ : Mem} (C : Cx Z own cc rf rc rs rl) {H : Heap} (h : RepH Z.G Z.2.2.2.2.2.2.2.2.2.2.2.1 μ H) : μ.kd Z.G.2.2.1 = 0 := by
  obtain ⟨p, l, e, R, s, m, args, below, meth, c, G, A, nL, Q⟩ := Z
  obtain ⟨_, _, hK, hE, _⟩ := C
  obtain ⟨cell, h1, h2, h3, h4, h5, h6, h7⟩ := hE.2.2.2
  exact Decidable.byContradiction fun h0 => h7 (h _ h0).1
theorem h_notE {Z : Zx} {own : String} {cc : ByteArray} {rf rc rs rl k n pc : Nat} {L : List (Option Value)} {st : List Value} {μ : Mem} (C : Cx Z own cc rf rc rs rl) (kk : μ.kd Z.G.2.2.1 = 0 → HW Z k n pc L st μ) : HW Z k n pc L st μ := by
  have key : ∀ H, RepH Z.G Z.2.2.2.2.2.2.2.2.2.2.2.1 μ H → μ.kd Z.G.2.2.1 = 0 := fun H h => RepH.notE C h
  obtain ⟨p, l, e, R, s, m, args, below, meth, c, G, A, nL, Q⟩ := Z
  intro H locs ls hR hS hl
  exact kk (key H hR) H locs ls hR hS hl
theorem h_aastN {Z : Zx} {own : String} {cc : ByteArray} {rf rc rs rl k n pc : Nat} {L : List (Option Value)} {st : List Value} {μ : Mem} {a : Nat} {i : Int32} (C : Cx Z own cc rf rc rs rl) (d : decode cc pc = .ok (.aastore, 1)) (hk : μ.kd a % 32 = 14) (hin : vp_in i (μ.ln a)) (kk : HW Z k n (pc + 1) L st (μ.ser a i.toNatClampNeg none)) : HW Z k n pc L (.null :: .int i :: .ref a :: st) μ := by
  obtain ⟨p, l, e, R, s, m, args, below, meth, c, G, A, nL, Q⟩ := Z
  obtain ⟨⟨hx, hb, hml, hown, hts⟩, _, hK, _⟩ := C
  intro H locs ls hR hS hl
  have hA := (hR a (by omega)).1
  have hc := hR.arr (a := a) hk (by omega)
  refine va_WaastN (C := "java/lang/Object") hx hb hc (tyAt hK.1 (b := 14) (by decide) (by decide) _ _) (fun h => by cases h) (by rw [arrV_size]; exact hin) rfl rfl d fun H1 e1 z oq => ?_
  refine kk H1 _ ls (hR.upd (fun q hq => same_ser hq) (fun q hq _ => oq q hq) hA ?_) (hS.put z oq hA) hl
  unfold cellAt
  show (if μ.kd a % 32 ≤ 10 then _ else H1[a]? = some (arrV (G.2.1 (μ.kd a % 32)) (μ.ln a) (aval (μ.ser a i.toNatClampNeg none) (μ.kd a % 32) a)))
  rw [if_neg (by omega), e1, arrV_store, hk]
  congr 2
  funext q
  have e9 : (μ.ser a i.toNatClampNeg none).er a q = if q = i.toNatClampNeg then none else μ.er a q := by
    show u2 μ.er a i.toNatClampNeg none a q = _
    unfold u2
    rw [if_pos rfl]
  rw [aval_r (by decide), e9]
  unfold updV
  by_cases hq : q = i.toNatClampNeg
  · rw [if_pos hq, if_pos hq]; rfl
  · rw [if_neg hq, if_neg hq, aval_r (by decide)]
/-- n elements of a0 from sp on to a from dp on -/
def Mem.cpy (μ : Mem) (a0 a sp dp n : Nat) : Mem := (μ.kd, μ.fi, μ.fr, μ.fl, μ.ln, μ.ei, (fun b j => if b = a then va_cpy (μ.er a0) (μ.er a) sp dp n j else μ.er b j), μ.el)
theorem same_cpy {μ : Mem} {a0 a sp dp n q : Nat} (h : q ≠ a) : SameAt μ (μ.cpy a0 a sp dp n) q := ⟨rfl, fun _ => rfl, fun _ => rfl, fun _ => rfl, rfl, rfl, by funext j; show (if q = a then _ else μ.er q j) = _; rw [if_neg h], rfl⟩
theorem nn_cl {z : Int32} (hz : ¬ z < 0) : z.toInt = (z.toNatClampNeg : Int) := by
  have hz0 : (0 : Int) ≤ z.toInt := by
    have := Int32.not_lt.mp hz
    simpa using Int32.le_iff_toInt_le.mp this
  show z.toInt = ((z.toInt.toNat : Nat) : Int)
  omega
theorem h_copy {Z : Zx} {own : String} {cc : ByteArray} {rf rc rs rl k n pc : Nat} {L : List (Option Value)} {st : List Value} {μ : Mem} {idx a0 a : Nat} {sp dp x : Int32} (C : Cx Z own cc rf rc rs rl) (hlink : Cond.methodLink own idx arraycopyName ∈ lw_good) (d : decode cc pc = .ok (.invokestatic idx, 3)) (hk0 : μ.kd a0 % 32 = 14) (hk1 : μ.kd a % 32 = 14) (h1 : ¬ sp < 0) (h2 : ¬ dp < 0) (h3 : ¬ x < 0) (h4 : sp.toNatClampNeg + x.toNatClampNeg ≤ μ.ln a0) (h5 : dp.toNatClampNeg + x.toNatClampNeg ≤ μ.ln a)
    (hel : ∀ i, i < x.toNatClampNeg → ∀ y, μ.er a0 (sp.toNatClampNeg + i) = some y → μ.kd y % 32 = 4 ∨ μ.kd y % 32 = 6 ∨ μ.kd y % 32 = 7) (hfr : 1 ≤ rf) (hlo : (st.map fun v => v.category).sum + 24 ≤ rl)
    (kk : HW Z k n (pc + 3) L st (μ.cpy a0 a sp.toNatClampNeg dp.toNatClampNeg x.toNatClampNeg)) : HW Z k n pc L (.int x :: .int dp :: .ref a :: .int sp :: .ref a0 :: st) μ := by
  obtain ⟨p, l, e, R, s, m, args, below, meth, c, G, A, nL, Q⟩ := Z
  obtain ⟨⟨hx, hb, hml, hown, hts⟩, rfl, hK, _⟩ := C
  intro H locs ls hR hS hl
  have hA := (hR a (by omega)).1
  have hc0 := hR.arr (a := a0) hk0 (by omega)
  have hc1 := hR.arr (a := a) hk1 (by omega)
  intro T hT X
  obtain ⟨-, k0, hkk0, cm0, hkn0⟩ := tyAt hK.1 (b := 14) (by decide) (by decide) (μ.ln a0) (aval μ 14 a0)
  obtain ⟨kA, kc, kv9, comp, ty, g1, g2, g3, g4, -, -⟩ := hK.2.1 (14, 4) (by decide)
  have ek0 : kA = k0 := Option.some.inj (g1.symm.trans hkk0)
  subst ek0
  obtain ⟨rfl, rfl⟩ : comp = cm0 ∧ ty = tyA 14 := by
    have h9 := g2.symm.trans hkn0
    injection h9 with e1 e2
    exact ⟨e1, e2⟩
  obtain ⟨vm', X', step⟩ := X.arraycopy hx hown (hts _ hlink) (hts _ lk_cpN) (hts _ lk_cpS) (hts _ lk_sys) (src := a0) (dst := a) (cs := arrV (G.2.1 14) (μ.ln a0) (aval μ 14 a0)) (cd := arrV (G.2.1 14) (μ.ln a) (aval μ 14 a)) (srcPos := sp) (destPos := dp) (n := x) (by rw [hT]; exact hc0) (by rw [hT]; exact hc1)
    (fun _ h => by cases h) (fun _ h => by cases h) (fun h => by cases h) (fun h => by cases h) g1 g1 g2 g2 (by rfl) h1 h2 h3
    (by rw [nn_cl h1, nn_cl h3]; show ¬ _ > ((arrV _ _ _).slots.size : Int); rw [arrV_size]; omega)
    (by rw [nn_cl h2, nn_cl h3]; show ¬ _ > ((arrV _ _ _).slots.size : Int); rw [arrV_size]; omega)
    (fun vm₁ hal i hi => by
      have e : (arrV (G.2.1 14) (μ.ln a0) (aval μ 14 a0)).slots.getD (sp.toNatClampNeg + i) .null = va_rf (μ.er a0 (sp.toNatClampNeg + i)) := by
        rw [Array.getD_eq_getD_getElem?, arrV_read _ _ (by omega), aval_r (by decide)]
        rfl
      rw [e]
      cases hy : μ.er a0 (sp.toNatClampNeg + i) with
      | none => exact ⟨by first | rfl | (cases ty <;> first | rfl | cases g3), trivial⟩
      | some y =>
        have hky := hel i hi y hy
        obtain ⟨cellV, q1, q3, q2⟩ := hR.cls (a := y) rfl (by omega)
        have hpair : (14, μ.kd y % 32) ∈ asPairs := by rcases hky with h | h | h <;> rw [h] <;> decide
        obtain ⟨kA', kc', kv, comp', ty', f1, f2, f3, f4, f5, f6⟩ := hK.2.1 _ hpair
        have ek : kA' = kA := Option.some.inj (f1.symm.trans g1)
        subst ek
        have ec : comp' = comp := by rw [g2] at f2; cases f2; rfl
        subst ec
        obtain ⟨kC', hkC', -⟩ := hal.2.2 _ _ f5
        obtain ⟨kE', hkE', -⟩ := hal.2.2 _ _ f4
        refine ⟨by first | rfl | (cases ty <;> first | rfl | cases g3), cellV, (show T.heap[y]? = some cellV by rw [hT]; exact q1), (fun q h => by rw [q3] at h; cases h), ⟨kC', by rw [q2]; exact hkC'⟩, ⟨kE', hkE'⟩, ?_⟩
        show vm₁.assignable _ _ = true
        rw [hal.assignable, q2]
        exact f6)
    (g := F0 m pc ls (.int x :: .int dp :: .ref a :: .int sp :: .ref a0 :: st)) rfl (by rw [hml]; exact hl.1) (rest := st) rfl (by rw [hb]; exact d) hfr (by have hw : nativeFrameWords "java/lang/System" "arraycopy" 5 ≤ 13 := (by decide); show 2 * 0 + _ + _ ≤ rl; omega)
  have e1 : copied (arrV (G.2.1 14) (μ.ln a0) (aval μ 14 a0)) (arrV (G.2.1 14) (μ.ln a) (aval μ 14 a)) sp dp x = arrV (G.2.1 14) (μ.ln a) (aval (μ.cpy a0 a sp.toNatClampNeg dp.toNatClampNeg x.toNatClampNeg) 14 a) := by
    have f0 : aval μ 14 a0 = fun j => va_rf (μ.er a0 j) := by funext j; exact aval_r (by decide)
    have f1 : aval μ 14 a = fun j => va_rf (μ.er a j) := by funext j; exact aval_r (by decide)
    have f2 : aval (μ.cpy a0 a sp.toNatClampNeg dp.toNatClampNeg x.toNatClampNeg) 14 a = fun j => va_rf (va_cpy (μ.er a0) (μ.er a) sp.toNatClampNeg dp.toNatClampNeg x.toNatClampNeg j) := by
      funext j
      rw [aval_r (by decide)]
      show va_rf (if a = a then _ else _) = _
      rw [if_pos rfl]
    rw [f0, f1, f2]
    exact va_copied (fun z => va_rf z) _ _ (μ.er a0) (μ.er a) h4
  rw [e1] at X' step
  generalize hnew : arrV (G.2.1 14) (μ.ln a) (aval (μ.cpy a0 a sp.toNatClampNeg dp.toNatClampNeg x.toNatClampNeg) 14 a) = cellN at X' step
  have hlt : a < H.size := (Array.getElem?_eq_some_iff.mp hc1).1
  have hheap : ((T.setVm vm').setCell a cellN).heap = H.setIfInBounds a cellN := by rw [← hT]; rfl
  have oq : ∀ q : Nat, q ≠ a → (H.setIfInBounds a cellN)[q]? = H[q]? := fun q hq => by simp [Array.getElem?_setIfInBounds, Ne.symm hq]
  have hR' : RepH G A (μ.cpy a0 a sp.toNatClampNeg dp.toNatClampNeg x.toNatClampNeg) (H.setIfInBounds a cellN) := hR.upd (fun q hq => same_cpy hq) (fun q hq _ => oq q hq) hA (by
    unfold cellAt
    show (if μ.kd a % 32 ≤ 10 then _ else (H.setIfInBounds a cellN)[a]? = some (arrV (G.2.1 (μ.kd a % 32)) (μ.ln a) (aval (μ.cpy a0 a sp.toNatClampNeg dp.toNatClampNeg x.toNatClampNeg) (μ.kd a % 32) a)))
    rw [if_neg (by omega), hk1, hnew]
    simp [Array.getElem?_setIfInBounds, hlt])
  obtain ⟨t, a1, b1⟩ := kk _ _ ls hR' ⟨by simp; exact hS.1, fun q g1 g2 => by
      rw [oq q (fun e => g2 (by rw [e]; exact hA))]
      exact hS.2.1 q g1 g2, fun q hq => by
      rcases List.mem_append.mp hq with h | h
      · exact hS.2.2 q h
      · obtain ⟨z, -, hz⟩ := List.mem_map.mp h
        rw [← hz]
        exact hA⟩ hl _ hheap X'
  exact ⟨t, step t a1, b1⟩
theorem h_getC {Z : Zx} {cc : ByteArray} {rf rc rs rl k n pc : Nat} {L : List (Option Value)} {st : List Value} {μ : Mem} {a : Nat} (C : Cx Z RJ7 cc rf rc rs rl) (d : decode cc pc = .ok (.invokevirtual 86, 3)) (hk : μ.kd a % 32 = 14) (hfr : 1 ≤ rf) (hlo : (st.map fun v => v.category).sum + 14 ≤ rl) (kk : HW Z k n (pc + 3) L (.ref Z.G.2.2.2 :: st) μ) : HW Z k n pc L (.ref a :: st) μ := by
  obtain ⟨p, l, e, R, s, m, args, below, meth, c, G, A, nL, Q⟩ := Z
  obtain ⟨⟨hx, hb, hml, hown, hts⟩, rfl, hK, _⟩ := C
  intro H locs ls hR hS hl
  obtain ⟨cell, q1, q3, q2⟩ := hR.cls (a := a) hk (by decide)
  refine va_getC (C := "[Ljava/lang/Object;") hx hb (by rw [hml]; exact hl.1.symm) hown (hts _ lk_gcL) (va_Dc.use hK.2.2.2.2.2.1) (hts _ lk_gcS) (hts _ lk_gcI) (hts _ lk_gcN) hK.2.2.2.2.1 ⟨cell, q1, by rw [q3]; rfl, ?_⟩ hfr hlo d (kk H locs ls hR hS hl)
  rw [q2]
  exact va_nmO (hK.1.2 3 (G.2.1 14, .object "java/lang/Object") rfl).2 (by rfl)
theorem h_ldcM {Z : Zx} {cc : ByteArray} {rf rc rs rl k n pc : Nat} {L : List (Option Value)} {st : List Value} {μ : Mem} (C : Cx Z RJ7 cc rf rc rs rl) (d : decode cc pc = .ok (.ldc 110, 2)) (kk : HW Z k n (pc + 2) L (.ref Z.G.2.2.2 :: st) μ) : HW Z k n pc L st μ := by
  obtain ⟨p, l, e, R, s, m, args, below, meth, c, G, A, nL, Q⟩ := Z
  obtain ⟨⟨hx, hb, hml, hown, hts⟩, _, hK, _⟩ := C
  intro H locs ls hR hS hl
  exact va_ldcM hx hb hown (hts _ kl_J7_110) hK.2.2.2.2.1 d (kk H locs ls hR hS hl)
theorem h_castA {Z : Zx} {cc : ByteArray} {rf rc rs rl k n pc : Nat} {L : List (Option Value)} {st : List Value} {μ : Mem} {a : Nat} (C : Cx Z RJ7 cc rf rc rs rl) (d : decode cc pc = .ok (.checkcast 110, 3)) (hk : μ.kd a % 32 = 14) (kk : HW Z k n (pc + 3) L (.ref a :: st) μ) : HW Z k n pc L (.ref a :: st) μ := by
  obtain ⟨p, l, e, R, s, m, args, below, meth, c, G, A, nL, Q⟩ := Z
  obtain ⟨⟨hx, hb, hml, hown, hts⟩, _, hK, _⟩ := C
  intro H locs ls hR hS hl
  obtain ⟨cell, q1, q3, q2⟩ := hR.cls (a := a) hk (by decide)
  refine va_castE hx hb hown (hts _ kl_J7_110) ⟨cell, q1, by rw [q3]; rfl, ?_⟩ d (kk H locs ls hR hS hl)
  rw [q2]
  exact va_nmO (hK.1.2 3 (G.2.1 14, .object "java/lang/Object") rfl).2 (by rfl)

end
