section
/-! answers of one form -/
def pI (P : Int32 → Mem → Prop) : Option Value → Mem → Prop := fun v μ' => ∃ r : Int32, v = some (.int r) ∧ P r μ'
def pL (P : Int64 → Mem → Prop) : Option Value → Mem → Prop := fun v μ' => ∃ r : Int64, v = some (.long r) ∧ P r μ'
def pR (P : Option Nat → Mem → Prop) : Option Value → Mem → Prop := fun v μ' => ∃ r : Option Nat, v = some (va_rf r) ∧ P r μ'
def pA (P : Nat → Mem → Prop) : Option Value → Mem → Prop := fun v μ' => ∃ r : Nat, v = some (.ref r) ∧ P r μ'
def pV (P : Mem → Prop) : Option Value → Mem → Prop := fun v μ' => v = none ∧ P μ'
abbrev noX : String → Mem → Prop := fun _ _ => False
theorem kI {Z : Zx} {k n pc : Nat} {L : List (Option Value)} {rest : List Value} {P : Int32 → Mem → Prop} (h : ∀ (r : Int32) (μ' : Mem), P r μ' → HW Z k n pc L (.int r :: rest) μ') : ∀ (v : Option Value) (μ' : Mem), pI P v μ' → HW Z k n pc L (v.toList ++ rest) μ' := by
  rintro _ μ' ⟨r, rfl, hp⟩
  exact h r μ' hp
theorem kL {Z : Zx} {k n pc : Nat} {L : List (Option Value)} {rest : List Value} {P : Int64 → Mem → Prop} (h : ∀ (r : Int64) (μ' : Mem), P r μ' → HW Z k n pc L (.long r :: rest) μ') : ∀ (v : Option Value) (μ' : Mem), pL P v μ' → HW Z k n pc L (v.toList ++ rest) μ' := by
  rintro _ μ' ⟨r, rfl, hp⟩
  exact h r μ' hp
theorem kR {Z : Zx} {k n pc : Nat} {L : List (Option Value)} {rest : List Value} {P : Option Nat → Mem → Prop} (h : ∀ (r : Option Nat) (μ' : Mem), P r μ' → HW Z k n pc L (va_rf r :: rest) μ') : ∀ (v : Option Value) (μ' : Mem), pR P v μ' → HW Z k n pc L (v.toList ++ rest) μ' := by
  rintro _ μ' ⟨r, rfl, hp⟩
  exact h r μ' hp
theorem kA {Z : Zx} {k n pc : Nat} {L : List (Option Value)} {rest : List Value} {P : Nat → Mem → Prop} (h : ∀ (r : Nat) (μ' : Mem), P r μ' → HW Z k n pc L (.ref r :: rest) μ') : ∀ (v : Option Value) (μ' : Mem), pA P v μ' → HW Z k n pc L (v.toList ++ rest) μ' := by
  rintro _ μ' ⟨r, rfl, hp⟩
  exact h r μ' hp
theorem kV {Z : Zx} {k n pc : Nat} {L : List (Option Value)} {rest : List Value} {P : Mem → Prop} (h : ∀ (μ' : Mem), P μ' → HW Z k n pc L rest μ') : ∀ (v : Option Value) (μ' : Mem), pV P v μ' → HW Z k n pc L (v.toList ++ rest) μ' := by
  rintro _ μ' ⟨rfl, hp⟩
  exact h μ' hp
theorem kN {Z : Zx} {k n pc : Nat} {L : List (Option Value)} : ∀ (E : String) (μ' : Mem), noX E μ' → HX Z k n pc L E μ' := fun _ _ h => h.elim
theorem h_lcmp {Z : Zx} {own : String} {cc : ByteArray} {rf rc rs rl k n pc : Nat} {L : List (Option Value)} {st : List Value} {μ : Mem} {x y : Int64} (C : Cx Z own cc rf rc rs rl) (d : decode cc pc = .ok (.lcmp, 1)) (kk : HW Z k n (pc + 1) L (.int (lg_cmp x y) :: st) μ) : HW Z k n pc L (.long y :: .long x :: st) μ := by
  refine HW.go C ?_ kk
  obtain ⟨p, l, e, R, s, m, args, below, meth, c, G, A, nL, Q⟩ := Z
  intro hx hb hown hts H locs ls hl kk
  exact W.lcmp hx hb d (kk ls hl)
theorem h_lret {Z : Zx} {own : String} {cc : ByteArray} {rf rc rs rl k n pc mc ms : Nat} {L : List (Option Value)} {μ : Mem} {v : Int64} {Post : Option Value → Mem → Prop} {PostX : String → Mem → Prop} (C : Cx Z own cc rf rc rs rl) (E : Rt Z mc ms (some .long) Post PostX) (d : decode cc pc = .ok (.lreturn, 1)) (h1 : k ≤ mc) (h2 : n ≤ ms) (hp : Post (some (.long v)) μ) : HW Z k n pc L [.long v] μ := by
  obtain ⟨p, l, e, R, s, m, args, below, meth, c, G, A, nL, Q⟩ := Z
  obtain ⟨⟨hx, hb, hml, hown, hts⟩, _, hK, _, _, _, hlocks⟩ := C
  obtain ⟨rfl, hr⟩ := E
  intro H locs ls hR hS hl
  exact vx_ret (W.widen h1 h2 (W.lret hx hb hr (fun t ht hW => ⟨_, μ, rfl, hp, by rw [ht]; exact hR, hS.F ht⟩) hS.2.2 d hlocks))
/-! throwing -/
theorem RepH.all {G : Gx} {A : Nat → Prop} {μ : Mem} {H H' : Heap} (h : RepH G A μ H) (hq : ∀ q, q < H.size → H'[q]? = H[q]?) : RepH G A μ H' := fun a ha => ⟨(h a ha).1, (h a ha).2.kept SameAt.rf (hq a (h a ha).2.lt)⟩
theorem h_throw {Z : Zx} {own : String} {cc : ByteArray} {rf rc rs rl k n pc mc ms : Nat} {ret : Option FieldType} {L : List (Option Value)} {st : List Value} {μ : Mem} {Post : Option Value → Mem → Prop} {PostX : String → Mem → Prop} {cls text : String} {names : List String} {ik is ic : Nat} (C : Cx Z own cc rf rc rs rl) (E : Rt Z mc ms ret Post PostX) (N : NoTab Z)
    (hcls : Bundle.fit cls = true) (hnames : ∀ n ∈ names, Bundle.fit n = true) (hk : Cond.classLink own ik cls ∈ lw_good) (hini : Cond.initialized cls ∈ lw_good) (hstr : Cond.stringRef own is text ∈ tables_1) (hat : (vx_atS own ic cls names).all (fun w => decide (w ∈ lw_good) || decide (w ∈ xW)) = true)
    (d0 : decode cc pc = .ok (.new ik, 3)) (d3 : decode cc (pc + 3) = .ok (.dup, 1)) (d4 : decode cc (pc + 4) = .ok (.ldc is, 2)) (d6 : decode cc (pc + 6) = .ok (.invokespecial ic, 3)) (d9 : decode cc (pc + 9) = .ok (.athrow, 1))
    (hf : names.length + 3 < rf) (hlo : (st.map fun v => v.category).sum + (13 * (names.length + 1) + 43) ≤ rl) (hc1 : k + 1 ≤ rc) (hs1 : n + 6 ≤ rs) (hc2 : k + 1 ≤ mc) (hs2 : n + 6 ≤ ms) (hp : PostX cls μ) : HW Z k n pc L st μ := by
  obtain ⟨p, l, e, R, s, m, args, below, meth, c, G, A, nL, Q⟩ := Z
  obtain ⟨⟨hx, hb, hml, hown, hts⟩, rfl, hK, hE, hA, htr, hlocks⟩ := C
  obtain ⟨rfl, hr⟩ := E
  intro H locs ls hR hS hl
  obtain ⟨sa, hsa⟩ := hK.2.2.1 _ _ _ hstr
  have hat2 : ∀ w ∈ vx_atS own ic cls names, w ∈ lw_good ∨ w ∈ xW := fun w hw => by
    have h9 := List.all_eq_true.mp hat w hw
    rw [Bool.or_eq_true, decide_eq_true_eq, decide_eq_true_eq] at h9
    exact h9
  refine vx_throwS hx hb htr hown hcls hnames (hts _ hk) (hts _ hini) hsa (fun w hw => (hat2 w hw).elim (fun h => hts _ h) (fun h => xW_use h (hK.2.2.2.2.2.2 w h))) (fun w hw => ?_) hE.1 hE.2.1 hS (hl.1.trans hml.symm) d0 d3 d4 d6 d9 (fun x hx9 => (N x hx9).elim) hf hlo hc1 hs1 hlocks (fun t hal hz ho => ⟨μ, hp, hR.all ho, Nat.le_trans hS.1 hz, fun q h1 h2 => (ho q (Nat.lt_of_lt_of_le h1 hS.1)).trans (hS.2.1 q h1 h2)⟩) hS.2.2 hc2 hs2
  have hg : ∀ w, w ∈ lw_good → vx_ot w = true := fun w h => by unfold vx_ot; rw [lg_good h, Bool.or_true]
  rcases List.mem_cons.mp hw with rfl | hw
  · exact hg _ hk
  rcases List.mem_cons.mp hw with rfl | hw
  · exact hg _ hini
  rcases hat2 w hw with h | h
  · exact hg _ h
  · have h2 := (List.mem_filter.mp h).2
    unfold vx_ot
    cases w with
    | declares x => rfl
    | castable a b => rfl
    | methodLinkNest a9 i9 x9 h9 => rfl
    | _ => cases h2
theorem h_throwW {Z : Zx} {own : String} {cc : ByteArray} {rf rc rs rl k n pc mc ms : Nat} {ret : Option FieldType} {L : List (Option Value)} {st : List Value} {μ : Mem} {Post : Option Value → Mem → Prop} {PostX : String → Mem → Prop} {cls text : String} {names : List String} {ik is ic : Nat} (C : Cx Z own cc rf rc rs rl) (E : Rt Z mc ms ret Post PostX) (N : NoTab Z)
    (hcls : Bundle.fit cls = true) (hnames : ∀ n ∈ names, Bundle.fit n = true) (hk : Cond.classLink own ik cls ∈ lw_good) (hini : Cond.initialized cls ∈ lw_good) (hstr : Cond.stringRef own is text ∈ tables_1) (hat : (vx_atS own ic cls names).all (fun w => decide (w ∈ lw_good) || decide (w ∈ xW)) = true)
    (d0 : decode cc pc = .ok (.new ik, 3)) (d3 : decode cc (pc + 3) = .ok (.dup, 1)) (d4 : decode cc (pc + 4) = .ok (.ldc_w is, 3)) (d7 : decode cc (pc + 7) = .ok (.invokespecial ic, 3)) (d10 : decode cc (pc + 10) = .ok (.athrow, 1))
    (hf : names.length + 3 < rf) (hlo : (st.map fun v => v.category).sum + (13 * (names.length + 1) + 43) ≤ rl) (hc1 : k + 1 ≤ rc) (hs1 : n + 6 ≤ rs) (hc2 : k + 1 ≤ mc) (hs2 : n + 6 ≤ ms) (hp : PostX cls μ) : HW Z k n pc L st μ := by
  obtain ⟨p, l, e, R, s, m, args, below, meth, c, G, A, nL, Q⟩ := Z
  obtain ⟨⟨hx, hb, hml, hown, hts⟩, rfl, hK, hE, hA, htr, hlocks⟩ := C
  obtain ⟨rfl, hr⟩ := E
  intro H locs ls hR hS hl
  obtain ⟨sa, hsa⟩ := hK.2.2.1 _ _ _ hstr
  have hat2 : ∀ w ∈ vx_atS own ic cls names, w ∈ lw_good ∨ w ∈ xW := fun w hw => by
    have h9 := List.all_eq_true.mp hat w hw
    rw [Bool.or_eq_true, decide_eq_true_eq, decide_eq_true_eq] at h9
    exact h9
  refine vx_throwSW hx hb htr hown hcls hnames (hts _ hk) (hts _ hini) hsa (fun w hw => (hat2 w hw).elim (fun h => hts _ h) (fun h => xW_use h (hK.2.2.2.2.2.2 w h))) (fun w hw => ?_) hE.1 hE.2.1 hS (hl.1.trans hml.symm) d0 d3 d4 d7 d10 (fun x hx9 => (N x hx9).elim) hf hlo hc1 hs1 hlocks (fun t hal hz ho => ⟨μ, hp, hR.all ho, Nat.le_trans hS.1 hz, fun q h1 h2 => (ho q (Nat.lt_of_lt_of_le h1 hS.1)).trans (hS.2.1 q h1 h2)⟩) hS.2.2 hc2 hs2
  have hg : ∀ w, w ∈ lw_good → vx_ot w = true := fun w h => by unfold vx_ot; rw [lg_good h, Bool.or_true]
  rcases List.mem_cons.mp hw with rfl | hw
  · exact hg _ hk
  rcases List.mem_cons.mp hw with rfl | hw
  · exact hg _ hini
  rcases hat2 w hw with h | h
  · exact hg _ h
  · have h2 := (List.mem_filter.mp h).2
    unfold vx_ot
    cases w with
    | declares x => rfl
    | castable a b => rfl
    | methodLinkNest a9 i9 x9 h9 => rfl
    | _ => cases h2
abbrev xNames : List String := ["java/lang/RuntimeException", "java/lang/Exception"]
theorem xNames_fit : ∀ n ∈ xNames, Bundle.fit n = true := by decide +kernel
theorem xat_IAE : (vx_atS RX8 43 "java/lang/IllegalArgumentException" xNames).all (fun w => decide (w ∈ lw_good) || decide (w ∈ xW)) = true := by decide +kernel
theorem xini_IAE : Cond.initialized "java/lang/IllegalArgumentException" ∈ lw_good := lg_1 12 (by decide +kernel) (by decide +kernel)
theorem xat_ISE : (vx_atS RX8 51 "java/lang/IllegalStateException" xNames).all (fun w => decide (w ∈ lw_good) || decide (w ∈ xW)) = true := by decide +kernel
theorem xini_ISE : Cond.initialized "java/lang/IllegalStateException" ∈ lw_good := lg_1 13 (by decide +kernel) (by decide +kernel)
theorem xat_IOB : (vx_atS RX8 257 "java/lang/IndexOutOfBoundsException" xNames).all (fun w => decide (w ∈ lw_good) || decide (w ∈ xW)) = true := by decide +kernel
theorem xini_IOB : Cond.initialized "java/lang/IndexOutOfBoundsException" ∈ lw_good := lg_1 14 (by decide +kernel) (by decide +kernel)
theorem xini_NSE : Cond.initialized "java/util/NoSuchElementException" ∈ lw_good := lg_1 22 (by decide +kernel) (by decide +kernel)
theorem xs_342 : Cond.stringRef RX8 342 "out of range" ∈ tables_1 := List.mem_of_getElem? (i := 259) (by decide +kernel)
theorem xs_41 : Cond.stringRef RX8 41 "ticks" ∈ tables_1 := List.mem_of_getElem? (i := 401) (by decide +kernel)
theorem xs_49 : Cond.stringRef RX8 49 "the end of time" ∈ tables_1 := List.mem_of_getElem? (i := 412) (by decide +kernel)
theorem xs_334 : Cond.stringRef RX8 334 "no such end" ∈ tables_1 := List.mem_of_getElem? (i := 440) (by decide +kernel)
theorem xs_63 : Cond.stringRef RX8 63 "another end has the address" ∈ tables_1 := List.mem_of_getElem? (i := 451) (by decide +kernel)
theorem xs_336 : Cond.stringRef RX8 336 "no such peer" ∈ tables_1 := List.mem_of_getElem? (i := 470) (by decide +kernel)
theorem xs_338 : Cond.stringRef RX8 338 "the peer is the end itself" ∈ tables_1 := List.mem_of_getElem? (i := 471) (by decide +kernel)
theorem xs_90 : Cond.stringRef RX8 90 "the table is full" ∈ tables_1 := List.mem_of_getElem? (i := 483) (by decide +kernel)
theorem xs_109 : Cond.stringRef RX8 109 "no such route" ∈ tables_1 := List.mem_of_getElem? (i := 580) (by decide +kernel)
theorem xs_155 : Cond.stringRef RX8 155 "a fresh hello is in flight" ∈ tables_1 := List.mem_of_getElem? (i := 774) (by decide +kernel)
theorem xs_340 : Cond.stringRef RX8 340 "no such letter" ∈ tables_1 := List.mem_of_getElem? (i := 786) (by decide +kernel)
theorem xs_186 : Cond.stringRef RX8 186 "the net is full" ∈ tables_1 := List.mem_of_getElem? (i := 914) (by decide +kernel)
theorem xs_196 : Cond.stringRef RX8 196 "the field can't be turned" ∈ tables_1 := List.mem_of_getElem? (i := 932) (by decide +kernel)
theorem xs_198 : Cond.stringRef RX8 198 "by is 0" ∈ tables_1 := List.mem_of_getElem? (i := 933) (by decide +kernel)
theorem xs_209 : Cond.stringRef RX8 209 "another field was turned before" ∈ tables_1 := List.mem_of_getElem? (i := 934) (by decide +kernel)
theorem xs_228 : Cond.stringRef RX8 228 "no such session" ∈ tables_1 := List.mem_of_getElem? (i := 995) (by decide +kernel)
theorem xs_255 : Cond.stringRef RX8 255 "no such place" ∈ tables_1 := List.mem_of_getElem? (i := 1049) (by decide +kernel)
/-- a cast to the object's own class -/
theorem h_castO {Z : Zx} {own : String} {cc : ByteArray} {rf rc rs rl k n pc idx ci N a : Nat} {L : List (Option Value)} {st : List Value} {μ : Mem} {Cn : String} {T : u_T} (C : Cx Z own cc rf rc rs rl) (hl9 : Cond.classLink own idx Cn ∈ lw_good) (hc : vwCl[ci]? = some (Cn, T, N)) (hci : ci < 10) (d : decode cc pc = .ok (.checkcast idx, 3)) (hk : μ.kd a % 32 = ci + 1)
    (kk : HW Z k n (pc + 3) L (.ref a :: st) μ) : HW Z k n pc L (.ref a :: st) μ := by
  obtain ⟨p, l, e, R, s, m, args, below, meth, c, G, A, nL, Q⟩ := Z
  obtain ⟨⟨hx, hb, hml, hown, hts⟩, _, hK, _⟩ := C
  intro H locs ls hR hS hl
  obtain ⟨r, h1, cell, q1, q2, q3, q4⟩ := hR.obj hk hci
  have hr : r = (Cn, T, N) := Option.some.inj (h1.symm.trans hc)
  subst hr
  have hcl := (hK.1.1 ci _ hc).2.1
  intro T' hT X
  obtain ⟨vm', X', st9⟩ := X.checkcastYes hx hown (hts _ hl9) (by rw [hT]; exact q1) (by rw [q3]; rfl) hcl (by rw [q2]; exact va_asg _ _) (g := F0 m pc ls (.ref a :: st)) rfl rfl (by rw [hb]; exact d)
  obtain ⟨t, a1, b1⟩ := kk H locs ls hR hS hl (T'.setVm vm') hT X'
  exact ⟨t, st9 t a1, b1⟩
/-- a contract's proof, the contract's ghost in hand -/
theorem Kon.ofG {l : Launch} {y : MethodName} {bytes : ByteArray} {nL : Nat} {ret : Option FieldType} {rf mc ms rl : Nat} {G : Gx} {av : List Value} {μ : Mem} {Post : Option Value → Mem → Prop} {PostX : String → Mem → Prop}
    (hy : plainFor y = true) (hn : (lg_sl av).length ≤ nL) (hnp : (pad nL (argL av)).length ≤ nL) (body : ∀ Z : Zx, Z.G = G → Cx Z y.cls bytes rf mc ms rl → Rt Z mc ms ret Post PostX → NoTab Z → Mt Z y.name → HW Z 0 0 0 (pad nL (argL av)) [] μ) : Kon l y bytes nL ret rf mc ms rl G av μ Post PostX := by
  intro hst A
  refine my_ofW (cc := bytes) (maxL := nL) (ret := ret) hy rfl ?_
  intro p e s m args below meth c s₁ B hml ht hP
  obtain ⟨rfl, hA, hR, hK, hE⟩ := hP
  have hts : ∀ w ∈ lw_good, w.before av.toArray s = true := fun w hw => atoms_spec (ws := Cond.code y bytes nL ret :: lw_good) B.pre w (List.mem_cons_of_mem _ hw)
  have key := body (p, l, e, { frames := rf, cells := mc, slots := ms, locals := rl }, s, m, av.toArray, below, meth, c, G, A, nL, vx_MQ below (QcOf G A Post) (XcOf G A PostX) av.toArray s mc ms A) rfl
    ⟨⟨B.exec, B.bytes, hml, findClass_of_methodNamed B.named, hts⟩, rfl, hK, hE, hA, hst, B.notSynchronized⟩ ⟨rfl, B.returns⟩ ht (name_of_methodNamed B.named B.method).1
  rw [lg_entry_eq]
  have hl := lv_entry av (n := nL) hn
  refine key s.heap [] _ hR va_S.rf ⟨hl.1, hl.2.1, fun i v hi => ?_, hnp⟩
  have h2 : (argL av)[i]? = some (some v) := by
    unfold pad at hi
    by_cases c : i < (argL av).length
    · rw [List.getElem?_append_left c] at hi
      exact hi
    · rw [List.getElem?_append_right (by omega)] at hi
      have := List.eq_of_mem_replicate (List.mem_of_getElem? hi)
      cases this
  have h3 := argL_in av 0 i v h2
  rw [Nat.zero_add] at h3
  exact hl.2.2 (i, v) h3
end
