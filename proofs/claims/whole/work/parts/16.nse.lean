section NSE
abbrev nX : String := "java/util/NoSuchElementException"
abbrev nY : String := "java/lang/RuntimeException"
abbrev nZ : List String := ["java/lang/Exception"]
def sixN : ByteArray := ⟨#[0x2a, 0x2b, 0xb7, 0x00, 0x0d, 0xb1]⟩
theorem sixN_0 : decode sixN 0 = .ok (.aload_n 0, 1) := by decide +kernel
theorem sixN_1 : decode sixN 1 = .ok (.aload_n 1, 1) := by decide +kernel
theorem sixN_2 : decode sixN 2 = .ok (.invokespecial 13, 3) := by decide +kernel
theorem sixN_5 : decode sixN 5 = .ok (.return_, 1) := by decide +kernel
def nK1 : Cond := .code (Bundle.initS nX) Bundle.six 2 none
def nK2 : Cond := .methodLink nX 7 (Bundle.initS nY)
/-- the words of a throw of this class: its own super link stands at 13 -/
def nsAtoms (own : String) (ic : Nat) : List Cond := ((Bundle.ownAtoms own ic nX (nY :: nZ)).filter (fun w => decide (w ≠ nK1) && decide (w ≠ nK2))) ++ Bundle.passSAtoms nX nY 13 sixN
def vx_atN (own : String) (ic : Nat) : List Cond := (nsAtoms own ic).filter vx_no
theorem xat_NSE : (vx_atN RX8 111).all (fun w => decide (w ∈ lw_good) || decide (w ∈ xW)) = true := by decide +kernel
theorem ns_keep {args : Array Value} {s : State} {own : String} {ic : Nat} (h : ∀ w ∈ nsAtoms own ic, w.before args s = true) {w : Cond} (hw : w ∈ Bundle.ownAtoms own ic nX (nY :: nZ)) (h1 : w ≠ nK1) (h2 : w ≠ nK2) : w.before args s = true :=
  h w (List.mem_append.mpr (Or.inl (List.mem_filter.mpr ⟨hw, by rw [decide_eq_true h1, decide_eq_true h2]; rfl⟩)))
theorem ns_T {w : Cond} (h : w ∈ Bundle.throwableAtoms) : w ≠ nK1 ∧ w ≠ nK2 := by
  have h9 : Bundle.throwableAtoms.all (fun w => decide (w ≠ nK1) && decide (w ≠ nK2)) = true := by decide +kernel
  have h8 := List.all_eq_true.mp h9 w h
  rw [Bool.and_eq_true, decide_eq_true_eq, decide_eq_true_eq] at h8
  exact h8
theorem ns_TS {w : Cond} (h : w ∈ Bundle.throwableSAtoms) : w ≠ nK1 ∧ w ≠ nK2 := by
  have h9 : Bundle.throwableSAtoms.all (fun w => decide (w ≠ nK1) && decide (w ≠ nK2)) = true := by decide +kernel
  have h8 := List.all_eq_true.mp h9 w h
  rw [Bool.and_eq_true, decide_eq_true_eq, decide_eq_true_eq] at h8
  exact h8
theorem ns_C {w : Cond} (h : w ∈ Bundle.chainSAtoms nY nZ) : w ≠ nK1 ∧ w ≠ nK2 := by
  have h9 : (Bundle.chainSAtoms nY nZ).all (fun w => decide (w ≠ nK1) && decide (w ≠ nK2)) = true := by decide +kernel
  have h8 := List.all_eq_true.mp h9 w h
  rw [Bool.and_eq_true, decide_eq_true_eq, decide_eq_true_eq] at h8
  exact h8
set_option maxHeartbeats 4000000 in
theorem ctorN {p : Program} {l : Launch} {e : Env} {R : Room} {s : State} {m₀ : MethodId} {args : Array Value} {below : List Frame} {meth : Method} {c : Code} {W : State} {cells slots : Nat} (X : Stand p l e R s m₀ args below meth c W [] cells slots) (hexec : p.tables.exec = Jvm.exec) (htr : e.platform.stackTraces = false) {own : String} {ic : Nat}
    (hown : s.vm.findClass own = some m₀.cls) (h : ∀ w ∈ nsAtoms own ic, w.before args s = true)
    {a : Addr} {cX : ClassId} {kX : Class} (hfoundX : s.vm.findClass nX = some cX) (hkX : s.vm.classes[cX]? = some kX) (hcell : W.heap[a]? = some (freshCell cX kX)) (hnew : s.heap.size ≤ a)
    {msg : Value} (hmsg : msg.isRef = true)
    {g : JFrame} (hg : g.method = m₀) (hsize : g.locals.size = c.maxLocals) (hlocked : g.locked = none) (hentered : g.entered = []) {rest : List Value} (hstack : g.stack = msg :: .ref a :: .ref a :: rest)
    (hd6 : decode c.code g.pc = .ok (.invokespecial ic, 3)) (hd9 : decode c.code (g.pc + 3) = .ok (.athrow, 1)) (hout : ∀ x ∈ c.exceptionTable.toList, covers x (g.pc + 3) = false)
    (hRframes : 2 + 3 < R.frames) (hRlocals : 2 * g.monitorRoom + ((Value.ref a :: rest).map fun v => v.category).sum + (13 * (2 + 1) + 42) ≤ R.locals) (hlocks : meth.locks = false) :
    ∃ U : State, Steps p.tables e below (W.setTop g) U ∧ U.status = .running ∧ Ended U below (.threw a) ∧ s.WarmedH U.vm ∧ s.sameButNew ({ U with vm := s.vm } : State) [] cells slots ∧
      ∃ ce, U.heap[a]? = some ce ∧ s.vm.findClass nX = some ce.cls ∧ ce.vm = .none := by
  have howns : e.platform.frameOwnsMonitors = true := by rw [X.admits.platform]
  have hfin : e.platform.finalization = false := by rw [X.admits.platform]
  have hpl : e.platform.magicAccessors = ({} : Platform).magicAccessors := by rw [X.admits.platform]
  have kp : ∀ x, x ∈ Bundle.ownAtoms own ic nX (nY :: nZ) → x ≠ nK1 → x ≠ nK2 → x.holds args s none s [] = true := fun x hx h1 h2 => ns_keep h hx h1 h2
  have hp : ∀ x ∈ Bundle.passSAtoms nX nY 13 sixN, x.before args s = true := fun x hx => h x (List.mem_append.mpr (Or.inr hx))
  obtain ⟨T, Z0, L, -, Y⟩ := ThrowableC.of_atoms (args := args) howns hfin hpl (fun x hx => ns_keep h (by simp [Bundle.ownAtoms, hx]) (ns_T hx).1 (ns_T hx).2)
  obtain ⟨Z, M, LZ, LM, hnZ⟩ := Init0T.ofS_atoms (args := args) hpl L Y (fun x hx => ns_keep h (by simp [Bundle.ownAtoms, hx]) (ns_TS hx).1 (ns_TS hx).2)
  obtain ⟨P2, Ps, hlen, L2, hL, hP2m, hlink2, hlink⟩ := Bundle.chainS (args := args) hpl hnZ nZ nY (by decide +kernel) (by decide +kernel) (fun x hx => ns_keep h (by unfold Bundle.ownAtoms; exact List.mem_append.mpr (Or.inl (List.mem_append.mpr (Or.inr (List.mem_append.mpr (Or.inr hx)))))) (ns_C hx).1 (ns_C hx).2)
  obtain ⟨P1, L1, hP1m, hP1s⟩ := PassC.ofS_atoms (args := args) (s := s) hpl (X := nX) (Y := nY) (by decide +kernel) (by decide) sixN_0 sixN_1 sixN_2 sixN_5 hp
  have hlink1 : P1.sup = P2.m := Option.some.inj (hP1s.symm.trans hP2m)
  have hfound : s.vm.findClass nX = some P1.m.cls := findClass_of_methodNamed hP1m
  cases Option.some.inj (hfoundX.symm.trans hfound)
  obtain ⟨c1, kX', hc1, hk, hord, -, -, hn6⟩ := Cond.instantiable_spec (kp (.instantiable nX 6) (by simp [Bundle.ownAtoms]) (by decide) (by decide))
  cases Option.some.inj (hc1.symm.trans hfound)
  cases Option.some.inj (hkX.symm.trans hk)
  have hsel0 : selectMethod e.platform s.vm P1.m.cls T.fill0 = .method T.fill0 := by
    obtain ⟨c2, r2, m2, q1, q2, q3, q4, -⟩ := Cond.selects_spec (kp (.selects nX Bundle.tFill0 Bundle.tFill0) (by simp [Bundle.ownAtoms]) (by decide) (by decide))
    cases Option.some.inj (q1.symm.trans hfound)
    cases Option.some.inj (q2.symm.trans (State.methodFound?_of_named Y.fill0 (by decide)))
    cases Option.some.inj (q3.symm.trans Y.fill0)
    rw [Launch.admits_selectMethod X.admits]; exact q4
  have hselF : selectMethod e.platform s.vm P1.m.cls T.fill = .method T.fill := by
    obtain ⟨c2, r2, m2, q1, q2, q3, q4, -⟩ := Cond.selects_spec (kp (.selects nX Bundle.tFill Bundle.tFill) (by simp [Bundle.ownAtoms]) (by decide) (by decide))
    cases Option.some.inj (q1.symm.trans hfound)
    cases Option.some.inj (q2.symm.trans (State.methodFound?_of_named Y.fill (by decide)))
    cases Option.some.inj (q3.symm.trans Y.fill)
    rw [Launch.admits_selectMethod X.admits]; exact q4
  obtain ⟨cellS0, hcS0, hiss⟩ := Y.statics
  obtain ⟨u0, hu0⟩ := Cond.staticRefV Y.unassigned L.unassignedStatic L.statics hcS0 hiss (kp (.isRef (.static Bundle.tN "UNASSIGNED_STACK" Bundle.steD)) (by simp [Bundle.ownAtoms]) (by decide) (by decide))
  obtain ⟨sen, hsen⟩ := Cond.staticRefV Y.sentinel L.sentinelStatic L.statics hcS0 hiss (kp (.isRef (.static Bundle.tN "SUPPRESSED_SENTINEL" Bundle.listD)) (by simp [Bundle.ownAtoms]) (by decide) (by decide))
  obtain ⟨ci198, i198, fB, hk198, hg198, ha198, hsB, -, hnB, htB, hffB⟩ := Cond.ownField (t := .object "java/lang/Object") Y.found L.cls (by decide +kernel) (kp (.fieldLink Bundle.tN 198 Bundle.tN "backtrace" "Ljava/lang/Object;") (by simp [Bundle.ownAtoms]) (by decide) (by decide)) (kp (.lays Bundle.tN Bundle.tN "backtrace" "Ljava/lang/Object;") (by simp [Bundle.ownAtoms]) (by decide) (by decide)) e.platform hpl
  obtain ⟨cellS, hcS', heS, -, hkeep⟩ := X.same.2.2.2.2.2 T.aS cellS0 hcS0
  have hcellS : W.heap[T.aS]? = some cellS := hcS'
  have hout' : ∀ i, (⟨T.aS, i⟩ : Loc) ∉ ([] : List Loc) := fun i hmem => nomatch hmem
  have hknownS : cellS.vm ≠ .unknown := by
    rw [heS]; intro hu
    rw [show cellS0.vm = .unknown from hu] at hiss
    cases hiss
  have hneS : T.aS ≠ a := Nat.ne_of_lt (Nat.lt_of_lt_of_le (Array.getElem?_eq_some_iff.mp hcS0).1 hnew)
  obtain ⟨iM, hffM⟩ := Y.msg
  obtain ⟨tyC, dC, hdC, hdnC⟩ := Cond.laysAt hfound hk Y.cause (kp (.lays nX Bundle.tN "cause" "Ljava/lang/Throwable;") (by simp [Bundle.ownAtoms]) (by decide) (by decide))
  obtain ⟨tyS, dS, hdS, hdnS⟩ := Cond.laysAt hfound hk Y.stack (kp (.lays nX Bundle.tN "stackTrace" Bundle.steD) (by simp [Bundle.ownAtoms]) (by decide) (by decide))
  obtain ⟨tyP, dP, hdP, hdnP⟩ := Cond.laysAt hfound hk Y.supp (kp (.lays nX Bundle.tN "suppressedExceptions" Bundle.listD) (by simp [Bundle.ownAtoms]) (by decide) (by decide))
  obtain ⟨tyM, dM, hdM, hdnM⟩ := Cond.laysAt hfound hk hffM (kp (.lays nX Bundle.tN "detailMessage" "Ljava/lang/String;") (by simp [Bundle.ownAtoms]) (by decide) (by decide))
  obtain ⟨tyB, dB, hdB, hdnB⟩ := Cond.laysAt hfound hk hffB (kp (.lays nX Bundle.tN "backtrace" "Ljava/lang/Object;") (by simp [Bundle.ownAtoms]) (by decide) (by decide))
  have bC := Cond.laysApart hdB hdC hdnB hdnC (by rw [hnB, Y.causeName]; decide)
  have bS := Cond.laysApart hdB hdS hdnB hdnS (by rw [hnB, Y.stackName]; decide)
  have bP := Cond.laysApart hdB hdP hdnB hdnP (by rw [hnB, Y.suppName]; decide)
  have hskip : SkipFacts T e.platform s (fun u => u) u0 ((preparedCellV T.toThrowableT (freshCell P1.m.cls kX) a u0 sen).withEntry W.cur) :=
    ⟨{ ci198 := ci198, i198 := i198, fBack := fB }, ⟨hk198, hg198, ha198, hsB⟩, by
      have := fresh_default (c := P1.m.cls) tyB
      rw [htB] at this
      simpa [preparedCellV, Cell.setSlot, Cell.withEntry, Array.getElem?_setIfInBounds, bC, bS, bP, bC.symm, bS.symm, bP.symm, defaultValue] using this, fun _ _ => rfl⟩
  obtain ⟨tm, methC, cdC, kC, vm₁, hnC, -, -, -, -, -, -, -, hW₁, st1⟩ := Steps.initColdS (tb := p.tables) (e := e) (below := below) (s := s) (U := W) X.here hexec X.warmed hpl hown (t := Bundle.initS nX) rfl rfl (by decide)
    (kp (.methodLink own ic (Bundle.initS nX)) (by simp [Bundle.ownAtoms]) (fun z => nomatch (show Cond.methodLink own ic (Bundle.initS nX) = Cond.code (Bundle.initS nX) Bundle.six 2 none from z)) (fun z => by unfold nK2 at z; injection z with _ _ z3; exact absurd z3 (by decide))) (hp (.instanceMethod (Bundle.initS nX)) (by simp [Bundle.passSAtoms])) (bytes := sixN) (maxL := 2) (hp (.code (Bundle.initS nX) sixN 2 none) (by simp [Bundle.passSAtoms]))
    (f := g) hg (a := a) (msg := msg) (rest := .ref a :: rest) hstack hd6
  cases Option.some.inj (hnC.symm.trans hP1m)
  have X₁ := X.noted hW₁
  obtain ⟨vm₂, X₂, st2⟩ := X₁.ctorMessageOffV hexec (g := { g with stack := .ref a :: rest }) hg hsize T L Z LZ M LM (P1 :: P2 :: Ps)
    (fun P hP => by rcases List.mem_cons.mp hP with rfl | hP; exact L1; rcases List.mem_cons.mp hP with rfl | hP; exact L2; exact hL P hP) ⟨hlink1, hlink2, hlink⟩ (u0 := u0) (sen := sen) (self := a) hmsg (cell := freshCell P1.m.cls kX) (cellS := cellS)
    hcell (fun _ => by simp) (by simp) rfl rfl hsel0 hselF hcellS hneS hknownS (by rw [hkeep _ (hout' _)]; exact hu0) (by rw [hkeep _ (hout' _)]; exact hsen)
    (Takes.of_laid hk hord tyC (by rw [Y.causeType]; rfl)) (Takes.of_laid hk hord tyS (by rw [Y.stackType]; exact fits_refV_array _ u0)) (Takes.of_laid hk hord tyP (by rw [Y.suppType]; exact fits_refV_object _ sen))
    (Takes.of_laid hk hord tyM (by rw [Y.msgType]; exact fits_refV_object _ ⟨msg, hmsg⟩)) Y.objLocals hskip htr [] hd6
    (by simp only [List.length_cons, hlen]; exact hRframes) (by simp only [List.length_cons, hlen]; exact hRlocals)
  obtain ⟨hwalk, hrun, hended, hWU, hsame⟩ := X₂.athrowLeaves hexec (g := { g with stack := .ref a :: rest, pc := g.pc + 3 }) hg hlocked hentered hout (a := a) (rest := rest) rfl hd9
  have hlt : a < ((W.setVm vm₁).setVm vm₂).heap.size := (Array.getElem?_eq_some_iff.mp hcell).1
  have hU := heapAt_setCell_self (s := (W.setVm vm₁).setVm vm₂) (plainBareV T.toThrowableT (freshCell P1.m.cls kX) a u0 sen msg) hlt
  refine ⟨_, st1 _ (fun acts => ?_), hrun, hended, hWU, hsame.weaken (fun y hy hlt' => ?_) (Nat.le_refl _) (Nat.le_refl _), _, hU, hfound, rfl⟩
  · rw [doInvoke_state]
    exact st2 _ hwalk
  · exfalso
    have hb : y.base = a := by
      simp only [List.mem_cons, List.not_mem_nil, or_false, List.nil_append, List.append_nil] at hy
      rcases hy with rfl | rfl | rfl | rfl | rfl <;> rfl
    rw [hb] at hlt'
    exact Nat.not_lt.mpr hnew hlt'
section
variable {p : Program} {l : Launch} {e : Env} {R : Room} {s : State} {m : MethodId} {args : Array Value} {below : List Frame} {meth : Method} {c : Code} {H : Heap} {locs : List Loc} {cells slots : Nat} {Q : State → Prop}
variable {free : Addr → Prop} {ls : Array Slot} {st0 rest : List Value} {Qc : Array Value → State → Outcome → State → Prop} {XC : String → State → State → Prop}
theorem vx_throwN {cc : ByteArray} {pc : Nat} (hexec : p.tables.exec = Jvm.exec) (hb : c.code = cc) (hl : l.stackTraces = false) {own text : String} {ik is ic mc ms sa : Nat} {A : Nat → Prop}
    (hown : s.vm.findClass own = some m.cls)
    (hk : (Cond.classLink own ik nX).before args s = true) (hini : (Cond.initialized nX).before args s = true) (hstr : vk_R own is text sa s) (hat : ∀ w ∈ vx_atN own ic, w.before args s = true)
    (hgood : ∀ w ∈ Cond.classLink own ik nX :: Cond.initialized nX :: vx_atN own ic, vx_ot w = true)
    (hU : vx_Zq Bundle.tN "UNASSIGNED_STACK" Bundle.steD A s s.heap) (hN : vx_Zq Bundle.tN "SUPPRESSED_SENTINEL" Bundle.listD A s s.heap) (hS : va_S A s.heap H locs) (hsize : ls.size = c.maxLocals)
    (d0 : decode cc pc = .ok (.new ik, 3)) (d3 : decode cc (pc + 3) = .ok (.dup, 1)) (d4 : decode cc (pc + 4) = .ok (.ldc is, 2)) (d6 : decode cc (pc + 6) = .ok (.invokespecial ic, 3)) (d9 : decode cc (pc + 9) = .ok (.athrow, 1))
    (hout : ∀ x ∈ c.exceptionTable.toList, covers x (pc + 9) = false)
    (hRframes : 2 + 3 < R.frames) (hRlocals : (rest.map fun v => v.category).sum + (13 * (2 + 1) + 43) ≤ R.locals) (hRcells : cells + 1 ≤ R.cells) (hRslots : slots + 6 ≤ R.slots) (hlocks : meth.locks = false)
    (hx : ∀ t : State, s.vm.Alike t.vm → H.size ≤ t.heap.size → (∀ q : Nat, q < H.size → t.heap[q]? = H[q]?) → XC nX s t)
    (hf : ∀ z ∈ locs, free z.base) (hc : cells + 1 ≤ mc) (hs : slots + 6 ≤ ms) :
    W p l e R s m args below meth c H locs cells slots (vx_MQ below Qc XC args s mc ms free) (F0 m pc ls rest) := by
  intro T hT X
  have htr : e.platform.stackTraces = false := (show e.platform.stackTraces = l.stackTraces by rw [X.admits.platform]).trans hl
  have Y := vx_rebase X (R' := { frames := R.frames, locals := R.locals, cells := 1, slots := 6 }) (Nat.le_refl _) (Nat.le_refl _) hRcells hRslots
  obtain ⟨s', hA⟩ : ∃ z, z = (T.setVm s.vm).setFrames (.invoking m args :: below) := ⟨_, rfl⟩
  rw [← hA] at Y
  have hvm : s'.vm = s.vm := by rw [hA]; rfl
  have hhp : s'.heap = H := by rw [hA]; exact hT
  have hW0 : s.WarmedH s'.vm := by rw [hvm]; exact State.WarmedH.refl s
  have hat' : ∀ w ∈ vx_atN own ic, w.before args s' = true := fun w hw => vx_ot_at hW0 hvm.symm (hgood w (List.mem_cons_of_mem _ (List.mem_cons_of_mem _ hw))) (hat w hw)
  have hk' : (Cond.classLink own ik nX).before args s' = true := vx_ot_at hW0 hvm.symm (hgood _ List.mem_cons_self) hk
  have hini' : (Cond.initialized nX).before args s' = true := vx_ot_at hW0 hvm.symm (hgood _ (List.mem_cons_of_mem _ List.mem_cons_self)) hini
  have hU' : vx_Zq Bundle.tN "UNASSIGNED_STACK" Bundle.steD A s' s'.heap := by rw [hhp]; exact vx_Zq.moved hW0.alike (hU.kept hS.2.1)
  have hN' : vx_Zq Bundle.tN "SUPPRESSED_SENTINEL" Bundle.listD A s' s'.heap := by rw [hhp]; exact vx_Zq.moved hW0.alike (hN.kept hS.2.1)
  have h : ∀ w ∈ nsAtoms own ic, w.before args s' = true := vx_own hat' (vx_isRefq hU'.1) (vx_isRefq hN'.1) hU'.2.word hN'.2.word
  have hown' : s'.vm.findClass own = some m.cls := by rw [hvm]; exact hown
  have hins : (Cond.instantiable nX 6).before args s' = true := ns_keep h (by simp [Bundle.ownAtoms]) (by decide) (by decide)
  obtain ⟨vm₁, cX, kX, hfX, hkX, -, -, X₁, st1⟩ := Y.newCold hexec (own := own) (C := nX) (index := ik) (n := 6) hown' hk' hins hini'
    (g := F0 m pc ls rest) rfl (by rw [hb]; exact d0) (Nat.le_refl _) (Nat.le_refl _)
  generalize hT1 : (T.setVm vm₁).pushCell { cls := cX, slots := kX.instanceTypes.map defaultValue, vm := .none } = T1 at X₁ st1
  have hcat : (Value.ref T.heap.size).category = 1 := rfl
  have hcellA : T1.heap[T.heap.size]? = some (freshCell cX kX) := by rw [← hT1]; exact State.heap_pushCell_size _ _
  have d3' : decode c.code (pc + 3) = .ok (.dup, 1) := by rw [hb]; exact d3
  have d4' : decode c.code (pc + 4) = .ok (.ldc is, 2) := by rw [hb]; exact d4
  have hstr' : vk_R own is text sa s' := vk_R.warm hW0 hstr
  obtain ⟨U, hsteps, hrun, hend, hW, hsame, ce, hce, hOc, hOv⟩ := ctorN X₁ hexec htr (own := own) (ic := ic) hown' h hfX hkX hcellA (by rw [hhp, hT]; exact Nat.le_refl _) (msg := .ref sa) rfl
    (g := { method := m, pc := pc + 6, locals := ls, stack := .ref sa :: .ref T.heap.size :: .ref T.heap.size :: rest, locked := none }) rfl hsize rfl rfl (rest := rest) rfl
    (by rw [hb]; exact d6) (by rw [hb]; exact d9) hout hRframes (by simp only [List.map_cons, List.sum_cons, hcat]; omega) hlocks
  obtain ⟨f1, f2⟩ := vx_frame hsame
  rw [hhp] at f1 f2
  have hWs : s.WarmedH U.vm := State.WarmedH.trans hW0 hW
  have hcl : s.vm.findClass nX = some ce.cls := by
    have h9 := hOc
    rw [hvm] at h9
    exact h9
  have hall : s.sameButNew ({ U with vm := s.vm } : State) locs mc ms := by
    subst hA
    obtain ⟨e1, e2⟩ := hsame
    rw [State.setFrames_setFrames] at e1
    have h2 : (T.setVm s.vm).sameButNew ({ U with vm := s.vm } : State) [] (0 + 1) (0 + 6) := ⟨e1, e2⟩
    have h3 := X.same.trans h2
    rw [List.append_nil] at h3
    exact h3.mono hc hs
  refine ⟨U, ?_, .threw T.heap.size, hrun, hend, Or.inr ⟨T.heap.size, rfl, nX, ce, locs, hx U hWs.alike f1 (fun q hq => f2 q hq (fun z hz => nomatch hz)), hce, hOv, hcl, hWs, hall, hf⟩⟩
  refine st1 _ ?_
  show Steps p.tables e below (T1.setTop { method := m, pc := pc + 3, locals := ls, stack := .ref T.heap.size :: rest, locked := none }) _
  jvm_step X₁.here [X₁.here.top, hexec, d3', Value.category]
  exact X₁.ldcString hexec (own := own) (text := text) (index := is) (a := sa) hown' hstr'.1 hstr'.2
    (g := { method := m, pc := pc + 4, locals := ls, stack := .ref T.heap.size :: .ref T.heap.size :: rest, locked := none }) rfl d4' _ hsteps
end
theorem h_throwN {Z : Zx} {own : String} {cc : ByteArray} {rf rc rs rl k n pc mc ms : Nat} {ret : Option FieldType} {L : List (Option Value)} {st : List Value} {μ : Mem} {Post : Option Value → Mem → Prop} {PostX : String → Mem → Prop} {text : String} {ik is ic : Nat} (C : Cx Z own cc rf rc rs rl) (E : Rt Z mc ms ret Post PostX) (N : NoTab Z)
    (hk : Cond.classLink own ik nX ∈ lw_good) (hini : Cond.initialized nX ∈ lw_good) (hstr : Cond.stringRef own is text ∈ tables_1) (hat : (vx_atN own ic).all (fun w => decide (w ∈ lw_good) || decide (w ∈ xW)) = true)
    (d0 : decode cc pc = .ok (.new ik, 3)) (d3 : decode cc (pc + 3) = .ok (.dup, 1)) (d4 : decode cc (pc + 4) = .ok (.ldc is, 2)) (d6 : decode cc (pc + 6) = .ok (.invokespecial ic, 3)) (d9 : decode cc (pc + 9) = .ok (.athrow, 1))
    (hf : 2 + 3 < rf) (hlo : (st.map fun v => v.category).sum + (13 * (2 + 1) + 43) ≤ rl) (hc1 : k + 1 ≤ rc) (hs1 : n + 6 ≤ rs) (hc2 : k + 1 ≤ mc) (hs2 : n + 6 ≤ ms) (hp : PostX nX μ) : HW Z k n pc L st μ := by
  obtain ⟨p, l, e, R, s, m, args, below, meth, c, G, A, nL, Q⟩ := Z
  obtain ⟨⟨hx, hb, hml, hown, hts⟩, rfl, hK, hE, hA, htr, hlocks⟩ := C
  obtain ⟨rfl, hr⟩ := E
  intro H locs ls hR hS hl
  obtain ⟨sa, hsa⟩ := hK.2.2.1 _ _ _ hstr
  have hat2 : ∀ w ∈ vx_atN own ic, w ∈ lw_good ∨ w ∈ xW := fun w hw => by
    have h9 := List.all_eq_true.mp hat w hw
    rw [Bool.or_eq_true, decide_eq_true_eq, decide_eq_true_eq] at h9
    exact h9
  refine vx_throwN hx hb htr hown (hts _ hk) (hts _ hini) hsa (fun w hw => (hat2 w hw).elim (fun h => hts _ h) (fun h => xW_use h (hK.2.2.2.2.2.2 w h))) (fun w hw => ?_) hE.1 hE.2.1 hS (hl.1.trans hml.symm) d0 d3 d4 d6 d9 (fun x hx9 => (N x hx9).elim) hf hlo hc1 hs1 hlocks (fun t hal hz ho => ⟨μ, hp, hR.all ho, Nat.le_trans hS.1 hz, fun q h1 h2 => (ho q (Nat.lt_of_lt_of_le h1 hS.1)).trans (hS.2.1 q h1 h2)⟩) hS.2.2 hc2 hs2
  have hg : ∀ w, w ∈ lw_good → vx_ot w = true := fun w h => by unfold vx_ot; rw [lg_good h, Bool.or_true]
  rcases List.mem_cons.mp hw with rfl | hw
  · exact hg _ hk
  rcases List.mem_cons.mp hw with rfl | hw
  · exact hg _ hini
  rcases hat2 w hw with h | h
  · exact hg _ h
  · have h2 := (List.mem_filter.mp h).2
    unfold vx_ot
    cases w with
    | declares x => rfl
    | castable a b => rfl
    | methodLinkNest a9 i9 x9 h9 => rfl
    | _ => cases h2
end NSE
