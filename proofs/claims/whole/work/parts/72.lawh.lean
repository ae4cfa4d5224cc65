section
def ncPairs : List (String × String) := [(xISE, xIAE), (xIOB, xIAE), (xNSE, xIAE), (xIAE, xISE), (xIOB, xISE), (xNSE, xISE), (xIAE, xIOB), (xISE, xIOB), (xNSE, xIOB), (xIAE, xNSE), (xISE, xNSE), (xIOB, xNSE)]
/-- which of the exceptions is none of which -/
def NcX (U : State) : Prop := ∀ q ∈ ncPairs, va_Nc q.1 q.2 U
def NcZ (Z : Zx) : Prop := match Z with
  | (_, _, _, _, s, _, _, _, _, _, _, _, _, _) => NcX s
abbrev Hh : Type := List (Nat × Nat × Nat × Nat)
def TbZ (Z : Zx) (hh : Hh) : Prop := match Z with
  | (_, _, _, _, _, _, _, _, _, c, _, _, _, _) => c.exceptionTable.toList = tableOf hh
def PcOfH (G : Gx) (A : Nat → Prop) (av : List Value) (μ : Mem) : Array Value → State → Prop := fun a U => PcOf G A av μ a U ∧ NcX U
theorem NcX.moved {u U : State} (h : NcX u) (hv : u.vm.Alike U.vm) : NcX U := fun q hq => (h q hq).moved hv
theorem PcOfH.blind {G : Gx} {A : Nat → Prop} {av : List Value} {μ : Mem} : FrameBlind (PcOfH G A av μ) := fun a U g mk ⟨h1, h2⟩ => ⟨PcOf.blind a U g mk h1, h2.moved (U := U.calling g mk a) (Vm.Alike.refl U.vm)⟩
/-- the contract of a method with handlers -/
def KonH (l : Launch) (y : MethodName) (bytes : ByteArray) (nL : Nat) (ret : Option FieldType) (hh : Hh) (rf mc ms rl : Nat) (G : Gx) (av : List Value) (μ : Mem) (Post : Option Value → Mem → Prop) : Prop :=
  l.stackTraces = false → ∀ A : Nat → Prop, vx_Met l y (Cond.codeWith y bytes nL ret hh :: lw_good) { frames := rf, cells := mc, slots := ms, locals := rl } (PcOfH G A av μ) (QcOf G A Post) (XcOf G A noX) mc ms A
theorem KonH.of {l : Launch} {y : MethodName} {bytes : ByteArray} {nL : Nat} {ret : Option FieldType} {hh : Hh} {rf mc ms rl : Nat} {G : Gx} {av : List Value} {μ : Mem} {Post : Option Value → Mem → Prop}
    (hy : plainName y.cls = true) (hn : (lg_sl av).length ≤ nL) (hnp : (pad nL (argL av)).length ≤ nL) (body : ∀ Z : Zx, Z.G = G → Cx Z y.cls bytes rf mc ms rl → Rt Z mc ms ret Post noX → NcZ Z → TbZ Z hh → HW Z 0 0 0 (pad nL (argL av)) [] μ) : KonH l y bytes nL ret hh rf mc ms rl G av μ Post := by
  intro hst A
  refine vx_ofWH (cc := bytes) (maxL := nL) (ret := ret) (hh := hh) hy rfl ?_
  intro p e s m args below meth c s₁ B hml hP
  obtain ⟨⟨rfl, hA, hR, hK, hE⟩, hNc⟩ := hP
  have hts0 : ∀ w ∈ (Cond.codeWith y bytes nL ret hh :: lw_good), w.before av.toArray s = true := fun w hw => atoms_spec (ws := Cond.codeWith y bytes nL ret hh :: lw_good) B.pre w hw
  have hts : ∀ w ∈ lw_good, w.before av.toArray s = true := fun w hw => hts0 w (List.mem_cons_of_mem _ hw)
  have htab : c.exceptionTable.toList = tableOf hh := vx_table (x := y) B (hts0 _ List.mem_cons_self)
  have key := body (p, l, e, { frames := rf, cells := mc, slots := ms, locals := rl }, s, m, av.toArray, below, meth, c, G, A, nL, vx_MQ below (QcOf G A Post) (XcOf G A noX) av.toArray s mc ms A) rfl
    ⟨⟨B.exec, B.bytes, hml, findClass_of_methodNamed B.named, hts⟩, rfl, hK, hE, hA, hst, B.notSynchronized⟩ ⟨rfl, B.returns⟩ hNc htab
  rw [lg_entry_eq]
  have hl := lv_entry av (n := nL) hn
  refine key s.heap [] _ hR va_S.rf ⟨hl.1, hl.2.1, fun i v hi => ?_, hnp⟩
  have h2 : (argL av)[i]? = some (some v) := by
    unfold pad at hi
    by_cases c : i < (argL av).length
    · rw [List.getElem?_append_left c] at hi
      exact hi
    · rw [List.getElem?_append_right (by omega)] at hi
      have := List.eq_of_mem_replicate (List.mem_of_getElem? hi)
      cases this
  have h3 := argL_in av 0 i v h2
  rw [Nat.zero_add] at h3
  exact hl.2.2 (i, v) h3
/-- the tables' words of a static method with handlers -/
def CwH (own : String) (idx : Nat) (y : MethodName) (bytes : ByteArray) (nL : Nat) (ret : Option FieldType) (hh : Hh) (n : Nat) : Prop := y.cls ≠ "java/lang/invoke/MethodHandle" ∧ y.cls ≠ "java/lang/invoke/VarHandle" ∧ (parseMethodDescriptor y.desc).map (fun d => d.parameters.length) = some n ∧ Cond.methodLink own idx y ∈ lw_good ∧ Cond.initialized y.cls ∈ lw_good ∧ Cond.codeWith y bytes nL ret hh ∈ lw_good ∧ Cond.static y ∈ lw_good
theorem CwH.to {own : String} {idx : Nat} {y : MethodName} {bytes : ByteArray} {nL : Nat} {ret : Option FieldType} {hh : Hh} {n rf mc ms rl : Nat} {R : Room} {s : State} {args : Array Value} (h : CwH own idx y bytes nL ret hh n) (hts : ∀ w ∈ lw_good, w.before args s = true) (hf : rf + 1 ≤ R.frames) (hl : 8 + (nL + 11) + rl ≤ R.locals) :
    vx_CSW R s args own idx y bytes nL ret hh (Cond.codeWith y bytes nL ret hh :: lw_good) { frames := rf, cells := mc, slots := ms, locals := rl } mc ms n := by
  obtain ⟨h1, h2, h3, h4, h5, h6, h7⟩ := h
  refine vx_cwSW n hts (lg_goodIn _ (fun w hw => ?_)) rfl rfl rfl ⟨h1, h2, h3⟩ ⟨hf, hl⟩
  unfold va_wsS at hw
  rcases List.mem_append.mp hw with e | e
  · rcases List.mem_cons.mp e with e | e
    · rw [e]; exact h4
    · rcases List.mem_cons.mp e with e | e
      · rw [e]; exact h7
      · rcases List.mem_cons.mp e with e | e
        · rw [e]; exact h5
        · cases e
  · rcases List.mem_cons.mp e with e | e
    · rw [e]; exact h6
    · exact e
theorem h_callH_g {Z : Zx} {own : String} {cc : ByteArray} {rf rc rs rl k n pc mc ms rf' rl' idx nP nL' : Nat} {L : List (Option Value)} {rest As : List Value} {μ : Mem} {Post : Option Value → Mem → Prop} {y : MethodName} {bytes : ByteArray} {ret : Option FieldType} {hh : Hh}
    (C : Cx Z own cc rf rc rs rl) (hN : NcZ Z) (hM : KonH Z.l y bytes nL' ret hh rf' mc ms rl' Z.G As μ Post) (cw : CwH own idx y bytes nL' ret hh nP) (hn : As.length = nP) (hw : (rest.map fun v => v.category).sum ≤ 8)
    (hf : rf' + 1 ≤ rf) (hlo : 8 + (nL' + 11) + rl' ≤ rl) (hcl : k + mc ≤ rc) (hsl : n + ms ≤ rs) (hdg : decode cc pc = .ok (.invokestatic idx, 3))
    (kk : ∀ (v : Option Value) (μ' : Mem), Post v μ' → HW Z (k + mc) (n + ms) (pc + 3) L (v.toList ++ rest) μ') : HW Z k n pc L (As.reverse ++ rest) μ := by
  obtain ⟨p, l, e, R, s, m, args, below, meth, c, G, A, nL, Q⟩ := Z
  have C0 := C
  obtain ⟨hfix, rfl, hK, hE, hA, hst, -⟩ := C
  refine hw_of_run (PostX := noX) (a := As.toArray) kk (fun E μ' h => h.elim) C0 ?_
  intro H locs ls hR hS hl
  exact vx_runSX hfix (hM hst A) (cw.to hfix.2.2.2.2 hf hlo) ⟨PcOfH.blind, fun U hU hW => ⟨Cx.pcof C0 hR hS U hU hW, NcX.moved hN hW.alike⟩⟩ rfl hn hl.1 rfl (lv_room hw) hdg ⟨hcl, hsl⟩
/-- caught: the rows ahead name other classes -/
theorem h_catch {Z : Zx} {cc : ByteArray} {rf rc rs rl k n pc : Nat} {L : List (Option Value)} {E : String} {μ : Mem} {hh : Hh} (C : Cx Z RL cc rf rc rs rl) (hN : NcZ Z) (hT : TbZ Z hh) (h1 : Hh) (x : Nat × Nat × Nat × Nat) (h2 : Hh) (hsplit : hh = h1 ++ x :: h2) (hpre : ∀ z ∈ h1, z.2.2.2 ≠ 0 ∧ ∃ nm : String, Cond.classLink RL z.2.2.2 nm ∈ lw_good ∧ (E, nm) ∈ ncPairs) (hcov : covers ⟨x.1, x.2.1, x.2.2.1, x.2.2.2⟩ pc = true) (h0 : x.2.2.2 ≠ 0) (hl9 : Cond.classLink RL x.2.2.2 E ∈ lw_good) (hc : Cond.castable E E ∈ xW)
    (kk : ∀ q : Nat, HW Z k n x.2.2.1 L [.ref q] μ) : HX Z k n pc L E μ := by
  obtain ⟨p, l, e, R, s, m, args, below, meth, c, G, A, nL, Q⟩ := Z
  obtain ⟨⟨hx, hb, hml, hown, hts⟩, -, hK, -⟩ := C
  intro H locs ls rest q ce hR hS hl hce hcv hcl
  subst hsplit
  have hT : c.exceptionTable.toList = tableOf h1 ++ ⟨x.1, x.2.1, x.2.2.1, x.2.2.2⟩ :: tableOf h2 := by
    have h9 : c.exceptionTable.toList = tableOf (h1 ++ x :: h2) := hT
    rw [h9]
    unfold tableOf
    rw [List.map_append, List.map_cons]
  refine vx_catch (name := E) hown (tableOf h1) ⟨x.1, x.2.1, x.2.2.1, x.2.2.2⟩ (tableOf h2) hT (fun z hz => ?_) hcov h0 (hts _ hl9) (xW_use hc (hK.2.2.2.2.2.2 _ hc)) hce hcv hcl ?_
  · unfold tableOf at hz
    obtain ⟨y, hy, rfl⟩ := List.mem_map.mp hz
    obtain ⟨n1, nm, n2, n3⟩ := hpre y hy
    exact Or.inr ⟨n1, nm, hts _ n2, hN _ n3⟩
  · exact kk q H locs ls hR hS hl
theorem cst_IAE : Cond.castable xIAE xIAE ∈ xW := List.mem_filter.mpr ⟨List.mem_of_getElem? (i := 219) (by decide +kernel), rfl⟩
theorem cst_ISE : Cond.castable xISE xISE ∈ xW := List.mem_filter.mpr ⟨List.mem_of_getElem? (i := 405) (by decide +kernel), rfl⟩
theorem cst_IOB : Cond.castable xIOB xIOB ∈ xW := List.mem_filter.mpr ⟨List.mem_of_getElem? (i := 433) (by decide +kernel), rfl⟩
theorem cst_NSE : Cond.castable xNSE xNSE ∈ xW := List.mem_filter.mpr ⟨List.mem_of_getElem? (i := 573) (by decide +kernel), rfl⟩
theorem lkx_IAE : Cond.classLink RL 13 xIAE ∈ lw_good := lg_2 155 (by decide +kernel) (by decide +kernel)
theorem lkx_ISE : Cond.classLink RL 15 xISE ∈ lw_good := lg_2 156 (by decide +kernel) (by decide +kernel)
theorem lkx_IOB : Cond.classLink RL 21 xIOB ∈ lw_good := lg_2 182 (by decide +kernel) (by decide +kernel)
theorem lkx_NSE : Cond.classLink RL 35 xNSE ∈ lw_good := lg_3 86 (by decide +kernel) (by decide +kernel)
end
