section
theorem h_callV8 {Z : Zx} {own : String} {cc : ByteArray} {rf rc rs rl k n pc mc ms rf' rl' idx nL' ci : Nat} {L : List (Option Value)} {rest : List Value} {a0 a1 a2 a3 a4 a5 a6 a7 : Value} {μ : Mem} {Post : Option Value → Mem → Prop} {PostX : String → Mem → Prop} {y : MethodName} {bytes : ByteArray} {ret : Option FieldType} {b : Nat} {T : u_T} {N : Nat} (C : Cx Z own cc rf rc rs rl) (hM : Kon Z.l y bytes nL' ret rf' mc ms rl' Z.G (.ref b :: [a0, a1, a2, a3, a4, a5, a6, a7]) μ Post PostX) (cw : CwB own idx y bytes nL' ret 8) (hi : Cond.instanceMethod y ∈ lw_good) (hse : Cond.selects y.cls y y ∈ lw_good) (hc : vwCl[ci]? = some (y.cls, T, N)) (hci : ci < 10) (hk : μ.kd b % 32 = ci + 1) (d : decode cc pc = .ok (.invokevirtual idx, 3)) (hw : (rest.map fun v => v.category).sum ≤ 8) (hf : rf' + 1 ≤ rf) (hlo : 8 + (nL' + 11) + rl' ≤ rl) (hcl : k + mc ≤ rc) (hsl : n + ms ≤ rs)
    (kk : ∀ (v : Option Value) (μ' : Mem), Post v μ' → HW Z (k + mc) (n + ms) (pc + 3) L (v.toList ++ rest) μ') (kx : ∀ (E : String) (μ' : Mem), PostX E μ' → HX Z (k + mc) (n + ms) pc L E μ') : HW Z k n pc L (a7 :: a6 :: a5 :: a4 :: a3 :: a2 :: a1 :: a0 :: .ref b :: rest) μ := h_callV_g (As := [a0, a1, a2, a3, a4, a5, a6, a7]) C hM cw hi hse hc hci hk rfl hw hf hlo hcl hsl d kk kx
theorem my_runS16 {p : Program} {l : Launch} {e : Env} {R : Room} {s : State} {m : MethodId} {args : Array Value} {below : List Frame} {meth : Method} {c : Code} {H : Heap} {locs : List Loc} {cells slots : Nat} {cc : ByteArray} {nL : Nat} {Ts : List Cond} {own : String} {y : MethodName} {ws : List Cond} {rm : Room} {Pc : Array Value → State → Prop} {Qc : Array Value → State → Outcome → State → Prop} {XC : String → State → State → Prop} {mc ms n index maxL : Nat} {free : Addr → Prop} {bytes : ByteArray} {ret : Option FieldType} {As rest : List Value} {g : JFrame} (S : CallFix p m c cc nL s args Ts own) (hM : vx_Met l y ws rm Pc Qc XC mc ms free) (cw : CallB R s args own index y bytes maxL ret ws rm mc ms n ∧ (Cond.static y).before args s = true) (h16 : 16 + (maxL + 11) + rm.locals ≤ R.locals) (hp : PreS s H Pc As)
    (hg : g.method = m) (hn : As.length = n) (hsize : g.locals.size = nL) (hstack : g.stack = As.reverse ++ rest) (hW : 2 * g.monitorRoom + (rest.map fun v => v.category).sum ≤ 16) (hdg : decode cc g.pc = .ok (.invokestatic index, 3)) (hf : cells + mc ≤ R.cells ∧ slots + ms ≤ R.slots) :
    vx_Run p l e R s m args below meth c H locs cells slots mc ms g rest (Qc As.toArray) XC free := by
  have hK : vx_Back l R p e below s args y 3 16 (PreOf R mc ms Pc) (PostOf Qc mc ms free) (vx_Post XC mc ms free) := by
    obtain ⟨hrc, hrs, hfr, hlo, hws, hcw, -, hini, -⟩ := cw.1
    exact vx_back (bytes := bytes) (maxL := maxL) (ret := ret) hM hp.1 hrc hrs hfr h16 hws hcw (fun a' U hW => word_at hW (Or.inl (by first | rfl | simp [Cond.onTables, Cond.keeps, Cond.steady])) hini)
  obtain ⟨⟨-, -, -, -, -, -, hcode, hini, hy, hlen, hl⟩, hstt⟩ := cw
  obtain ⟨hx, hb, hml, ho, -⟩ := S
  intro T hT X
  rcases vx_callS X hx (bytes := bytes) (maxL := maxL) (ret := ret) ho hl hstt hini hcode hy hK hg (hsize.trans hml.symm) (argsL := As) (rest := rest) (fun sig h => hn.trans (hlen sig h)) hstack hW (by rw [hb]; exact hdg)
    (fun vm₁ hW₁ => ⟨hf.1, hf.2, hp.2 (T.setVm vm₁) hT hW₁⟩) with ⟨v, vm₁, ⟨U', l2, c2, s2⟩, hW₁, X', ⟨g', mk, t, L, e1, e2, hq, h1, hL, h2, h3⟩, st⟩ | ⟨q, vm₁, ⟨U', l2, c2, s2⟩, hW₁, X', ⟨g', mk, t, L, E, ce, e1, e2, hq, hce, hcv, hcl, h1, hL, h2, h3⟩, st⟩
  · dsimp only [Pt.U, Pt.locs, Pt.cells, Pt.slots] at X' e1 e2 h1 h2 h3 st
    subst h1; subst h2; subst h3
    exact Or.inl ⟨v, (T.setVm vm₁).calling g' mk As.toArray, t, U', L, hT, X', hL, e1, e2, hq, st⟩
  · dsimp only [Pt.U, Pt.locs, Pt.cells, Pt.slots] at X' e1 e2 h1 h2 h3 st hcl
    subst h1; subst h2; subst h3
    exact Or.inr ⟨q, (T.setVm vm₁).calling g' mk As.toArray, t, U', L, E, ce, hT, X', hL, e1, e2, hq, hce, hcv, vx_cls hW₁ hcl, st⟩
theorem h_callS1w {Z : Zx} {own : String} {cc : ByteArray} {rf rc rs rl k n pc mc ms rf' rl' idx nL' : Nat} {L : List (Option Value)} {rest : List Value} {a0 : Value} {μ : Mem} {Post : Option Value → Mem → Prop} {PostX : String → Mem → Prop} {y : MethodName} {bytes : ByteArray} {ret : Option FieldType}
    (C : Cx Z own cc rf rc rs rl) (hM : Kon Z.l y bytes nL' ret rf' mc ms rl' Z.G [a0] μ Post PostX) (cw : CwB own idx y bytes nL' ret 1) (hi : Cond.static y ∈ lw_good) (hdg : decode cc pc = .ok (.invokestatic idx, 3)) (hw : (rest.map fun v => v.category).sum ≤ 16)
    (hf : rf' + 1 ≤ rf) (hlo : 16 + (nL' + 11) + rl' ≤ rl) (hcl : k + mc ≤ rc) (hsl : n + ms ≤ rs)
    (kk : ∀ (v : Option Value) (μ' : Mem), Post v μ' → HW Z (k + mc) (n + ms) (pc + 3) L (v.toList ++ rest) μ') (kx : ∀ (E : String) (μ' : Mem), PostX E μ' → HX Z (k + mc) (n + ms) pc L E μ') : HW Z k n pc L (a0 :: rest) μ := by
  obtain ⟨p, l, e, R, s, m, args, below, meth, c, G, A, nL, Q⟩ := Z
  have C0 := C
  obtain ⟨hfix, rfl, hK, hE, hA, hst, -⟩ := C
  refine hw_of_run (a := [a0].toArray) kk kx C0 ?_
  intro H locs ls hR hS hl
  exact my_runS16 hfix (hM hst A) ⟨cw.to hfix.2.2.2.2 hf (show 8 + (nL' + 11) + rl' ≤ rl by omega), hfix.2.2.2.2 _ hi⟩ hlo ⟨PcOf.blind, Cx.pcof C0 hR hS⟩ rfl rfl hl.1 rfl (by show 2 * 0 + _ ≤ 16; omega) hdg ⟨hcl, hsl⟩
end
