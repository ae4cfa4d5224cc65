section
theorem z_kd_sfi {μ : Mem} {f a : Nat} {v : Int32} : (μ.sfi f a v).kd = μ.kd := rfl
theorem z_kd_sfr {μ : Mem} {f a : Nat} {v : Option Nat} : (μ.sfr f a v).kd = μ.kd := rfl
theorem z_kd_sfl {μ : Mem} {f a : Nat} {v : Int64} : (μ.sfl f a v).kd = μ.kd := rfl
theorem z_kd_sei {μ : Mem} {a i : Nat} {v : Int32} : (μ.sei a i v).kd = μ.kd := rfl
theorem z_kd_ser {μ : Mem} {a i : Nat} {v : Option Nat} : (μ.ser a i v).kd = μ.kd := rfl
theorem z_kd_sel {μ : Mem} {a i : Nat} {v : Int64} : (μ.sel a i v).kd = μ.kd := rfl
theorem z_kd_skd {μ : Mem} {a k b : Nat} : (μ.skd a k).kd b = if b = a then k else μ.kd b := rfl
theorem z_kd_newO {μ : Mem} {a k b : Nat} : (μ.newO a k).kd b = if b = a then k else μ.kd b := rfl
theorem z_kd_newA {μ : Mem} {a k n b : Nat} : (μ.newA a k n).kd b = if b = a then k else μ.kd b := rfl
theorem z_fi_sfi {μ : Mem} {f a g b : Nat} {v : Int32} : (μ.sfi f a v).fi g b = if g = f then (if b = a then v else μ.fi g b) else μ.fi g b := rfl
theorem z_fi_sfr {μ : Mem} {f a : Nat} {v : Option Nat} : (μ.sfr f a v).fi = μ.fi := rfl
theorem z_fi_sfl {μ : Mem} {f a : Nat} {v : Int64} : (μ.sfl f a v).fi = μ.fi := rfl
theorem z_fi_sei {μ : Mem} {a i : Nat} {v : Int32} : (μ.sei a i v).fi = μ.fi := rfl
theorem z_fi_ser {μ : Mem} {a i : Nat} {v : Option Nat} : (μ.ser a i v).fi = μ.fi := rfl
theorem z_fi_sel {μ : Mem} {a i : Nat} {v : Int64} : (μ.sel a i v).fi = μ.fi := rfl
theorem z_fi_skd {μ : Mem} {a k : Nat} : (μ.skd a k).fi = μ.fi := rfl
theorem z_fi_newO {μ : Mem} {a k g b : Nat} : (μ.newO a k).fi g b = if b = a then 0 else μ.fi g b := rfl
theorem z_fi_newA {μ : Mem} {a k n : Nat} : (μ.newA a k n).fi = μ.fi := rfl
theorem z_fr_sfi {μ : Mem} {f a : Nat} {v : Int32} : (μ.sfi f a v).fr = μ.fr := rfl
theorem z_fr_sfr {μ : Mem} {f a g b : Nat} {v : Option Nat} : (μ.sfr f a v).fr g b = if g = f then (if b = a then v else μ.fr g b) else μ.fr g b := rfl
theorem z_fr_sfl {μ : Mem} {f a : Nat} {v : Int64} : (μ.sfl f a v).fr = μ.fr := rfl
theorem z_fr_sei {μ : Mem} {a i : Nat} {v : Int32} : (μ.sei a i v).fr = μ.fr := rfl
theorem z_fr_ser {μ : Mem} {a i : Nat} {v : Option Nat} : (μ.ser a i v).fr = μ.fr := rfl
theorem z_fr_sel {μ : Mem} {a i : Nat} {v : Int64} : (μ.sel a i v).fr = μ.fr := rfl
theorem z_fr_skd {μ : Mem} {a k : Nat} : (μ.skd a k).fr = μ.fr := rfl
theorem z_fr_newO {μ : Mem} {a k g b : Nat} : (μ.newO a k).fr g b = if b = a then none else μ.fr g b := rfl
theorem z_fr_newA {μ : Mem} {a k n : Nat} : (μ.newA a k n).fr = μ.fr := rfl
theorem z_fl_sfi {μ : Mem} {f a : Nat} {v : Int32} : (μ.sfi f a v).fl = μ.fl := rfl
theorem z_fl_sfr {μ : Mem} {f a : Nat} {v : Option Nat} : (μ.sfr f a v).fl = μ.fl := rfl
theorem z_fl_sfl {μ : Mem} {f a g b : Nat} {v : Int64} : (μ.sfl f a v).fl g b = if g = f then (if b = a then v else μ.fl g b) else μ.fl g b := rfl
theorem z_fl_sei {μ : Mem} {a i : Nat} {v : Int32} : (μ.sei a i v).fl = μ.fl := rfl
theorem z_fl_ser {μ : Mem} {a i : Nat} {v : Option Nat} : (μ.ser a i v).fl = μ.fl := rfl
theorem z_fl_sel {μ : Mem} {a i : Nat} {v : Int64} : (μ.sel a i v).fl = μ.fl := rfl
theorem z_fl_skd {μ : Mem} {a k : Nat} : (μ.skd a k).fl = μ.fl := rfl
theorem z_fl_newO {μ : Mem} {a k g b : Nat} : (μ.newO a k).fl g b = if b = a then 0 else μ.fl g b := rfl
theorem z_fl_newA {μ : Mem} {a k n : Nat} : (μ.newA a k n).fl = μ.fl := rfl
theorem z_ln_sfi {μ : Mem} {f a : Nat} {v : Int32} : (μ.sfi f a v).ln = μ.ln := rfl
theorem z_ln_sfr {μ : Mem} {f a : Nat} {v : Option Nat} : (μ.sfr f a v).ln = μ.ln := rfl
theorem z_ln_sfl {μ : Mem} {f a : Nat} {v : Int64} : (μ.sfl f a v).ln = μ.ln := rfl
theorem z_ln_sei {μ : Mem} {a i : Nat} {v : Int32} : (μ.sei a i v).ln = μ.ln := rfl
theorem z_ln_ser {μ : Mem} {a i : Nat} {v : Option Nat} : (μ.ser a i v).ln = μ.ln := rfl
theorem z_ln_sel {μ : Mem} {a i : Nat} {v : Int64} : (μ.sel a i v).ln = μ.ln := rfl
theorem z_ln_skd {μ : Mem} {a k : Nat} : (μ.skd a k).ln = μ.ln := rfl
theorem z_ln_newO {μ : Mem} {a k : Nat} : (μ.newO a k).ln = μ.ln := rfl
theorem z_ln_newA {μ : Mem} {a k n b : Nat} : (μ.newA a k n).ln b = if b = a then n else μ.ln b := rfl
theorem z_ei_sfi {μ : Mem} {f a : Nat} {v : Int32} : (μ.sfi f a v).ei = μ.ei := rfl
theorem z_ei_sfr {μ : Mem} {f a : Nat} {v : Option Nat} : (μ.sfr f a v).ei = μ.ei := rfl
theorem z_ei_sfl {μ : Mem} {f a : Nat} {v : Int64} : (μ.sfl f a v).ei = μ.ei := rfl
theorem z_ei_sei {μ : Mem} {a i b j : Nat} {v : Int32} : (μ.sei a i v).ei b j = if b = a then (if j = i then v else μ.ei b j) else μ.ei b j := rfl
theorem z_ei_ser {μ : Mem} {a i : Nat} {v : Option Nat} : (μ.ser a i v).ei = μ.ei := rfl
theorem z_ei_sel {μ : Mem} {a i : Nat} {v : Int64} : (μ.sel a i v).ei = μ.ei := rfl
theorem z_ei_skd {μ : Mem} {a k : Nat} : (μ.skd a k).ei = μ.ei := rfl
theorem z_ei_newO {μ : Mem} {a k : Nat} : (μ.newO a k).ei = μ.ei := rfl
theorem z_ei_newA {μ : Mem} {a k n b j : Nat} : (μ.newA a k n).ei b j = if b = a then 0 else μ.ei b j := rfl
theorem z_er_sfi {μ : Mem} {f a : Nat} {v : Int32} : (μ.sfi f a v).er = μ.er := rfl
theorem z_er_sfr {μ : Mem} {f a : Nat} {v : Option Nat} : (μ.sfr f a v).er = μ.er := rfl
theorem z_er_sfl {μ : Mem} {f a : Nat} {v : Int64} : (μ.sfl f a v).er = μ.er := rfl
theorem z_er_sei {μ : Mem} {a i : Nat} {v : Int32} : (μ.sei a i v).er = μ.er := rfl
theorem z_er_ser {μ : Mem} {a i b j : Nat} {v : Option Nat} : (μ.ser a i v).er b j = if b = a then (if j = i then v else μ.er b j) else μ.er b j := rfl
theorem z_er_sel {μ : Mem} {a i : Nat} {v : Int64} : (μ.sel a i v).er = μ.er := rfl
theorem z_er_skd {μ : Mem} {a k : Nat} : (μ.skd a k).er = μ.er := rfl
theorem z_er_newO {μ : Mem} {a k : Nat} : (μ.newO a k).er = μ.er := rfl
theorem z_er_newA {μ : Mem} {a k n b j : Nat} : (μ.newA a k n).er b j = if b = a then none else μ.er b j := rfl
theorem z_el_sfi {μ : Mem} {f a : Nat} {v : Int32} : (μ.sfi f a v).el = μ.el := rfl
theorem z_el_sfr {μ : Mem} {f a : Nat} {v : Option Nat} : (μ.sfr f a v).el = μ.el := rfl
theorem z_el_sfl {μ : Mem} {f a : Nat} {v : Int64} : (μ.sfl f a v).el = μ.el := rfl
theorem z_el_sei {μ : Mem} {a i : Nat} {v : Int32} : (μ.sei a i v).el = μ.el := rfl
theorem z_el_ser {μ : Mem} {a i : Nat} {v : Option Nat} : (μ.ser a i v).el = μ.el := rfl
theorem z_el_sel {μ : Mem} {a i b j : Nat} {v : Int64} : (μ.sel a i v).el b j = if b = a then (if j = i then v else μ.el b j) else μ.el b j := rfl
theorem z_el_skd {μ : Mem} {a k : Nat} : (μ.skd a k).el = μ.el := rfl
theorem z_el_newO {μ : Mem} {a k : Nat} : (μ.newO a k).el = μ.el := rfl
theorem z_el_newA {μ : Mem} {a k n b j : Nat} : (μ.newA a k n).el b j = if b = a then 0 else μ.el b j := rfl
theorem ne_ti {x : Int32} (v : Int) (w : Int32) (hw : w.toInt = v) (h : ¬ x = w) : x.toInt ≠ v := fun e => h (Int32.toInt_inj.mp (e.trans hw.symm))
/-! an option's answer, a truth's answer: two ends -/
def pO (P0 : Mem → Prop) (P1 : Nat → Mem → Prop) : Option Value → Mem → Prop := fun v μ' => (v = some .null ∧ P0 μ') ∨ ∃ s : Nat, v = some (.ref s) ∧ P1 s μ'
def pB (P1 P0 : Mem → Prop) : Option Value → Mem → Prop := fun v μ' => (v = some (.int 1) ∧ P1 μ') ∨ (v = some (.int 0) ∧ P0 μ')
def pF (P : UInt32 → Mem → Prop) : Option Value → Mem → Prop := fun v μ' => ∃ r : UInt32, v = some (.float r) ∧ P r μ'
def pD (P : UInt64 → Mem → Prop) : Option Value → Mem → Prop := fun v μ' => ∃ r : UInt64, v = some (.double r) ∧ P r μ'
theorem kO {Z : Zx} {k n pc : Nat} {L : List (Option Value)} {rest : List Value} {P0 : Mem → Prop} {P1 : Nat → Mem → Prop} (h0 : ∀ (μ' : Mem), P0 μ' → HW Z k n pc L (.null :: rest) μ') (h1 : ∀ (s : Nat) (μ' : Mem), P1 s μ' → HW Z k n pc L (.ref s :: rest) μ') : ∀ (v : Option Value) (μ' : Mem), pO P0 P1 v μ' → HW Z k n pc L (v.toList ++ rest) μ' := by
  rintro v μ' (⟨rfl, hp⟩ | ⟨s, rfl, hp⟩)
  · exact h0 μ' hp
  · exact h1 s μ' hp
theorem kB {Z : Zx} {k n pc : Nat} {L : List (Option Value)} {rest : List Value} {P0 P1 : Mem → Prop} (h1 : ∀ (μ' : Mem), P1 μ' → HW Z k n pc L (.int 1 :: rest) μ') (h0 : ∀ (μ' : Mem), P0 μ' → HW Z k n pc L (.int 0 :: rest) μ') : ∀ (v : Option Value) (μ' : Mem), pB P1 P0 v μ' → HW Z k n pc L (v.toList ++ rest) μ' := by
  rintro v μ' (⟨rfl, hp⟩ | ⟨rfl, hp⟩)
  · exact h1 μ' hp
  · exact h0 μ' hp
theorem kF {Z : Zx} {k n pc : Nat} {L : List (Option Value)} {rest : List Value} {P : UInt32 → Mem → Prop} (h : ∀ (r : UInt32) (μ' : Mem), P r μ' → HW Z k n pc L (.float r :: rest) μ') : ∀ (v : Option Value) (μ' : Mem), pF P v μ' → HW Z k n pc L (v.toList ++ rest) μ' := by
  rintro _ μ' ⟨r, rfl, hp⟩
  exact h r μ' hp
theorem kD {Z : Zx} {k n pc : Nat} {L : List (Option Value)} {rest : List Value} {P : UInt64 → Mem → Prop} (h : ∀ (r : UInt64) (μ' : Mem), P r μ' → HW Z k n pc L (.double r :: rest) μ') : ∀ (v : Option Value) (μ' : Mem), pD P v μ' → HW Z k n pc L (v.toList ++ rest) μ' := by
  rintro _ μ' ⟨r, rfl, hp⟩
  exact h r μ' hp

theorem h_i2f {Z : Zx} {own : String} {cc : ByteArray} {rf rc rs rl k n pc : Nat} {L : List (Option Value)} {st : List Value} {μ : Mem} {x : Int32} (C : Cx Z own cc rf rc rs rl) (d : decode cc pc = .ok (.i2f, 1)) (kk : HW Z k n (pc + 1) L (.float (FP.i2f x) :: st) μ) : HW Z k n pc L (.int x :: st) μ := by
  refine HW.go C ?_ kk
  obtain ⟨p, l, e, R, s, m, args, below, meth, c, G, A, nL, Q⟩ := Z
  intro hx hb hown hts H locs ls hl kk
  exact lv_i2f hx hb d (kk ls hl)
theorem h_i2d {Z : Zx} {own : String} {cc : ByteArray} {rf rc rs rl k n pc : Nat} {L : List (Option Value)} {st : List Value} {μ : Mem} {x : Int32} (C : Cx Z own cc rf rc rs rl) (d : decode cc pc = .ok (.i2d, 1)) (kk : HW Z k n (pc + 1) L (.double (FP.i2d x) :: st) μ) : HW Z k n pc L (.int x :: st) μ := by
  refine HW.go C ?_ kk
  obtain ⟨p, l, e, R, s, m, args, below, meth, c, G, A, nL, Q⟩ := Z
  intro hx hb hown hts H locs ls hl kk
  exact lv_i2d hx hb d (kk ls hl)
theorem h_l2d {Z : Zx} {own : String} {cc : ByteArray} {rf rc rs rl k n pc : Nat} {L : List (Option Value)} {st : List Value} {μ : Mem} {x : Int64} (C : Cx Z own cc rf rc rs rl) (d : decode cc pc = .ok (.l2d, 1)) (kk : HW Z k n (pc + 1) L (.double (FP.l2d x) :: st) μ) : HW Z k n pc L (.long x :: st) μ := by
  refine HW.go C ?_ kk
  obtain ⟨p, l, e, R, s, m, args, below, meth, c, G, A, nL, Q⟩ := Z
  intro hx hb hown hts H locs ls hl kk
  exact lv_l2d hx hb d (kk ls hl)
theorem h_f2d {Z : Zx} {own : String} {cc : ByteArray} {rf rc rs rl k n pc : Nat} {L : List (Option Value)} {st : List Value} {μ : Mem} {x : UInt32} (C : Cx Z own cc rf rc rs rl) (d : decode cc pc = .ok (.f2d, 1)) (hne : vf_n64 (FP.f2d x)) (kk : HW Z k n (pc + 1) L (.double (FP.f2d x) :: st) μ) : HW Z k n pc L (.float x :: st) μ := by
  refine HW.go C ?_ kk
  obtain ⟨p, l, e, R, s, m, args, below, meth, c, G, A, nL, Q⟩ := Z
  intro hx hb hown hts H locs ls hl kk
  exact lv_f2d hx hb d hne (kk ls hl)
theorem h_fdiv {Z : Zx} {own : String} {cc : ByteArray} {rf rc rs rl k n pc : Nat} {L : List (Option Value)} {st : List Value} {μ : Mem} {x y : UInt32} (C : Cx Z own cc rf rc rs rl) (d : decode cc pc = .ok (.fdiv, 1)) (hne : vf_n32 (FP.fdiv x y)) (kk : HW Z k n (pc + 1) L (.float (FP.fdiv x y) :: st) μ) : HW Z k n pc L (.float y :: .float x :: st) μ := by
  refine HW.go C ?_ kk
  obtain ⟨p, l, e, R, s, m, args, below, meth, c, G, A, nL, Q⟩ := Z
  intro hx hb hown hts H locs ls hl kk
  exact lv_fdiv hx hb d hne (kk ls hl)
theorem h_ddiv {Z : Zx} {own : String} {cc : ByteArray} {rf rc rs rl k n pc : Nat} {L : List (Option Value)} {st : List Value} {μ : Mem} {x y : UInt64} (C : Cx Z own cc rf rc rs rl) (d : decode cc pc = .ok (.ddiv, 1)) (hne : vf_n64 (FP.ddiv x y)) (kk : HW Z k n (pc + 1) L (.double (FP.ddiv x y) :: st) μ) : HW Z k n pc L (.double y :: .double x :: st) μ := by
  refine HW.go C ?_ kk
  obtain ⟨p, l, e, R, s, m, args, below, meth, c, G, A, nL, Q⟩ := Z
  intro hx hb hown hts H locs ls hl kk
  exact lv_ddiv hx hb d hne (kk ls hl)
theorem h_lookup {Z : Zx} {own : String} {cc : ByteArray} {rf rc rs rl k n pc : Nat} {L : List (Option Value)} {st : List Value} {μ : Mem} {dflt : Int} {ps : Array (Int × Int)} {len : Nat} {x : Int32} {off : Int} {tgt : Nat} (C : Cx Z own cc rf rc rs rl) (d : decode cc pc = .ok (.lookupswitch dflt ps, len)) (hp : (ps.toList.zip (ps.toList.drop 1)).all (fun (a, next) => a.1 < next.1) = true) (ho : Op.lookupswitch.offset ps.toList dflt x.toInt = off) (ht : (pc : Int) + off = (tgt : Int)) (kk : HW Z k n tgt L st μ) : HW Z k n pc L (.int x :: st) μ := by
  refine HW.go C ?_ kk
  obtain ⟨p, l, e, R, s, m, args, below, meth, c, G, A, nL, Q⟩ := Z
  intro hx hb hown hts H locs ls hl kk
  exact lv_lookup hx hb d hp ho ht (kk ls hl)
theorem h_fret {Z : Zx} {own : String} {cc : ByteArray} {rf rc rs rl k n pc mc ms : Nat} {L : List (Option Value)} {μ : Mem} {v : UInt32} {Post : Option Value → Mem → Prop} {PostX : String → Mem → Prop} (C : Cx Z own cc rf rc rs rl) (E : Rt Z mc ms (some .float) Post PostX) (d : decode cc pc = .ok (.freturn, 1)) (h1 : k ≤ mc) (h2 : n ≤ ms) (hp : Post (some (.float v)) μ) : HW Z k n pc L [.float v] μ := by
  obtain ⟨p, l, e, R, s, m, args, below, meth, c, G, A, nL, Q⟩ := Z
  obtain ⟨⟨hx, hb, hml, hown, hts⟩, _, hK, _, _, _, hlocks⟩ := C
  obtain ⟨rfl, hr⟩ := E
  intro H locs ls hR hS hl
  exact vx_ret (W.widen h1 h2 (W.fret hx hb hr (fun t ht hW => ⟨_, μ, rfl, hp, by rw [ht]; exact hR, hS.F ht⟩) hS.2.2 d hlocks))
theorem h_dret {Z : Zx} {own : String} {cc : ByteArray} {rf rc rs rl k n pc mc ms : Nat} {L : List (Option Value)} {μ : Mem} {v : UInt64} {Post : Option Value → Mem → Prop} {PostX : String → Mem → Prop} (C : Cx Z own cc rf rc rs rl) (E : Rt Z mc ms (some .double) Post PostX) (d : decode cc pc = .ok (.dreturn, 1)) (h1 : k ≤ mc) (h2 : n ≤ ms) (hp : Post (some (.double v)) μ) : HW Z k n pc L [.double v] μ := by
  obtain ⟨p, l, e, R, s, m, args, below, meth, c, G, A, nL, Q⟩ := Z
  obtain ⟨⟨hx, hb, hml, hown, hts⟩, _, hK, _, _, _, hlocks⟩ := C
  obtain ⟨rfl, hr⟩ := E
  intro H locs ls hR hS hl
  exact vx_ret (W.widen h1 h2 (W.dret hx hb hr (fun t ht hW => ⟨_, μ, rfl, hp, by rw [ht]; exact hR, hS.F ht⟩) hS.2.2 d hlocks))
/-! a private method of a nest mate: topBits, called from End -/
theorem nest_79 : Cond.methodLinkNest RX0 79 yX8_topBits RX8 ∈ xW := List.mem_filter.mpr ⟨List.mem_of_getElem? (i := 607) (by decide +kernel), rfl⟩
theorem h_callSN2 {Z : Zx} {own host : String} {cc : ByteArray} {rf rc rs rl k n pc mc ms rf' rl' idx nL' : Nat} {L : List (Option Value)} {rest : List Value} {a0 a1 : Value} {μ : Mem} {Post : Option Value → Mem → Prop} {PostX : String → Mem → Prop} {y : MethodName} {bytes : ByteArray} {ret : Option FieldType}
    (C : Cx Z own cc rf rc rs rl) (hM : Kon Z.l y bytes nL' ret rf' mc ms rl' Z.G [a0, a1] μ Post PostX) (hl : Cond.methodLinkNest own idx y host ∈ xW) (h5 : Cond.initialized y.cls ∈ lw_good) (h6 : Cond.code y bytes nL' ret ∈ lw_good) (hd : y.cls ≠ "java/lang/invoke/MethodHandle" ∧ y.cls ≠ "java/lang/invoke/VarHandle" ∧ (parseMethodDescriptor y.desc).map (fun d => d.parameters.length) = some 2) (hi : Cond.static y ∈ lw_good) (hdg : decode cc pc = .ok (.invokestatic idx, 3)) (hw : (rest.map fun v => v.category).sum ≤ 8)
    (hf : rf' + 1 ≤ rf) (hlo : 8 + (nL' + 11) + rl' ≤ rl) (hcl : k + mc ≤ rc) (hsl : n + ms ≤ rs)
    (kk : ∀ (v : Option Value) (μ' : Mem), Post v μ' → HW Z (k + mc) (n + ms) (pc + 3) L (v.toList ++ rest) μ') (kx : ∀ (E : String) (μ' : Mem), PostX E μ' → HX Z (k + mc) (n + ms) pc L E μ') : HW Z k n pc L (a1 :: a0 :: rest) μ := by
  obtain ⟨p, l, e, R, s, m, args, below, meth, c, G, A, nL, Q⟩ := Z
  have C0 := C
  obtain ⟨hfix, rfl, hK, hE, hA, hst, -⟩ := C
  refine hw_of_run (a := [a0, a1].toArray) kk kx C0 ?_
  intro H locs ls hR hS hl9
  exact vx_runSN (host := host) hfix (hM hst A) ⟨va_cnB 2 hfix.2.2.2.2 (lg_goodIn _ (fun w hw => by
    rcases List.mem_cons.mp hw with e | e
    · rw [e]; exact h6
    · exact e)) rfl rfl rfl (hK.2.2.2.2.2.2 _ hl) (hfix.2.2.2.2 _ h5) hd ⟨hf, hlo⟩, hfix.2.2.2.2 _ hi, trivial⟩ ⟨PcOf.blind, Cx.pcof C0 hR hS⟩ rfl rfl hl9.1 rfl (lv_room hw) hdg ⟨hcl, hsl⟩

end
