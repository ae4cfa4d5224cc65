section
/-! new arrays of arrays, of any depth -/
def lpS (a : Addr) (f : State → State) : Nat → State → State
  | 0, s => s
  | i + 1, s => match (f (lpS a f i s)).heap[a]? with
    | some c => (f (lpS a f i s)).setCell a (c.setSlot i (.ref (lpS a f i s).heap.size))
    | none => f (lpS a f i s)
/-- a fresh cell of an array -/
def inC (c : ClassId) (M : Nat) (v : Value) : Cell := { cls := c, slots := Array.replicate M v, vm := .none }
theorem mu_fits {t : FieldType} (h : t.isReference = true) {v : Value} (hv : v = .null ∨ ∃ a, v = .ref a) : fits t v = true := by
  obtain rfl | ⟨a, rfl⟩ := hv
  · cases t <;> first | rfl | (exact absurd h (by decide))
  · cases t <;> first | rfl | (exact absurd h (by decide))
theorem mu_acts {M : Nat} {v : Value} {a : Addr} {acts : List Action} (h : v.isDefault = true) : allocActs (Array.replicate M v) a acts = acts := by
  unfold allocActs
  refine if_pos ?_
  rw [Array.all_replicate]
  split
  · rfl
  · exact h
/-- one array of the model's own making -/
theorem mu_new {E : CtlPost} {e : Env} {d : Bool} {acts : List Action} {T : State} {c comp : ClassId} {k : Class} {t : FieldType} {M : Nat} {v : Value} {Q : Addr → Pre} (hk : T.vm.classes[c]? = some k) (hkind : k.kind = .array comp t) (hl : ¬ M > e.platform.arrayLengthLimit) (hh : ¬ M * componentBytes t > e.platform.maxHeapBytes) (hf : fits t v = true) (hd : v.isDefault = true) (h1 : T.heap.size < e.platform.maxCells) (h2 : T.slotsUsed + M ≤ e.platform.maxSlots) (hq : Q T.heap.size d acts (T.pushCell (inC c M v))) : wp (Jvm.newArray c M v) Q E e d acts T := by
  have hslot : ∀ (i : Nat) (x : Value), (Array.replicate M v)[i]? = some x → T.fitsSlot c .none i x = true := fun i x hx => by
    have hx9 := (Array.getElem?_replicate (n := M) (v := v) (i := i)).symm.trans hx
    by_cases q : i < M
    · rw [if_pos q] at hx9
      cases hx9
      simp [State.fitsSlot, State.slotType?, hk, hkind, hf]
    · rw [if_neg q] at hx9
      cases hx9
  simp only [Jvm.newArray, Jvm.arrayFits, wp_bind', W.ask, W.ite, hl, if_false, wp_pure', W.theClass, hk, hkind, hh, W.alloc, W.stop, Option.some.injEq, exists_eq_left', Array.size_replicate, mu_acts hd]
  rw [if_neg (by omega)]
  exact ⟨h1, h2, hslot, hq⟩
theorem mu_one {E : CtlPost} {e : Env} {d : Bool} {acts : List Action} {T : State} {c comp : ClassId} {k : Class} {t : FieldType} {n : Int32} {Q : Addr → Pre} (hk : T.vm.classes[c]? = some k) (hkind : k.kind = .array comp t) (hn : ¬ n < 0) (hl : ¬ n.toNatClampNeg > e.platform.arrayLengthLimit) (hh : ¬ n.toNatClampNeg * componentBytes t > e.platform.maxHeapBytes) (hf : fits t (defaultValue t) = true) (hd : (defaultValue t).isDefault = true) (h1 : T.heap.size < e.platform.maxCells) (h2 : T.slotsUsed + n.toNatClampNeg ≤ e.platform.maxSlots) (hq : Q T.heap.size d acts (T.pushCell (inC c n.toNatClampNeg (defaultValue t)))) : wp (Op.multianewarray.make c [n]) Q E e d acts T := by
  rw [Op.multianewarray.make]
  simp only [wp_bind', W.ite, hn, if_false, wp_pure', W.theClass, hk, hkind, Option.some.injEq, exists_eq_left']
  exact mu_new hk hkind hl hh hf hd h1 h2 hq
abbrev ndO (c : ClassId) (n : Nat) (s : State) : State := s.pushCell (inC c n .null)
def ndS (c : ClassId) (n : Nat) (f : State → State) (s : State) : State := lpS s.heap.size f n (ndO c n s)
/-- what is there stays; what is new is the model's -/
def Gr (μ μ' : Mem) : Prop := (∀ z, μ.kd z ≠ 0 → SameAt μ μ' z) ∧ ∀ z, μ.kd z = 0 → μ'.kd z = 0 ∨ isMk (μ'.kd z)
theorem Gr.rf {μ : Mem} : Gr μ μ := ⟨fun _ _ => SameAt.rf, fun _ h => Or.inl h⟩
theorem SameAt.tr9 {μ1 μ2 μ3 : Mem} {q : Nat} (h : SameAt μ1 μ2 q) (g : SameAt μ2 μ3 q) : SameAt μ1 μ3 q := by
  obtain ⟨a1, a2, a3, a4, a5, a6, a7, a8⟩ := h
  obtain ⟨b1, b2, b3, b4, b5, b6, b7, b8⟩ := g
  exact ⟨b1.trans a1, fun f => (b2 f).trans (a2 f), fun f => (b3 f).trans (a3 f), fun f => (b4 f).trans (a4 f), b5.trans a5, b6.trans a6, b7.trans a7, b8.trans a8⟩
theorem Gr.tr {μ1 μ2 μ3 : Mem} (h : Gr μ1 μ2) (g : Gr μ2 μ3) : Gr μ1 μ3 := by
  refine ⟨fun z hz => ?_, fun z hz => ?_⟩
  · have s := h.1 z hz
    exact s.tr9 (g.1 z (by rw [s.1]; exact hz))
  · by_cases c : μ2.kd z = 0
    · exact g.2 z c
    · rcases h.2 z hz with h9 | h9
      · exact absurd h9 c
      · exact Or.inr (by rw [(g.1 z c).1]; exact h9)
abbrev Kap := List Nat → Nat
abbrev TrT := Nat → Kap → Nat → Mem → Prop
def trL (n : Nat) : TrT := fun lo κ a μ => lo ≤ a ∧ μ.kd a = κ [] ∧ μ.kd a ≠ 0 ∧ μ.ln a = n ∧ ∀ i, μ.ei a i = 0
def trN (n : Nat) (t : TrT) : TrT := fun lo κ a μ => lo ≤ a ∧ μ.kd a = κ [] ∧ μ.kd a ≠ 0 ∧ μ.ln a = n ∧ ∀ i, i < n → ∃ q, μ.er a i = some q ∧ t lo (fun p => κ (i :: p)) q μ
def okL (b : Nat) (κ : Kap) : Prop := κ [] % 32 = b ∧ isMk (κ [])
def okN (b n : Nat) (o : Kap → Prop) (κ : Kap) : Prop := κ [] % 32 = b ∧ isMk (κ []) ∧ ∀ i, i < n → o (fun p => κ (i :: p))
def trSt (t : TrT) : Prop := ∀ (lo lo' : Nat) (κ : Kap) (a : Nat) (μ μ' : Mem), t lo κ a μ → lo' ≤ lo → (∀ z, lo ≤ z → μ.kd z ≠ 0 → SameAt μ μ' z) → t lo' κ a μ'
theorem trL_st (n : Nat) : trSt (trL n) := fun lo lo' κ a μ μ' h hl hs => by
  obtain ⟨h1, h2, h3, h4, h5⟩ := h
  obtain ⟨s1, -, -, -, s5, s6, -, -⟩ := hs a h1 h3
  exact ⟨by omega, by rw [s1]; exact h2, by rw [s1]; exact h3, by rw [s5]; exact h4, fun i => by rw [s6]; exact h5 i⟩
theorem trN_st (n : Nat) {t : TrT} (ht : trSt t) : trSt (trN n t) := fun lo lo' κ a μ μ' h hl hs => by
  obtain ⟨h1, h2, h3, h4, h5⟩ := h
  obtain ⟨s1, -, -, -, s5, -, s7, -⟩ := hs a h1 h3
  refine ⟨by omega, by rw [s1]; exact h2, by rw [s1]; exact h3, by rw [s5]; exact h4, fun i hi => ?_⟩
  obtain ⟨q, q1, q2⟩ := h5 i hi
  exact ⟨q, by rw [s7]; exact q1, ht _ _ _ _ _ _ q2 hl hs⟩
section
variable {p : Program} {l : Launch} {e : Env} {R : Room} {s : State} {m : MethodId} {args : Array Value} {below : List Frame} {meth : Method} {c : Code}
/-- all that one needs to know of a 'make' -/
def MKP (p : Program) (l : Launch) (e : Env) (R : Room) (s : State) (m : MethodId) (args : Array Value) (below : List Frame) (meth : Method) (c : Code) (G : Gx) (A : Nat → Prop) (VM : Vm) (c9 : ClassId) (cs : List Int32) (f : State → State) (nc ns : Nat) (ok : Kap → Prop) (tr : TrT) : Prop :=
  (∀ T : State, (f T).vm = T.vm ∧ (f T).heap.size = T.heap.size + nc ∧ (f T).slotsUsed = T.slotsUsed + ns ∧ ∀ q, q < T.heap.size → (f T).heap[q]? = T.heap[q]?) ∧
  (∀ (T : State) (g : JFrame), f (T.setTop g) = (f T).setTop g) ∧
  (∀ (E : CtlPost) (d : Bool) (acts : List Action) (T : State) (Q : Addr → Pre), T.vm = VM → T.heap.size + nc ≤ e.platform.maxCells → T.slotsUsed + ns ≤ e.platform.maxSlots → (∀ d' acts', Q T.heap.size d' acts' (f T)) → wp (Op.multianewarray.make c9 cs) Q E e d acts T) ∧
  (∀ (T : State) (locs : List Loc) (cells slots : Nat), Stand p l e R s m args below meth c T locs cells slots → ∃ L : List Loc, (∀ x ∈ L, T.heap.size ≤ x.base) ∧ Stand p l e R s m args below meth c (f T) (locs ++ L) (cells + nc) (slots + ns)) ∧
  (∀ (T : State) (μ : Mem) (κ : Kap), ok κ → RepH G A μ T.heap → (∀ q, T.heap.size ≤ q → A q) → ∃ μ', RepH G A μ' (f T).heap ∧ Gr μ μ' ∧ tr T.heap.size κ T.heap.size μ') ∧
  (trSt tr)
theorem MKP.fr {G : Gx} {A : Nat → Prop} {VM : Vm} {c9 : ClassId} {cs : List Int32} {f : State → State} {nc ns : Nat} {ok : Kap → Prop} {tr : TrT} (h : MKP p l e R s m args below meth c G A VM c9 cs f nc ns ok tr) : ∀ T : State, (f T).vm = T.vm ∧ (f T).heap.size = T.heap.size + nc ∧ (f T).slotsUsed = T.slotsUsed + ns ∧ ∀ q, q < T.heap.size → (f T).heap[q]? = T.heap[q]? := h.1
theorem MKP.top {G : Gx} {A : Nat → Prop} {VM : Vm} {c9 : ClassId} {cs : List Int32} {f : State → State} {nc ns : Nat} {ok : Kap → Prop} {tr : TrT} (h : MKP p l e R s m args below meth c G A VM c9 cs f nc ns ok tr) : ∀ (T : State) (g : JFrame), f (T.setTop g) = (f T).setTop g := h.2.1
theorem MKP.mk {G : Gx} {A : Nat → Prop} {VM : Vm} {c9 : ClassId} {cs : List Int32} {f : State → State} {nc ns : Nat} {ok : Kap → Prop} {tr : TrT} (h : MKP p l e R s m args below meth c G A VM c9 cs f nc ns ok tr) : ∀ (E : CtlPost) (d : Bool) (acts : List Action) (T : State) (Q : Addr → Pre), T.vm = VM → T.heap.size + nc ≤ e.platform.maxCells → T.slotsUsed + ns ≤ e.platform.maxSlots → (∀ d' acts', Q T.heap.size d' acts' (f T)) → wp (Op.multianewarray.make c9 cs) Q E e d acts T := h.2.2.1
theorem MKP.st {G : Gx} {A : Nat → Prop} {VM : Vm} {c9 : ClassId} {cs : List Int32} {f : State → State} {nc ns : Nat} {ok : Kap → Prop} {tr : TrT} (h : MKP p l e R s m args below meth c G A VM c9 cs f nc ns ok tr) : ∀ (T : State) (locs : List Loc) (cells slots : Nat), Stand p l e R s m args below meth c T locs cells slots → ∃ L : List Loc, (∀ x ∈ L, T.heap.size ≤ x.base) ∧ Stand p l e R s m args below meth c (f T) (locs ++ L) (cells + nc) (slots + ns) := h.2.2.2.1
theorem MKP.mem {G : Gx} {A : Nat → Prop} {VM : Vm} {c9 : ClassId} {cs : List Int32} {f : State → State} {nc ns : Nat} {ok : Kap → Prop} {tr : TrT} (h : MKP p l e R s m args below meth c G A VM c9 cs f nc ns ok tr) : ∀ (T : State) (μ : Mem) (κ : Kap), ok κ → RepH G A μ T.heap → (∀ q, T.heap.size ≤ q → A q) → ∃ μ', RepH G A μ' (f T).heap ∧ Gr μ μ' ∧ tr T.heap.size κ T.heap.size μ' := h.2.2.2.2.1
theorem MKP.tst {G : Gx} {A : Nat → Prop} {VM : Vm} {c9 : ClassId} {cs : List Int32} {f : State → State} {nc ns : Nat} {ok : Kap → Prop} {tr : TrT} (h : MKP p l e R s m args below meth c G A VM c9 cs f nc ns ok tr) : trSt tr := h.2.2.2.2.2
theorem mkp_leaf {G : Gx} {A : Nat → Prop} {VM : Vm} {b : Nat} {kc : Class} {cc : ClassId} {ty : FieldType} {n : Int32} (hb : b = 11 ∨ b = 12) (hkc : VM.classes[G.2.1 b]? = some kc) (hkind : kc.kind = .array cc ty) (hn : ¬ n < 0) (hl2 : ¬ n.toNatClampNeg > e.platform.arrayLengthLimit) (hh2 : ¬ n.toNatClampNeg * componentBytes ty > e.platform.maxHeapBytes) (hdv : defaultValue ty = .int 0) (hdf : fits ty (defaultValue ty) = true) :
    MKP p l e R s m args below meth c G A VM (G.2.1 b) [n] (fun T => T.pushCell (inC (G.2.1 b) n.toNatClampNeg (defaultValue ty))) 1 n.toNatClampNeg (okL b) (trL n.toNatClampNeg) := by
  refine ⟨fun T => ⟨rfl, by simp, by simp [inC], fun q hq => State.heap_pushCell_of_lt _ _ hq⟩, fun T g => rfl, fun E d acts T Q hv h1 h2 hq => mu_one (by rw [hv]; exact hkc) hkind hn hl2 hh2 hdf (by rw [hdv]; rfl) (by omega) h2 (hq _ _), fun T locs cells slots X => ⟨[], fun x hx => absurd hx (by simp), ?_⟩, fun T μ κ hk hR hA => ?_, trL_st _⟩
  · have h := X.pushed (inC (G.2.1 b) n.toNatClampNeg (defaultValue ty))
    rw [show (inC (G.2.1 b) n.toNatClampNeg (defaultValue ty)).slots.size = n.toNatClampNeg from by simp [inC]] at h
    rw [List.append_nil]
    exact h
  · have hz : μ.kd T.heap.size = 0 := hR.fresh (Nat.le_refl _)
    refine ⟨μ.newA T.heap.size (κ []) n.toNatClampNeg, hR.upd (a := T.heap.size) (fun q hq => same_newA hq) (fun q _ hlt => State.heap_pushCell_of_lt _ _ hlt) (hA _ (Nat.le_refl _)) (cell_newA (by rw [hk.1]; omega) ?_), ⟨fun z h => same_newA (fun q => h (by rw [q]; exact hz)), fun z h => ?_⟩, Nat.le_refl _, kd_newA, ?_, ln_newA, fun i => ?_⟩
    · show (T.pushCell _).heap[T.heap.size]? = _
      rw [State.heap_pushCell_size, hk.1]
      unfold inC
      rw [arrV_new, hdv]
      congr 2
      funext i
      rw [if_pos (by omega)]
    · by_cases c9 : z = T.heap.size
      · exact Or.inr (by rw [c9, kd_newA]; exact hk.2)
      · exact Or.inl (by rw [(same_newA c9).1]; exact h)
    · rw [kd_newA]
      have := hk.1
      omega
    · rw [z_ei_newA, if_pos rfl]
theorem lp_eq {G : Gx} {A : Nat → Prop} {VM : Vm} {c9 : ClassId} {cs : List Int32} {f : State → State} {nc ns : Nat} {ok : Kap → Prop} {tr : TrT} (h : MKP p l e R s m args below meth c G A VM c9 cs f nc ns ok tr) {T1 : State} {a i : Nat} {cell : Cell} (ha : a < (lpS a f i T1).heap.size) (hc : (lpS a f i T1).heap[a]? = some cell) : lpS a f (i + 1) T1 = (f (lpS a f i T1)).setCell a (cell.setSlot i (.ref (lpS a f i T1).heap.size)) := by
  show (match (f (lpS a f i T1)).heap[a]? with
    | some c => (f (lpS a f i T1)).setCell a (c.setSlot i (.ref (lpS a f i T1).heap.size))
    | none => f (lpS a f i T1)) = _
  rw [(h.fr _).2.2.2 a ha, hc]
theorem lp_fr {G : Gx} {A : Nat → Prop} {VM : Vm} {c9 : ClassId} {cs : List Int32} {f : State → State} {nc ns : Nat} {ok : Kap → Prop} {tr : TrT} (h : MKP p l e R s m args below meth c G A VM c9 cs f nc ns ok tr) {T1 : State} {a N : Nat} {k9 : ClassId} (ha : a < T1.heap.size) (hc : ∃ cell, T1.heap[a]? = some cell ∧ cell.cls = k9 ∧ cell.vm = .none ∧ cell.slots.size = N) : ∀ i : Nat, (lpS a f i T1).vm = T1.vm ∧ (lpS a f i T1).heap.size = T1.heap.size + i * nc ∧ (lpS a f i T1).slotsUsed = T1.slotsUsed + i * ns ∧ (∀ q, q < T1.heap.size → q ≠ a → (lpS a f i T1).heap[q]? = T1.heap[q]?) ∧ ∃ cell, (lpS a f i T1).heap[a]? = some cell ∧ cell.cls = k9 ∧ cell.vm = .none ∧ cell.slots.size = N := by
  intro i
  induction i with
  | zero => exact ⟨rfl, by rw [Nat.zero_mul]; rfl, by rw [Nat.zero_mul]; rfl, fun q _ _ => rfl, hc⟩
  | succ i ih =>
    obtain ⟨g1, g2, g3, g4, cell, g5, g6, g7, g8⟩ := ih
    have ha2 : a < (lpS a f i T1).heap.size := by rw [g2]; omega
    obtain ⟨f1, f2, f3, f4⟩ := h.fr (lpS a f i T1)
    rw [lp_eq h ha2 g5, Nat.succ_mul, Nat.succ_mul]
    refine ⟨by rw [State.vm_setCell, f1, g1], ?_, ?_, fun q hq hne => ?_, cell.setSlot i (.ref (lpS a f i T1).heap.size), State.heap_setCell_self (by rw [f4 _ ha2]; exact g5), by simpa [Cell.setSlot] using g6, by simpa [Cell.setSlot] using g7, by simpa [Cell.setSlot] using g8⟩
    · simp [State.setCell, f2, g2]
      omega
    · simp [State.setCell, f3, g3]
      omega
    · rw [State.heap_setCell_other (Ne.symm hne), f4 _ (by rw [g2]; omega), g4 q hq hne]
theorem lp_top {G : Gx} {A : Nat → Prop} {VM : Vm} {c9 : ClassId} {cs : List Int32} {f : State → State} {nc ns : Nat} {ok : Kap → Prop} {tr : TrT} (h : MKP p l e R s m args below meth c G A VM c9 cs f nc ns ok tr) {g : JFrame} {a : Nat} : ∀ (i : Nat) (T : State), lpS a f i (T.setTop g) = (lpS a f i T).setTop g := by
  intro i
  induction i with
  | zero => intro T; rfl
  | succ i ih =>
    intro T
    unfold lpS
    rw [ih, h.top, State.heap_setTop, State.heap_setTop]
    split <;> rfl
theorem ndO_cell {c9 : ClassId} {N : Nat} {T : State} : ∃ cell, (ndO c9 N T).heap[T.heap.size]? = some cell ∧ cell.cls = c9 ∧ cell.vm = .none ∧ cell.slots.size = N := ⟨inC c9 N .null, State.heap_pushCell_size _ _, rfl, rfl, by simp [inC]⟩
theorem ndO_size {c9 : ClassId} {N : Nat} {T : State} : (ndO c9 N T).heap.size = T.heap.size + 1 := by simp
theorem ndO_used {c9 : ClassId} {N : Nat} {T : State} : (ndO c9 N T).slotsUsed = T.slotsUsed + N := by simp [inC]
theorem mkp_node {G : Gx} {A : Nat → Prop} {VM : Vm} {comp : ClassId} {m0 : Int32} {ms : List Int32} {f : State → State} {nc ns : Nat} {ok : Kap → Prop} {tr : TrT} (h : MKP p l e R s m args below meth c G A VM comp (m0 :: ms) f nc ns ok tr) {b : Nat} {k : Class} {t0 : FieldType} {n : Int32} (hb : 13 < b) (hk : VM.classes[G.2.1 b]? = some k) (hkind : k.kind = .array comp t0) (href : t0.isReference = true) (hn : ¬ n < 0) (hl1 : ¬ n.toNatClampNeg > e.platform.arrayLengthLimit) (hh1 : ¬ n.toNatClampNeg * componentBytes t0 > e.platform.maxHeapBytes) (hneg : (m0 :: ms).find? (· < 0) = none) :
    MKP p l e R s m args below meth c G A VM (G.2.1 b) (n :: m0 :: ms) (ndS (G.2.1 b) n.toNatClampNeg f) (1 + n.toNatClampNeg * nc) (n.toNatClampNeg + n.toNatClampNeg * ns) (okN b n.toNatClampNeg ok) (trN n.toNatClampNeg tr) := by
  have hF := fun (T : State) => lp_fr h (T1 := ndO (G.2.1 b) n.toNatClampNeg T) (a := T.heap.size) (by rw [ndO_size]; omega) ndO_cell
  refine ⟨fun T => ?_, fun T g => ?_, fun E d acts T Q hv h1 h2 hq => ?_, fun T locs cells slots X => ?_, fun T μ κ hκ hR hA => ?_, trN_st _ h.tst⟩
  · obtain ⟨g1, g2, g3, g4, -⟩ := hF T n.toNatClampNeg
    rw [ndO_size] at g2
    rw [ndO_used] at g3
    exact ⟨g1, by show (lpS _ _ _ _).heap.size = _; rw [g2]; omega, by show (lpS _ _ _ _).slotsUsed = _; rw [g3]; omega, fun q hq => (g4 q (by rw [ndO_size]; omega) (by omega)).trans (State.heap_pushCell_of_lt _ _ hq)⟩
  · show lpS _ f _ ((ndO _ _ T).setTop g) = _
    exact lp_top h _ _
  · have hkT : T.vm.classes[G.2.1 b]? = some k := by rw [hv]; exact hk
    rw [Op.multianewarray.make]
    simp only [wp_bind', W.ite, hn, if_false, wp_pure', W.theClass, hkT, hkind, Option.some.injEq, exists_eq_left']
    refine mu_new hkT hkind hl1 hh1 (mu_fits href (Or.inl rfl)) rfl (by omega) (by have := Nat.zero_le (n.toNatClampNeg * ns); omega) ?_
    simp only [hneg]
    rw [ite_self, wp_bind', Std.Legacy.Range.forIn_eq_forIn_range']
    have hsz : ([:n.toNatClampNeg] : Std.Legacy.Range).size = n.toNatClampNeg := by simp [Std.Legacy.Range.size]
    rw [hsz]
    show wp (forIn (List.range' 0 n.toNatClampNeg 1) PUnit.unit _) _ E e d acts _
    refine wp_forIn_inv (fun rest s' => ∃ i, i ≤ n.toNatClampNeg ∧ rest = List.range' i (n.toNatClampNeg - i) ∧ s' = lpS T.heap.size f i (ndO (G.2.1 b) n.toNatClampNeg T)) _ _ ⟨0, Nat.zero_le _, rfl, rfl⟩ ?_ ?_
    · rintro x rest s' d' acts' Q' ⟨i, hi, hl, rfl⟩ hnext
      have hlt : i < n.toNatClampNeg := by
        rcases Nat.lt_or_ge i n.toNatClampNeg with h9 | h9
        · exact h9
        · rw [show n.toNatClampNeg - i = 0 from by omega] at hl
          simp at hl
      obtain ⟨rfl, hrest⟩ : x = i ∧ rest = List.range' (i + 1) (n.toNatClampNeg - (i + 1)) := by
        rw [show n.toNatClampNeg - i = (n.toNatClampNeg - (i + 1)) + 1 from by omega, List.range'_succ] at hl
        exact ⟨(List.cons.inj hl).1, (List.cons.inj hl).2⟩
      obtain ⟨g1, g2, g3, g4, cell, g5, g6, g7, g8⟩ := hF T x
      rw [ndO_size] at g2
      rw [ndO_used] at g3
      have hm1 : x * nc + nc ≤ n.toNatClampNeg * nc := by
        have := Nat.mul_le_mul_right nc (show x + 1 ≤ n.toNatClampNeg from hlt)
        rw [Nat.succ_mul] at this
        exact this
      have hm2 : x * ns + ns ≤ n.toNatClampNeg * ns := by
        have := Nat.mul_le_mul_right ns (show x + 1 ≤ n.toNatClampNeg from hlt)
        rw [Nat.succ_mul] at this
        exact this
      have ha2 : T.heap.size < (lpS T.heap.size f x (ndO (G.2.1 b) n.toNatClampNeg T)).heap.size := by rw [g2]; omega
      have hvm : (lpS T.heap.size f x (ndO (G.2.1 b) n.toNatClampNeg T)).vm = T.vm := g1
      simp only [wp_bind']
      refine h.mk _ _ _ _ _ (hvm.trans hv) (by rw [g2]; omega) (by rw [g3]; omega) (fun d2 acts2 => ?_)
      obtain ⟨f1, f2, f3, f4⟩ := h.fr (lpS T.heap.size f x (ndO (G.2.1 b) n.toNatClampNeg T))
      simp only [wp_bind', W.writeLoc, wp_pure']
      refine ⟨cell, (f4 _ ha2).trans g5, by rw [g7]; simp, by rw [g8]; exact hlt, ?_, hnext _ _ _ ⟨x + 1, hlt, hrest, (lp_eq h ha2 g5).symm⟩⟩
      rw [g6, g7]
      simp [State.fitsSlot, State.slotType?, f1, hvm, hkT, hkind, mu_fits href (Or.inr ⟨_, rfl⟩)]
    · rintro s' d' acts' ⟨i, hi, hl, rfl⟩
      have hiN : i = n.toNatClampNeg := by
        rcases Nat.lt_or_ge i n.toNatClampNeg with h9 | h9
        · rw [show n.toNatClampNeg - i = (n.toNatClampNeg - (i + 1)) + 1 from by omega, List.range'_succ] at hl
          cases hl
        · omega
      subst hiN
      simp only [wp_pure']
      exact hq _ _
  · have key : ∀ i : Nat, ∃ L : List Loc, (∀ x ∈ L, T.heap.size ≤ x.base) ∧ Stand p l e R s m args below meth c (lpS T.heap.size f i (ndO (G.2.1 b) n.toNatClampNeg T)) (locs ++ L) (cells + 1 + i * nc) (slots + n.toNatClampNeg + i * ns) := by
      intro i
      induction i with
      | zero =>
        refine ⟨[], fun x hx => absurd hx (by simp), ?_⟩
        have h9 := X.pushed (inC (G.2.1 b) n.toNatClampNeg .null)
        rw [show (inC (G.2.1 b) n.toNatClampNeg .null).slots.size = n.toNatClampNeg from by simp [inC]] at h9
        rw [List.append_nil, Nat.zero_mul, Nat.zero_mul]
        exact h9
      | succ i ih =>
        obtain ⟨L, l1, l2⟩ := ih
        obtain ⟨g1, g2, g3, g4, cell, g5, g6, g7, g8⟩ := hF T i
        rw [ndO_size] at g2
        have ha2 : T.heap.size < (lpS T.heap.size f i (ndO (G.2.1 b) n.toNatClampNeg T)).heap.size := by rw [g2]; omega
        obtain ⟨L2, l3, l4⟩ := h.st _ _ _ _ l2
        have h9 := l4.stored (((h.fr _).2.2.2 _ ha2).trans g5) i (.ref (lpS T.heap.size f i (ndO (G.2.1 b) n.toNatClampNeg T)).heap.size)
        refine ⟨L ++ (L2 ++ [⟨T.heap.size, i⟩]), fun x hx => ?_, ?_⟩
        · rcases List.mem_append.mp hx with hx | hx
          · exact l1 x hx
          · rcases List.mem_append.mp hx with hx | hx
            · exact Nat.le_trans (Nat.le_of_lt ha2) (l3 x hx)
            · rw [List.mem_singleton.mp hx]
              exact Nat.le_refl _
        · rw [lp_eq h ha2 g5, ← List.append_assoc, ← List.append_assoc, Nat.succ_mul, Nat.succ_mul, ← Nat.add_assoc, ← Nat.add_assoc]
          exact h9
    obtain ⟨L, l1, l2⟩ := key n.toNatClampNeg
    refine ⟨L, l1, ?_⟩
    rw [← Nat.add_assoc, ← Nat.add_assoc]
    exact l2
  · have hz : μ.kd T.heap.size = 0 := hR.fresh (Nat.le_refl _)
    have key : ∀ i : Nat, i ≤ n.toNatClampNeg → ∃ μ', RepH G A μ' (lpS T.heap.size f i (ndO (G.2.1 b) n.toNatClampNeg T)).heap ∧ Gr μ μ' ∧ μ'.kd T.heap.size = κ [] ∧ μ'.ln T.heap.size = n.toNatClampNeg ∧ ∀ j, j < i → ∃ q, μ'.er T.heap.size j = some q ∧ tr (T.heap.size + 1) (fun p => κ (j :: p)) q μ' := by
      intro i
      induction i with
      | zero =>
        intro hi
        refine ⟨μ.newA T.heap.size (κ []) n.toNatClampNeg, hR.upd (a := T.heap.size) (fun q hq => same_newA hq) (fun q _ hlt => State.heap_pushCell_of_lt _ _ hlt) (hA _ (Nat.le_refl _)) (cell_newA (by rw [hκ.1]; omega) ?_), ⟨fun z h => same_newA (fun q => h (by rw [q]; exact hz)), fun z h => ?_⟩, kd_newA, ln_newA, fun j hj => absurd hj (Nat.not_lt_zero _)⟩
        · show (T.pushCell _).heap[T.heap.size]? = _
          rw [State.heap_pushCell_size, hκ.1]
          unfold inC
          rw [arrV_new]
          congr 2
          funext i
          rw [if_neg (by omega), if_neg (by omega)]
        · by_cases c9 : z = T.heap.size
          · exact Or.inr (by rw [c9, kd_newA]; exact hκ.2.1)
          · exact Or.inl (by rw [(same_newA c9).1]; exact h)
      | succ i ih =>
        intro hi
        obtain ⟨μ1, r1, r2, r3, r4, r5⟩ := ih (by omega)
        obtain ⟨g1, g2, g3, g4, cell, g5, g6, g7, g8⟩ := hF T i
        rw [ndO_size] at g2
        have ha2 : T.heap.size < (lpS T.heap.size f i (ndO (G.2.1 b) n.toNatClampNeg T)).heap.size := by rw [g2]; omega
        obtain ⟨μ2, q1, q2, q3⟩ := h.mem _ μ1 (fun p => κ (i :: p)) (hκ.2.2 i hi) r1 (fun q hq => hA q (by omega))
        have hkb : κ [] % 32 = b := hκ.1
        have k1 : μ1.kd T.heap.size ≠ 0 := by rw [r3]; omega
        have sA := q2.1 _ k1
        have k2 : μ2.kd T.heap.size = κ [] := sA.1.trans r3
        have hcell := q1.arr (a := T.heap.size) (b := b) (by rw [k2]; exact hkb) (by omega)
        have hcell2 : (lpS T.heap.size f i (ndO (G.2.1 b) n.toNatClampNeg T)).heap[T.heap.size]? = some (arrV (G.2.1 b) (μ2.ln T.heap.size) (aval μ2 b T.heap.size)) := ((h.fr _).2.2.2 _ ha2).symm.trans hcell
        cases g5.symm.trans hcell2
        have hdead : ∀ z, T.heap.size + 1 ≤ z → SameAt μ2 (μ2.ser T.heap.size i (some (lpS T.heap.size f i (ndO (G.2.1 b) n.toNatClampNeg T)).heap.size)) z := fun z hz9 => same_ser (by omega)
        refine ⟨μ2.ser T.heap.size i (some (lpS T.heap.size f i (ndO (G.2.1 b) n.toNatClampNeg T)).heap.size), ?_, ?_, k2, sA.2.2.2.2.1.trans r4, fun j hj => ?_⟩
        · rw [lp_eq h ha2 g5]
          refine q1.upd (a := T.heap.size) (fun q hq => same_ser hq) (fun q hq _ => State.heap_setCell_other (Ne.symm hq)) (hA _ (Nat.le_refl _)) ?_
          unfold cellAt
          show (if μ2.kd T.heap.size % 32 ≤ 10 then _ else ((f _).setCell _ _).heap[T.heap.size]? = some (arrV (G.2.1 (μ2.kd T.heap.size % 32)) (μ2.ln T.heap.size) (aval (μ2.ser T.heap.size i (some (lpS T.heap.size f i (ndO (G.2.1 b) n.toNatClampNeg T)).heap.size)) (μ2.kd T.heap.size % 32) T.heap.size)))
          rw [k2, hkb, if_neg (by omega), State.heap_setCell_self hcell, arrV_store]
          congr 2
          funext q
          have e9 : (μ2.ser T.heap.size i (some (lpS T.heap.size f i (ndO (G.2.1 b) n.toNatClampNeg T)).heap.size)).er T.heap.size q = if q = i then some (lpS T.heap.size f i (ndO (G.2.1 b) n.toNatClampNeg T)).heap.size else μ2.er T.heap.size q := by
            show u2 μ2.er T.heap.size i _ T.heap.size q = _
            unfold u2
            rw [if_pos rfl]
          rw [aval_r hb, e9]
          unfold updV
          by_cases hq : q = i
          · rw [if_pos hq, if_pos hq]
            rfl
          · rw [if_neg hq, if_neg hq, aval_r hb]
        · refine ⟨fun z hz9 => ?_, fun z hz9 => ?_⟩
          · have s1 := r2.1 z hz9
            have s2 := q2.1 z (by rw [s1.1]; exact hz9)
            exact (s1.tr9 s2).tr9 (same_ser (fun q => hz9 (by rw [q]; exact hz)))
          · exact (r2.tr q2).2 z hz9
        · by_cases hji : j = i
          · subst hji
            refine ⟨_, u2_eq, h.tst _ _ _ _ _ _ q3 (by omega) (fun z hz9 _ => hdead z (by omega))⟩
          · obtain ⟨q, t1, t2⟩ := r5 j (by omega)
            have t3 := h.tst _ _ _ _ _ _ t2 (Nat.le_refl _) (fun z hz9 hk9 => (q2.1 z hk9).tr9 (hdead z hz9))
            refine ⟨q, ?_, t3⟩
            show u2 μ2.er T.heap.size i _ T.heap.size j = _
            unfold u2
            rw [if_pos rfl, if_neg hji, sA.2.2.2.2.2.2.1]
            exact t1
    obtain ⟨μ', r1, r2, r3, r4, r5⟩ := key n.toNatClampNeg (Nat.le_refl _)
    refine ⟨μ', r1, r2, Nat.le_refl _, r3, by rw [r3]; have := hκ.1; omega, r4, fun i hi => ?_⟩
    obtain ⟨q, t1, t2⟩ := r5 i hi
    exact ⟨q, t1, h.tst _ _ _ _ _ _ t2 (Nat.le_succ _) (fun _ _ _ => SameAt.rf)⟩
theorem wp_mapM_int {E : CtlPost} {e : Env} {d : Bool} {acts : List Action} {s : State} (g : Value → Sem Int32) (hg : ∀ n, g (.int n) = Pure.pure n) : ∀ (ds : List Int32) (Q : List Int32 → Pre), wp ((ds.map Value.int).mapM g) Q E e d acts s ↔ Q ds d acts s := by
  intro ds
  induction ds with
  | nil => intro Q; simp only [List.map_nil, List.mapM_nil, wp_pure']
  | cons x ds ih => intro Q; simp only [List.map_cons, List.mapM_cons, hg, wp_bind', wp_pure', ih]
end
theorem arK1 {G : Gx} {s : State} (hK : KX G s) {b : Nat} (hb : b = 11 ∨ b = 12) : ∃ k comp, s.vm.classes[G.2.1 b]? = some k ∧ k.kind = .array comp (tyA b) := by
  obtain ⟨-, kA, h1, comp, h2⟩ := tyAt hK.1 (b := b) (by omega) (by omega) 0 (fun _ => .null)
  exact ⟨kA, comp, h1, h2⟩
theorem ao_spec9 {U : State} {t : FieldType} {A : Array Value} (h : (Cond.arrayOver (.array t)).before A U = true) : ∃ (comp c : ClassId) (k : Class), U.vm.findClass (FieldType.array t).toString = some comp ∧ U.vm.classes[c]? = some k ∧ k.kind = .array comp (.array t) ∧ U.vm.findClass ("[" ++ (FieldType.array t).toString) = some c := by
  unfold Cond.before Cond.holds at h
  simp only [Cond.value, beq_iff_eq] at h
  cases hc : U.vm.findClass (FieldType.array t).toString with
  | none => simp [hc] at h
  | some comp =>
    simp only [hc, Option.bind_some, Option.bind_eq_some_iff, Option.map_eq_some_iff] at h
    obtain ⟨c, hi, k, hk, hb⟩ := h
    obtain ⟨hlt, hp, -⟩ := Array.findIdx?_eq_some_iff_getElem.mp hi
    have hkk : U.vm.classes[c] = k := (Array.getElem?_eq_some_iff.mp hk).2
    rw [hkk] at hp
    cases hkind : k.kind with
    | array component ty =>
      rw [hkind] at hb hp
      simp at hb hp
      exact ⟨comp, c, k, rfl, hk, by rw [hkind, hp, hb.1], hb.2⟩
    | _ => rw [hkind] at hb; simp at hb
theorem arK2 {G : Gx} {s : State} (hK : KX G s) {i j b b' : Nat} {t : FieldType} (h1 : (tysOf G.2.1)[i]? = some (G.2.1 b, .array t)) (h2 : (tysOf G.2.1)[j]? = some (G.2.1 b', t)) (hn : va_RA s (G.2.1 b') t → s.vm.findClass ("[" ++ t.toString) = some (G.2.1 b')) (ho : FieldType.array t ∈ aoTys) : ∃ k, s.vm.classes[G.2.1 b]? = some k ∧ k.kind = .array (G.2.1 b') (.array t) := by
  obtain ⟨comp, c, k, f1, f2, f3, f4⟩ := ao_spec9 (hK.2.2.2.1 _ ho)
  have e1 : s.vm.findClass ("[" ++ (FieldType.array t).toString) = some (G.2.1 b) := (hK.1.2 i _ h1).2
  have e2 := hn (hK.1.2 j _ h2).2
  cases f4.symm.trans e1
  cases (show s.vm.findClass ("[" ++ t.toString) = some comp from f1).symm.trans e2
  exact ⟨k, f2, f3⟩
/-- the classes of a chain of arrays, as they stand in a machine -/
def Lk1 (G : Gx) (vm : Vm) (b : Nat) : Prop := ∃ k comp, vm.classes[G.2.1 b]? = some k ∧ k.kind = .array comp (tyA b)
def Lk2 (G : Gx) (vm : Vm) (b b' : Nat) : Prop := ∃ k, vm.classes[G.2.1 b]? = some k ∧ k.kind = .array (G.2.1 b') (tyA b)
theorem Lk1.moved {G : Gx} {v w : Vm} {b : Nat} (h : v.Alike w) (k : Lk1 G v b) : Lk1 G w b := by
  obtain ⟨k1, comp, h1, h2⟩ := k
  obtain ⟨k2, h3, h4⟩ := h.2.2 _ _ h1
  exact ⟨k2, comp, h3, by rw [h4]; exact h2⟩
theorem Lk2.moved {G : Gx} {v w : Vm} {b b' : Nat} (h : v.Alike w) (k : Lk2 G v b b') : Lk2 G w b b' := by
  obtain ⟨k1, h1, h2⟩ := k
  obtain ⟨k2, h3, h4⟩ := h.2.2 _ _ h1
  exact ⟨k2, h3, by rw [h4]; exact h2⟩
theorem h_mul {Z : Zx} {own nm : String} {cc : ByteArray} {rf rc rs rl k n pc idx b nc ns : Nat} {L : List (Option Value)} {st stk : List Value} {μ : Mem} {ds : List Int32} {ok : Kap → Prop} {tr : TrT} (C : Cx Z own cc rf rc rs rl) (hl9 : Cond.classLink own idx nm ∈ lw_good) (hnm : ∀ s : State, KX Z.G s → s.vm.findClass nm = some (Z.G.2.1 b)) (d : decode cc pc = .ok (.multianewarray idx ds.length, 4)) (hstk : stk = (ds.map Value.int).reverse ++ st)
    (hmk : ∀ (p : Program) (l : Launch) (e : Env) (R : Room) (s : State) (m : MethodId) (args : Array Value) (below : List Frame) (meth : Method) (c : Code) (G : Gx) (A : Nat → Prop) (VM : Vm), KX G s → s.vm.Alike VM → e.platform.arrayLengthLimit = 2147483645 → e.platform.maxHeapBytes = 536870912 → ∃ f, MKP p l e R s m args below meth c G A VM (G.2.1 b) ds f nc ns ok tr)
    (κ : Kap) (hκ : ok κ) (h1 : k + nc ≤ rc) (h2 : n + ns ≤ rs) (kk : ∀ (a : Nat) (μ' : Mem), μ.kd a = 0 → (∀ z, μ.kd z ≠ 0 → z < a) → Gr μ μ' → tr a κ a μ' → HW Z (k + nc) (n + ns) (pc + 4) L (.ref a :: st) μ') : HW Z k n pc L stk μ := by
  obtain ⟨p, l, e, R, s, m, args, below, meth, c, G, A, nL, Q⟩ := Z
  obtain ⟨⟨hexec, hb, hml, hown, hts⟩, rfl, hK, hE, hA, hst9, hlk⟩ := C
  intro H locs ls hR hS hl T hT X
  subst hstk
  have hpl : e.platform.magicAccessors = ({} : Platform).magicAccessors := by rw [X.admits.platform]
  obtain ⟨c0, hfc0, hcl⟩ := Cond.classLink_spec hown (hts _ hl9) e.platform hpl
  cases (hnm s hK).symm.trans hfc0
  obtain ⟨hg₁, hwarm₁, hready₁⟩ := State.classEntry (e := e) X.warmed hcl
  generalize T.vm.noted (F0 m pc ls ((ds.map Value.int).reverse ++ st)).method.cls idx (.cls (G.2.1 b)) = vm₁ at hg₁ hwarm₁ hready₁
  obtain ⟨f, M⟩ := hmk p l e _ s m args below meth c G A vm₁ hK hwarm₁.alike (Launch.admits_arrayLengthLimit X.admits) (Launch.admits_maxHeapBytes X.admits)
  have X₁ := X.noted hwarm₁
  obtain ⟨hr1, hr2⟩ := X.roomAbove h1 h2
  subst hT
  obtain ⟨L9, l1, l2⟩ := M.st _ _ _ _ X₁
  obtain ⟨μ', r1, r2, r3⟩ := M.mem (T.setVm vm₁) μ κ hκ hR (fun q hq => hA q (Nat.le_trans hS.1 hq))
  have hfr := M.fr (T.setVm vm₁)
  have hz : μ.kd T.heap.size = 0 := hR.fresh (Nat.le_refl _)
  obtain ⟨t, b1, b2⟩ := kk T.heap.size μ' hz (fun z hz9 => (hR z hz9).2.lt) r2 r3 (f (T.setVm vm₁)).heap (locs ++ L9) ls r1 ⟨by rw [hfr.2.1]; exact Nat.le_trans hS.1 (Nat.le_add_right _ _), fun q a1 a2 => (hfr.2.2.2 q (Nat.lt_of_lt_of_le a1 hS.1)).trans (hS.2.1 q a1 a2), fun x hx => (List.mem_append.mp hx).elim (hS.2.2 x) (fun h9 => hA _ (Nat.le_trans hS.1 (l1 x h9)))⟩ hl (f (T.setVm vm₁)) rfl l2
  refine ⟨t, ?_, b2⟩
  subst hb
  jvm_step X.here [hexec, d]
  simp only [Op.multianewarray.sem, wp_bind', W.resolveClassAt_links (State.method?_setTop (F0 m pc ls ((ds.map Value.int).reverse ++ st)) X.here.top) hg₁]
  have e0 : ((T.setTop (F0 m pc ls ((ds.map Value.int).reverse ++ st))).setVm vm₁) = (T.setVm vm₁).setTop (F0 m pc ls ((ds.map Value.int).reverse ++ st)) := rfl
  rw [e0]
  have hlen : ds.length = (ds.map Value.int).length := (List.length_map ..).symm
  rw [hlen]
  refine (Op.popN_top (f := F0 m pc ls ((ds.map Value.int).reverse ++ st)) X₁.here.top rfl).mpr ?_
  simp only [wp_bind']
  refine (wp_mapM_int _ (fun n => ?_) ds _).mpr ?_
  · rfl
  simp only [wp_bind']
  refine M.mk _ _ _ ((T.setVm vm₁).setTop _) _ rfl hr1 hr2 (fun d2 acts2 => ?_)
  rw [M.top]
  simp only [wp_bind', W.mark, W.pushRef, State.topJava?_setTop' _ l2.here.top, Option.some.injEq, exists_eq_left', State.setTop_setTop, State.heap_setTop]
  intro acts
  simp [jvm, l2.here.top]
  exact b1
end
