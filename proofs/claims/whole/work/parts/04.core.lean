section
/-! THE MEMORY: kinds, fields (by number 32 * class + place), array lengths and elements. kd a % 32: 0 nothing, 1..10 an object of the class vwCl[kd - 1], 11.. an array; kd a / 32: a mark of ours. -/
abbrev Mem : Type := (Nat → Nat) × (Nat → Nat → Int32) × (Nat → Nat → Option Nat) × (Nat → Nat → Int64) × (Nat → Nat) × (Nat → Nat → Int32) × (Nat → Nat → Option Nat) × (Nat → Nat → Int64)
def Mem.kd (μ : Mem) : Nat → Nat := μ.1
def Mem.fi (μ : Mem) : Nat → Nat → Int32 := μ.2.1
def Mem.fr (μ : Mem) : Nat → Nat → Option Nat := μ.2.2.1
def Mem.fl (μ : Mem) : Nat → Nat → Int64 := μ.2.2.2.1
def Mem.ln (μ : Mem) : Nat → Nat := μ.2.2.2.2.1
def Mem.ei (μ : Mem) : Nat → Nat → Int32 := μ.2.2.2.2.2.1
def Mem.er (μ : Mem) : Nat → Nat → Option Nat := μ.2.2.2.2.2.2.1
def Mem.el (μ : Mem) : Nat → Nat → Int64 := μ.2.2.2.2.2.2.2
def u1 {α : Type} (f : Nat → α) (a : Nat) (v : α) : Nat → α := fun b => if b = a then v else f b
def u2 {α : Type} (f : Nat → Nat → α) (i a : Nat) (v : α) : Nat → Nat → α := fun j b => if j = i then (if b = a then v else f j b) else f j b
def ua {α : Type} (f : Nat → Nat → α) (a : Nat) (v : α) : Nat → Nat → α := fun j b => if b = a then v else f j b
def ub {α : Type} (f : Nat → Nat → α) (a : Nat) (v : Nat → α) : Nat → Nat → α := fun b j => if b = a then v j else f b j
def Mem.sfi (μ : Mem) (f a : Nat) (v : Int32) : Mem := (μ.kd, u2 μ.fi f a v, μ.fr, μ.fl, μ.ln, μ.ei, μ.er, μ.el)
def Mem.sfr (μ : Mem) (f a : Nat) (v : Option Nat) : Mem := (μ.kd, μ.fi, u2 μ.fr f a v, μ.fl, μ.ln, μ.ei, μ.er, μ.el)
def Mem.sfl (μ : Mem) (f a : Nat) (v : Int64) : Mem := (μ.kd, μ.fi, μ.fr, u2 μ.fl f a v, μ.ln, μ.ei, μ.er, μ.el)
def Mem.sei (μ : Mem) (a i : Nat) (v : Int32) : Mem := (μ.kd, μ.fi, μ.fr, μ.fl, μ.ln, u2 μ.ei a i v, μ.er, μ.el)
def Mem.ser (μ : Mem) (a i : Nat) (v : Option Nat) : Mem := (μ.kd, μ.fi, μ.fr, μ.fl, μ.ln, μ.ei, u2 μ.er a i v, μ.el)
def Mem.sel (μ : Mem) (a i : Nat) (v : Int64) : Mem := (μ.kd, μ.fi, μ.fr, μ.fl, μ.ln, μ.ei, μ.er, u2 μ.el a i v)
def Mem.skd (μ : Mem) (a k : Nat) : Mem := (u1 μ.kd a k, μ.fi, μ.fr, μ.fl, μ.ln, μ.ei, μ.er, μ.el)
/-- a new object, its fields at their defaults -/
def Mem.newO (μ : Mem) (a k : Nat) : Mem := (u1 μ.kd a k, ua μ.fi a 0, ua μ.fr a none, ua μ.fl a 0, μ.ln, μ.ei, μ.er, μ.el)
/-- a new array of n places -/
def Mem.newA (μ : Mem) (a k n : Nat) : Mem := (u1 μ.kd a k, μ.fi, μ.fr, μ.fl, u1 μ.ln a n, ub μ.ei a (fun _ => 0), ub μ.er a (fun _ => none), ub μ.el a (fun _ => 0))
/-- a new array with given ints -/
def fty (f : Nat) : Nat := if f = 1 ∨ f = 34 ∨ f = 35 ∨ f = 36 ∨ f = 99 ∨ f = 131 ∨ (133 ≤ f ∧ f ≤ 136) ∨ (256 ≤ f ∧ f ≤ 258) ∨ (292 ≤ f ∧ f ≤ 311) ∨ f = 313 then 1 else if f = 233 ∨ f = 314 then 2 else 0
def fval (μ : Mem) (f a : Nat) : Value := if fty f = 0 then .int (μ.fi f a) else if fty f = 1 then va_rf (μ.fr f a) else .long (μ.fl f a)
def aval (μ : Mem) (b a i : Nat) : Value := if b ≤ 12 then .int (μ.ei a i) else if b = 13 then .long (μ.el a i) else va_rf (μ.er a i)
abbrev Gx : Type := va_G × (Nat → ClassId) × Nat × Nat
def tyA (b : Nat) : FieldType := match b with
  | 11 => .int
  | 12 => .boolean
  | 13 => .long
  | 14 => .object "java/lang/Object"
  | 15 => .object "Burrowline$End"
  | 16 => .object "Burrowline$Link"
  | 17 => .array .int
  | 18 => .array (.array .int)
  | 19 => .array (.array (.array .int))
  | 20 => .array .boolean
  | 21 => .array (.array .boolean)
  | _ => .array (.array (.array .boolean))
def cellAt (G : Gx) (μ : Mem) (a : Nat) (H : Heap) : Prop :=
  if μ.kd a % 32 ≤ 10 then ∃ r : vw_C, vwCl[μ.kd a % 32 - 1]? = some r ∧ t_OB a (G.1.1 (μ.kd a % 32 - 1)) r.2.2 (G.1.2 (μ.kd a % 32 - 1)) H (fun j => fval μ (32 * (μ.kd a % 32 - 1) + j) a)
  else H[a]? = some (arrV (G.2.1 (μ.kd a % 32)) (μ.ln a) (aval μ (μ.kd a % 32) a))
def RepH (G : Gx) (A : Nat → Prop) (μ : Mem) (H : Heap) : Prop := ∀ a, μ.kd a ≠ 0 → A a ∧ cellAt G μ a H
def SameAt (μ μ' : Mem) (q : Nat) : Prop := μ'.kd q = μ.kd q ∧ (∀ f, μ'.fi f q = μ.fi f q) ∧ (∀ f, μ'.fr f q = μ.fr f q) ∧ (∀ f, μ'.fl f q = μ.fl f q) ∧ μ'.ln q = μ.ln q ∧ μ'.ei q = μ.ei q ∧ μ'.er q = μ.er q ∧ μ'.el q = μ.el q
theorem SameAt.rf {μ : Mem} {q : Nat} : SameAt μ μ q := ⟨rfl, fun _ => rfl, fun _ => rfl, fun _ => rfl, rfl, rfl, rfl, rfl⟩
theorem cellAt.kept {G : Gx} {μ μ' : Mem} {q : Nat} {H H' : Heap} (h : cellAt G μ q H) (hs : SameAt μ μ' q) (hq : H'[q]? = H[q]?) : cellAt G μ' q H' := by
  obtain ⟨h1, h2, h3, h4, h5, h6, h7, h8⟩ := hs
  unfold cellAt at h ⊢
  rw [h1]
  by_cases c : μ.kd q % 32 ≤ 10
  · rw [if_pos c] at h ⊢
    obtain ⟨r, e1, e2⟩ := h
    exact ⟨r, e1, (e2.kept hq).to (fun k _ => by simp only [fval, h2, h3, h4])⟩
  · rw [if_neg c] at h ⊢
    rw [hq, h, h5]
    congr 2
    funext i
    simp only [aval, h6, h7, h8]
theorem cellAt.lt {G : Gx} {μ : Mem} {q : Nat} {H : Heap} (h : cellAt G μ q H) : q < H.size := by
  unfold cellAt at h
  by_cases c : μ.kd q % 32 ≤ 10
  · rw [if_pos c] at h
    obtain ⟨r, e1, cell, e2, -⟩ := h
    exact (Array.getElem?_eq_some_iff.mp e2).1
  · rw [if_neg c] at h
    exact (Array.getElem?_eq_some_iff.mp h).1
theorem RepH.upd {G : Gx} {A : Nat → Prop} {μ μ' : Mem} {H H' : Heap} {a : Nat} (h : RepH G A μ H) (hs : ∀ q, q ≠ a → SameAt μ μ' q) (hq : ∀ q, q ≠ a → q < H.size → H'[q]? = H[q]?) (hA : A a) (hc : cellAt G μ' a H') : RepH G A μ' H' := by
  intro q hk
  by_cases e : q = a
  · subst e
    exact ⟨hA, hc⟩
  · have h0 := hs q e
    obtain ⟨h1, h2⟩ := h q (by rw [← h0.1]; exact hk)
    exact ⟨h1, h2.kept h0 (hq q e h2.lt)⟩
theorem RepH.fresh {G : Gx} {A : Nat → Prop} {μ : Mem} {H : Heap} (h : RepH G A μ H) {a : Nat} (ha : H.size ≤ a) : μ.kd a = 0 := by
  by_cases e : μ.kd a = 0
  · exact e
  · exact absurd (h a e).2.lt (by omega)
theorem RepH.obj {G : Gx} {A : Nat → Prop} {μ : Mem} {H : Heap} (h : RepH G A μ H) {a ci : Nat} (hk : μ.kd a % 32 = ci + 1) (hc : ci < 10) : ∃ r : vw_C, vwCl[ci]? = some r ∧ t_OB a (G.1.1 ci) r.2.2 (G.1.2 ci) H (fun j => fval μ (32 * ci + j) a) := by
  have h2 := (h a (by omega)).2
  unfold cellAt at h2
  rw [if_pos (by omega), show μ.kd a % 32 - 1 = ci by omega] at h2
  exact h2
theorem RepH.arr {G : Gx} {A : Nat → Prop} {μ : Mem} {H : Heap} (h : RepH G A μ H) {a b : Nat} (hk : μ.kd a % 32 = b) (hb : 10 < b) : H[a]? = some (arrV (G.2.1 b) (μ.ln a) (aval μ b a)) := by
  have h2 := (h a (by omega)).2
  unfold cellAt at h2
  rw [if_neg (by omega), hk] at h2
  exact h2
/-! LOCALS by their places -/
def lhas (ls : Array Slot) (nL : Nat) (L : List (Option Value)) : Prop := ls.size = nL ∧ lv_wf ls ∧ (∀ (i : Nat) (v : Value), L[i]? = some (some v) → ls[i]? = some (.val v)) ∧ L.length ≤ nL
def lo (L : List (Option Value)) : List (Nat × Value) := (List.range L.length).filterMap (fun j => (L.getD j none).map (fun w => (j, w)))
theorem lo_in {L : List (Option Value)} {j : Nat} {w : Value} : (j, w) ∈ lo L ↔ L[j]? = some (some w) := by
  unfold lo
  rw [List.mem_filterMap]
  constructor
  · rintro ⟨i, hi, h⟩
    rw [List.mem_range] at hi
    cases e : L.getD i none with
    | none => rw [e] at h; cases h
    | some z =>
      rw [e] at h
      cases h
      rw [List.getD_eq_getElem?_getD] at e
      cases e2 : L[j]? with
      | none => rw [e2] at e; cases e
      | some y => rw [e2] at e; simp at e; rw [e]
  · intro h
    refine ⟨j, List.mem_range.mpr (List.getElem?_eq_some_iff.mp h).1, ?_⟩
    rw [List.getD_eq_getElem?_getD, h]
    rfl
theorem lhas.to {ls : Array Slot} {nL : Nat} {L : List (Option Value)} (h : lhas ls nL L) : lv_has ls nL (lo L) := ⟨h.1, h.2.1, fun q hq => h.2.2.1 q.1 q.2 (lo_in.mp hq)⟩
theorem lhas.st1 {ls' : Array Slot} {nL i : Nat} {L : List (Option Value)} {v : Value} (h : lv_has ls' nL ((i, v) :: (lo L).filter (fun q => !(q.1 == i) && !(q.1 + 1 == i && q.2.category == 2)))) (hL : L.length ≤ nL) (hc : ∀ (j : Nat) (w : Value), j + 1 = i → L[j]? = some (some w) → w.category = 1) : lhas ls' nL (L.set i (some v)) := by
  refine ⟨h.1, h.2.1, fun j w hj => ?_, by rw [List.length_set]; exact hL⟩
  rw [List.getElem?_set] at hj
  by_cases e : i = j
  · rw [if_pos e] at hj
    subst e
    by_cases hl : i < L.length
    · rw [if_pos hl] at hj
      cases hj
      exact h.2.2 (i, v) List.mem_cons_self
    · rw [if_neg hl] at hj
      cases hj
  · rw [if_neg e] at hj
    refine h.2.2 (j, w) (List.mem_cons_of_mem _ (List.mem_filter.mpr ⟨lo_in.mpr hj, ?_⟩))
    have e2 : (j == i) = false := by simp; exact fun z => e z.symm
    simp only [e2, Bool.not_false, Bool.true_and, Bool.not_eq_true', Bool.and_eq_false_iff]
    by_cases e3 : j + 1 = i
    · right
      rw [hc j w e3 hj]
      rfl
    · left
      simp [e3]
theorem lhas.st2 {ls' : Array Slot} {nL i : Nat} {L : List (Option Value)} {v : Value} (h : lv_has ls' nL ((i, v) :: (lo L).filter (fun q => !(q.1 == i) && (!(q.1 == i + 1) && !(q.1 + 1 == i && q.2.category == 2))))) (hL : L.length ≤ nL) (hc : ∀ (j : Nat) (w : Value), j + 1 = i → L[j]? = some (some w) → w.category = 1) : lhas ls' nL ((L.set i (some v)).set (i + 1) none) := by
  refine ⟨h.1, h.2.1, fun j w hj => ?_, by rw [List.length_set, List.length_set]; exact hL⟩
  rw [List.getElem?_set] at hj
  by_cases e1 : i + 1 = j
  · rw [if_pos e1] at hj
    split at hj <;> cases hj
  · rw [if_neg e1, List.getElem?_set] at hj
    by_cases e : i = j
    · rw [if_pos e] at hj
      subst e
      by_cases hl : i < L.length
      · rw [if_pos hl] at hj
        cases hj
        exact h.2.2 (i, v) List.mem_cons_self
      · rw [if_neg hl] at hj
        cases hj
    · rw [if_neg e] at hj
      refine h.2.2 (j, w) (List.mem_cons_of_mem _ (List.mem_filter.mpr ⟨lo_in.mpr hj, ?_⟩))
      have e2 : (j == i) = false := by simp; exact fun z => e z.symm
      have e4 : (j == i + 1) = false := by simp; exact fun z => e1 z.symm
      simp only [e2, e4, Bool.not_false, Bool.true_and, Bool.not_eq_true', Bool.and_eq_false_iff]
      by_cases e3 : j + 1 = i
      · right
        rw [hc j w e3 hj]
        rfl
      · left
        simp [e3]
theorem lhas.drop {ls : Array Slot} {nL : Nat} {L L' : List (Option Value)} (h : lhas ls nL L) (hs : ∀ (i : Nat) (v : Value), L'[i]? = some (some v) → L[i]? = some (some v)) (hn : L'.length ≤ L.length) : lhas ls nL L' := ⟨h.1, h.2.1, fun i v hi => h.2.2.1 i v (hs i v hi), Nat.le_trans hn h.2.2.2⟩
end
section
/-! WHAT A STATE'S TABLES AND STATICS SAY -/
def tysOf (cy : Nat → ClassId) : List (ClassId × FieldType) := [(cy 11, .int), (cy 12, .boolean), (cy 13, .long), (cy 14, .object "java/lang/Object"), (cy 15, .object "Burrowline$End"), (cy 16, .object "Burrowline$Link"), (cy 17, .array .int), (cy 18, .array (.array .int)), (cy 19, .array (.array (.array .int))), (cy 20, .array .boolean), (cy 21, .array (.array .boolean)), (cy 22, .array (.array (.array .boolean)))]
def clsOf (G : Gx) (b : Nat) : ClassId := if b ≤ 10 then G.1.1 (b - 1) else G.2.1 b
/-- which kinds may be stored in which arrays of references -/
def asPairs : List (Nat × Nat) := [(14, 4), (14, 6), (14, 7), (15, 2), (16, 5), (17, 11), (18, 17), (19, 18), (20, 12), (21, 20), (22, 21)]
def asAt (G : Gx) (U : State) (b bv : Nat) : Prop := ∃ (kA kc kv : Class) (comp : ClassId) (ty : FieldType), U.vm.classes[G.2.1 b]? = some kA ∧ kA.kind = .array comp ty ∧ ty.isReference = true ∧ U.vm.classes[comp]? = some kc ∧ U.vm.classes[clsOf G bv]? = some kv ∧ U.vm.assignable (clsOf G bv) comp = true
def strsOk (U : State) : Prop := ∀ (own : String) (k : Nat) (tx : String), Cond.stringRef own k tx ∈ tables_1 → ∃ sa, vk_R own k tx sa U
def aoOk (t : FieldType) (U : State) : Prop := (Cond.arrayOver t).before #[] U = true
theorem ao_bare (vm : Vm) (comp : ClassId) : (vm.bare.classes.findIdx? fun (x : Class) => match x.kind with | .array component _ => component == comp | _ => false) = (vm.classes.findIdx? fun (x : Class) => match x.kind with | .array component _ => component == comp | _ => false) := by
  simp only [Vm.bare, Array.findIdx?_map]
  rfl
theorem aoOk.movedA {t : FieldType} {u U : State} (hvm : u.vm.Alike U.vm) (h : aoOk (.array t) u) : aoOk (.array t) U := by
  have key : ∃ comp c k, u.vm.findClass (FieldType.array t).toString = some comp ∧ (u.vm.classes.findIdx? fun (x : Class) => match x.kind with | .array component _ => component == comp | _ => false) = some c ∧ u.vm.classes[c]? = some k ∧ k.kind = .array comp (.array t) ∧ u.vm.findClass ("[" ++ (FieldType.array t).toString) = some c := by
    unfold aoOk Cond.before at h
    simp only [Cond.holds, Cond.value, beq_iff_eq] at h
    cases hc : u.vm.findClass (FieldType.array t).toString with
    | none => simp [hc] at h
    | some comp =>
      simp only [hc, Option.bind_some, Option.bind_eq_some_iff, Option.map_eq_some_iff] at h
      obtain ⟨c, hi, k, hk, hb⟩ := h
      obtain ⟨hlt, hp, -⟩ := Array.findIdx?_eq_some_iff_getElem.mp hi
      have hkk : u.vm.classes[c] = k := (Array.getElem?_eq_some_iff.mp hk).2
      rw [hkk] at hp
      cases hkind : k.kind with
      | array component ty =>
        rw [hkind] at hb hp
        simp at hb hp
        exact ⟨comp, c, k, rfl, hi, hk, by rw [hkind, hp, hb.1], hb.2⟩
      | _ => rw [hkind] at hb; simp at hb
  obtain ⟨comp, c, k, h1, h2, h3, h4, h5⟩ := key
  obtain ⟨k', hk', he⟩ := hvm.2.2 _ _ h3
  have hi : (U.vm.classes.findIdx? fun (x : Class) => match x.kind with | .array component _ => component == comp | _ => false) = some c := by
    rw [← ao_bare]
    first | rw [hvm.bare_eq] | rw [← hvm.bare_eq]
    rw [ao_bare]
    exact h2
  have hkind : k'.kind = .array comp (.array t) := by rw [he]; exact h4
  have f1 : U.vm.findClass (FieldType.array t).toString = some comp := by rw [hvm.findClass]; exact h1
  have f2 : U.vm.findClass ("[" ++ (FieldType.array t).toString) = some c := by rw [hvm.findClass]; exact h5
  unfold aoOk Cond.before Cond.holds
  simp only [Cond.value]
  rw [f1, Option.bind_some]
  refine (congrArg (fun o : Option Nat => (o.bind (fun c => (U.vm.classes[c]?).map fun (k : Class) => match k.kind with | .array _ ty => decide (ty = FieldType.array t) && decide (U.vm.findClass ("[" ++ (FieldType.array t).toString) = some c) | _ => false) == some true)) hi).trans ?_
  simp [hk', hkind, f2]
theorem aoOk.moved {t : FieldType} {u U : State} (hvm : u.vm.Alike U.vm) (h : aoOk t u) : aoOk t U := by
  cases t with
  | object C => exact va_AO.moved hvm h
  | array t => exact aoOk.movedA hvm h
  | _ => unfold aoOk Cond.before Cond.holds at h; simp [Cond.value] at h
def isX (w : Cond) : Bool := match w with
  | .declares _ => true
  | .castable _ _ => true
  | .methodLinkNest _ _ _ _ => true
  | _ => false
def xW : List Cond := tables_1.filter isX
theorem xW_warm {w : Cond} (h : w ∈ xW) {s U : State} (hW : s.WarmedH U.vm) (hZ : va_Nw w s) : va_Nw w U := by
  have h2 := (List.mem_filter.mp h).2
  cases w with
  | declares x => exact va_Nw.warmD hW hZ
  | castable a b => exact va_Nw.warmC hW hZ
  | methodLinkNest a i x h => exact va_Nw.warmM hW hZ
  | _ => cases h2
theorem xW_same {w : Cond} (h : w ∈ xW) {s U : State} (hv : s.vm = U.vm) (hZ : va_Nw w s) : va_Nw w U := by
  have h2 := (List.mem_filter.mp h).2
  cases w with
  | declares x => exact va_Nw.same rfl hv hZ
  | castable a b => exact va_Nw.same rfl hv hZ
  | methodLinkNest a i x h => exact va_Nw.same rfl hv hZ
  | _ => cases h2
theorem xW_use {w : Cond} (h : w ∈ xW) {U : State} {A : Array Value} (hZ : va_Nw w U) : w.before A U = true := by
  have h2 := (List.mem_filter.mp h).2
  cases w with
  | declares x => exact va_Nw.use rfl hZ
  | castable a b => exact va_Nw.use rfl hZ
  | methodLinkNest a i x h => exact va_Nw.use rfl hZ
  | _ => cases h2
abbrev aoTys : List FieldType := [.object "java/lang/Object", .object "Burrowline$End", .object "Burrowline$Link", .array .int, .array (.array .int), .array (.array (.array .int)), .array .boolean, .array (.array .boolean), .array (.array (.array .boolean))]
def KX (G : Gx) (U : State) : Prop := va_K G.1 vwCl (tysOf G.2.1) U ∧ (∀ q ∈ asPairs, asAt G U q.1 q.2) ∧ strsOk U ∧ (∀ t ∈ aoTys, aoOk t U) ∧ va_Mi "[Ljava/lang/Object;" G.2.2.2 U ∧ va_Dc U ∧ (∀ w ∈ xW, va_Nw w U)
def EnvS (G : Gx) (A : Nat → Prop) (U : State) (H : Heap) : Prop := vx_Zq Bundle.tN "UNASSIGNED_STACK" Bundle.steD A U H ∧ vx_Zq Bundle.tN "SUPPRESSED_SENTINEL" Bundle.listD A U H ∧ va_Z "java/util/ArrayList" "DEFAULTCAPACITY_EMPTY_ELEMENTDATA" "[Ljava/lang/Object;" (.ref G.2.2.1) A U H ∧ va_T (.object "java/lang/Object") G.2.2.1 0 (fun _ => .null) A U H
theorem asAt.moved {G : Gx} {u U : State} {b bv : Nat} (hvm : u.vm.Alike U.vm) (h : asAt G u b bv) : asAt G U b bv := by
  obtain ⟨kA, kc, kv, comp, ty, h1, h2, h3, h4, h5, h6⟩ := h
  obtain ⟨kA', a1, a2⟩ := hvm.2.2 _ _ h1
  obtain ⟨kc', c1, c2⟩ := hvm.2.2 _ _ h4
  obtain ⟨kv', v1, v2⟩ := hvm.2.2 _ _ h5
  exact ⟨kA', kc', kv', comp, ty, a1, by rw [a2]; exact h2, h3, c1, v1, by rw [hvm.assignable]; exact h6⟩
theorem KX.warm {G : Gx} {s U : State} (hW : s.WarmedH U.vm) (h : KX G s) : KX G U := ⟨va_K.moved hW.alike h.1, fun q hq => (h.2.1 q hq).moved hW.alike, fun own k tx hm => by
  obtain ⟨sa, hs⟩ := h.2.2.1 own k tx hm
  exact ⟨sa, hs.warm hW⟩, fun t ht => (h.2.2.2.1 t ht).moved hW.alike, h.2.2.2.2.1.moved hW.alike, h.2.2.2.2.2.1.moved hW.alike, fun w hw => xW_warm hw hW (h.2.2.2.2.2.2 w hw)⟩
theorem KX.same {G : Gx} {u U : State} (hv : U.vm = u.vm) (h : KX G u) : KX G U := by
  have hal : u.vm.Alike U.vm := by rw [hv]; exact Vm.Alike.refl _
  exact ⟨va_K.moved hal h.1, fun q hq => (h.2.1 q hq).moved hal, fun own k tx hm => by
    obtain ⟨sa, hs⟩ := h.2.2.1 own k tx hm
    exact ⟨sa, hs.same hv⟩, fun t ht => (h.2.2.2.1 t ht).moved hal, h.2.2.2.2.1.moved hal, h.2.2.2.2.2.1.moved hal, fun w hw => xW_same hw hv.symm (h.2.2.2.2.2.2 w hw)⟩
theorem EnvS.moved {G : Gx} {A : Nat → Prop} {u U : State} {H : Heap} (hvm : u.vm.Alike U.vm) (h : EnvS G A u H) : EnvS G A U H := ⟨vx_Zq.moved hvm h.1, vx_Zq.moved hvm h.2.1, va_Z.moved hvm h.2.2.1, va_T.moved hvm h.2.2.2⟩
theorem EnvS.kept {G : Gx} {A : Nat → Prop} {U : State} {H H1 : Heap} (h : EnvS G A U H) (hq : ∀ a : Nat, a < H.size → ¬ A a → H1[a]? = H[a]?) : EnvS G A U H1 := ⟨h.1.kept hq, h.2.1.kept hq, h.2.2.1.kept hq, h.2.2.2.kept hq⟩
/-! THE JUDGEMENT: the machine at pc, with locals L, stack st and a heap that holds μ; k cells and n slots made so far -/
abbrev Zx : Type := Program × Launch × Env × Room × State × MethodId × Array Value × List Frame × Method × Code × Gx × (Nat → Prop) × Nat × (State → Prop)
def HW (Z : Zx) (k n pc : Nat) (L : List (Option Value)) (st : List Value) (μ : Mem) : Prop := match Z with
  | (p, l, e, R, s, m, args, below, meth, c, G, A, nL, Q) => ∀ (H : Heap) (locs : List Loc) (ls : Array Slot), RepH G A μ H → va_S A s.heap H locs → lhas ls nL L → W p l e R s m args below meth c H locs k n Q (F0 m pc ls st)
/-- q of class E is thrown at pc -/
def HX (Z : Zx) (k n pc : Nat) (L : List (Option Value)) (E : String) (μ : Mem) : Prop := match Z with
  | (p, l, e, R, s, m, args, below, meth, c, G, A, nL, Q) => ∀ (H : Heap) (locs : List Loc) (ls : Array Slot) (rest : List Value) (q : Addr) (ce : Cell), RepH G A μ H → va_S A s.heap H locs → lhas ls nL L → H[q]? = some ce → ce.vm = .none → s.vm.findClass E = some ce.cls → vx_W p l e R s m args below meth c H locs k n Q (F0 m pc ls rest) q
def Cx (Z : Zx) (own : String) (cc : ByteArray) (rf rc rs rl : Nat) : Prop := match Z with
  | (p, l, e, R, s, m, args, below, meth, c, G, A, nL, Q) => CallFix p m c cc nL s args lw_good own ∧ R = { frames := rf, cells := rc, slots := rs, locals := rl } ∧ KX G s ∧ EnvS G A s s.heap ∧ (∀ q, s.heap.size ≤ q → A q) ∧ l.stackTraces = false ∧ meth.locks = false
def QcOf (G : Gx) (A : Nat → Prop) (Post : Option Value → Mem → Prop) : Array Value → State → Outcome → State → Prop := fun _ st o t => ∃ (v : Option Value) (μ' : Mem), o = .returned v ∧ Post v μ' ∧ RepH G A μ' t.heap ∧ va_F A st t
def XcOf (G : Gx) (A : Nat → Prop) (PostX : String → Mem → Prop) : String → State → State → Prop := fun E st t => ∃ μ' : Mem, PostX E μ' ∧ RepH G A μ' t.heap ∧ va_F A st t
def Rt (Z : Zx) (mc ms : Nat) (ret : Option FieldType) (Post : Option Value → Mem → Prop) (PostX : String → Mem → Prop) : Prop := match Z with
  | (p, l, e, R, s, m, args, below, meth, c, G, A, nL, Q) => Q = vx_MQ below (QcOf G A Post) (XcOf G A PostX) args s mc ms A ∧ meth.sig.returnType = ret
def NoTab (Z : Zx) : Prop := match Z with
  | (p, l, e, R, s, m, args, below, meth, c, G, A, nL, Q) => ∀ x ∈ c.exceptionTable.toList, False
def Mt (Z : Zx) (nm : String) : Prop := match Z with
  | (p, l, e, R, s, m, args, below, meth, c, G, A, nL, Q) => meth.name = nm
abbrev Zx.l (Z : Zx) : Launch := Z.2.1
abbrev Zx.G (Z : Zx) : Gx := Z.2.2.2.2.2.2.2.2.2.2.1
def PcOf (G : Gx) (A : Nat → Prop) (av : List Value) (μ : Mem) : Array Value → State → Prop := va_Pc av (fun U => (∀ q, U.heap.size ≤ q → A q) ∧ RepH G A μ U.heap ∧ KX G U ∧ EnvS G A U U.heap)
/-- A METHOD'S CONTRACT -/
def Kon (l : Launch) (y : MethodName) (bytes : ByteArray) (nL : Nat) (ret : Option FieldType) (rf mc ms rl : Nat) (G : Gx) (av : List Value) (μ : Mem) (Post : Option Value → Mem → Prop) (PostX : String → Mem → Prop) : Prop :=
  l.stackTraces = false → ∀ A : Nat → Prop, vx_Met l y (Cond.code y bytes nL ret :: lw_good) { frames := rf, cells := mc, slots := ms, locals := rl } (PcOf G A av μ) (QcOf G A Post) (XcOf G A PostX) mc ms A
theorem PcOf.blind {G : Gx} {A : Nat → Prop} {av : List Value} {μ : Mem} : FrameBlind (PcOf G A av μ) := fun a U g mk ⟨h1, h2, h3, h4, h5⟩ => ⟨h1, h2, h3, KX.same (u := U) rfl h4, EnvS.moved (u := U) (U := U.calling g mk a) (Vm.Alike.refl U.vm) h5⟩
def pad (n : Nat) (L : List (Option Value)) : List (Option Value) := L ++ List.replicate (n - L.length) none
def argL : List Value → List (Option Value)
  | [] => []
  | v :: vs => if v.category = 2 then some v :: none :: argL vs else some v :: argL vs
theorem argL_in : ∀ (vs : List Value) (o i : Nat) (v : Value), (argL vs)[i]? = some (some v) → (o + i, v) ∈ lv_args o vs
  | [], o, i, v, h => by simp [argL] at h
  | w :: vs, o, i, v, h => by
    unfold argL at h
    unfold lv_args
    by_cases c : w.category = 2
    · rw [if_pos c] at h
      rw [if_pos c]
      match i, h with
      | 0, h => cases h; exact List.mem_cons_self
      | 1, h => cases h
      | j + 2, h =>
        have := argL_in vs (o + 2) j v h
        rw [show o + (j + 2) = o + 2 + j by omega]
        exact List.mem_cons_of_mem _ this
    · rw [if_neg c] at h
      rw [if_neg c]
      match i, h with
      | 0, h => cases h; exact List.mem_cons_self
      | j + 1, h =>
        have := argL_in vs (o + 1) j v h
        rw [show o + (j + 1) = o + 1 + j by omega]
        exact List.mem_cons_of_mem _ this
theorem my_ofW {l : Launch} {y : MethodName} {ws ws' : List Cond} {rm : Room} {Pc : Array Value → State → Prop} {Qc : Array Value → State → Outcome → State → Prop} {XC : String → State → State → Prop} {mc ms : Nat} {free : Addr → Prop} {cc : ByteArray} {maxL : Nat} {ret : Option FieldType}
    (hy : plainFor y = true) (hw : ws = Cond.code y cc maxL ret :: ws')
    (body : ∀ p e s m args below meth c s₁, BodyLoose p l y (headSpec ws rm) cc maxL ret e s m args below meth c s₁ → c.maxLocals = maxL → (∀ x ∈ c.exceptionTable.toList, False) → Pc args s →
      W p l e (headSpec ws rm).room s m args below meth c s.heap [] 0 0 (vx_MQ below Qc XC args s mc ms free) (entryFrame m args maxL)) : vx_Met l y ws rm Pc Qc XC mc ms free := by
  refine MetFree.of_bodySF (code := cc) (maxLocals := maxL) (ret := ret) hy ?_ ?_
  · intro args s m h hn
    obtain ⟨meth, c, h1, h2, h3, h4, h5, h6, -, -⟩ := Cond.code_spec hn (atoms_spec (ws := ws) h _ (by rw [hw]; exact List.mem_cons_self))
    exact ⟨meth, c, h1, h2, h3, h4, h5, h6⟩
  · intro p e s m args below meth c s₁ B hml hP _
    have hh0 : s₁.heap = s.heap := by rw [B.state]; rfl
    have ht : ∀ x ∈ c.exceptionTable.toList, False := by
      obtain ⟨meth9, c9, h1, h2, -, -, -, -, h7, -⟩ := Cond.code_spec B.named (atoms_spec (ws := ws) B.pre _ (by rw [hw]; exact List.mem_cons_self))
      cases Option.some.inj (h1.symm.trans B.method)
      cases Option.some.inj (h2.symm.trans (Stand.of_body B).code)
      intro x hx
      rw [Array.isEmpty_iff.mp h7] at hx
      cases hx
    obtain ⟨t, a1, o, b1, b2, b3⟩ := body p e s m args below meth c s₁ B hml ht hP s₁ hh0 (Stand.of_body B)
    exact ⟨t, o, a1, b1, b2, b3⟩
theorem Kon.of {l : Launch} {y : MethodName} {bytes : ByteArray} {nL : Nat} {ret : Option FieldType} {rf mc ms rl : Nat} {G : Gx} {av : List Value} {μ : Mem} {Post : Option Value → Mem → Prop} {PostX : String → Mem → Prop}
    (hy : plainFor y = true) (hn : (lg_sl av).length ≤ nL) (hnp : (pad nL (argL av)).length ≤ nL) (body : ∀ Z : Zx, Cx Z y.cls bytes rf mc ms rl → Rt Z mc ms ret Post PostX → NoTab Z → Mt Z y.name → HW Z 0 0 0 (pad nL (argL av)) [] μ) : Kon l y bytes nL ret rf mc ms rl G av μ Post PostX := by
  intro hst A
  refine my_ofW (cc := bytes) (maxL := nL) (ret := ret) hy rfl ?_
  intro p e s m args below meth c s₁ B hml ht hP
  obtain ⟨rfl, hA, hR, hK, hE⟩ := hP
  have hts : ∀ w ∈ lw_good, w.before av.toArray s = true := fun w hw => atoms_spec (ws := Cond.code y bytes nL ret :: lw_good) B.pre w (List.mem_cons_of_mem _ hw)
  have key := body (p, l, e, { frames := rf, cells := mc, slots := ms, locals := rl }, s, m, av.toArray, below, meth, c, G, A, nL, vx_MQ below (QcOf G A Post) (XcOf G A PostX) av.toArray s mc ms A)
    ⟨⟨B.exec, B.bytes, hml, findClass_of_methodNamed B.named, hts⟩, rfl, hK, hE, hA, hst, B.notSynchronized⟩ ⟨rfl, B.returns⟩ ht (name_of_methodNamed B.named B.method).1
  rw [lg_entry_eq]
  have hl := lv_entry av (n := nL) hn
  refine key s.heap [] _ hR va_S.rf ⟨hl.1, hl.2.1, fun i v hi => ?_, hnp⟩
  have h2 : (argL av)[i]? = some (some v) := by
    unfold pad at hi
    by_cases c : i < (argL av).length
    · rw [List.getElem?_append_left c] at hi
      exact hi
    · rw [List.getElem?_append_right (by omega)] at hi
      have := List.eq_of_mem_replicate (List.mem_of_getElem? hi)
      cases this
  have h3 := argL_in av 0 i v h2
  rw [Nat.zero_add] at h3
  exact hl.2.2 (i, v) h3
/-- the tables' words of a method that is called, by any link of the class own -/
def CwB (own : String) (idx : Nat) (y : MethodName) (bytes : ByteArray) (nL : Nat) (ret : Option FieldType) (n : Nat) : Prop := y.cls ≠ "java/lang/invoke/MethodHandle" ∧ y.cls ≠ "java/lang/invoke/VarHandle" ∧ (parseMethodDescriptor y.desc).map (fun d => d.parameters.length) = some n ∧ Cond.methodLink own idx y ∈ lw_good ∧ Cond.initialized y.cls ∈ lw_good ∧ Cond.code y bytes nL ret ∈ lw_good
theorem CwB.to {own : String} {idx : Nat} {y : MethodName} {bytes : ByteArray} {nL : Nat} {ret : Option FieldType} {n rf mc ms rl : Nat} {R : Room} {s : State} {args : Array Value} (h : CwB own idx y bytes nL ret n) (hts : ∀ w ∈ lw_good, w.before args s = true) (hf : rf + 1 ≤ R.frames) (hl : 8 + (nL + 11) + rl ≤ R.locals) :
    CallB R s args own idx y bytes nL ret (Cond.code y bytes nL ret :: lw_good) { frames := rf, cells := mc, slots := ms, locals := rl } mc ms n := by
  obtain ⟨h1, h2, h3, h4, h5, h6⟩ := h
  refine callB_of n hts (lg_goodIn _ (fun w hw => ?_)) rfl rfl rfl (hts _ h5) (hts _ h4) ⟨h1, h2, h3⟩ ⟨hf, hl⟩
  rcases List.mem_cons.mp hw with e | e
  · rw [e]; exact h6
  · exact e
theorem hw_of_run {Z : Zx} {own : String} {cc : ByteArray} {rf rc rs rl k n pc mc ms : Nat} {L : List (Option Value)} {st0 rest : List Value} {μ : Mem} {Post : Option Value → Mem → Prop} {PostX : String → Mem → Prop} {a : Array Value}
    (kk : ∀ (v : Option Value) (μ' : Mem), Post v μ' → HW Z (k + mc) (n + ms) (pc + 3) L (v.toList ++ rest) μ') (kx : ∀ (E : String) (μ' : Mem), PostX E μ' → HX Z (k + mc) (n + ms) pc L E μ')
    (C : Cx Z own cc rf rc rs rl)
    (hr : match Z with | (p, l, e, R, s, m, args, below, meth, c, G, A, nL, Q) => ∀ (H : Heap) (locs : List Loc) (ls : Array Slot), RepH G A μ H → va_S A s.heap H locs → lhas ls nL L → vx_Run p l e R s m args below meth c H locs k n mc ms (F0 m pc ls st0) rest (QcOf G A Post a) (XcOf G A PostX) A) : HW Z k n pc L st0 μ := by
  obtain ⟨p, l, e, R, s, m, args, below, meth, c, G, A, nL, Q⟩ := Z
  intro H locs ls hR hS hl T hT X
  rcases hr H locs ls hR hS hl T hT X with ⟨v, st₀, t, T', Lo, h0, X', hL, e1, e2, ⟨v', μ', hv, hp, hb, hF⟩, st⟩ | ⟨q, st₀, t, T', Lo, E, ce, h0, X', hL, e1, e2, ⟨μ', hp, hb, hF⟩, hce, hcv, hcl, st⟩
  · cases hv
    obtain ⟨k1, k2, k3⟩ := vx_keep h0 e1 hS (fun _ _ h => h) (fun _ h => h) hL hF
    obtain ⟨t2, a1, b1⟩ := kk v μ' hp T'.heap (locs ++ Lo) ls (by rw [e1]; exact hb) k3 hl T' rfl X'
    exact ⟨t2, st t2 a1, b1⟩
  · obtain ⟨k1, k2, k3⟩ := vx_keep h0 e1 hS (fun _ _ h => h) (fun _ h => h) hL hF
    obtain ⟨t2, a1, b1⟩ := kx E μ' hp T'.heap (locs ++ Lo) ls rest q ce (by rw [e1]; exact hb) k3 hl (by rw [e1]; exact hce) hcv hcl T' rfl X'
    exact ⟨t2, st.trans a1, b1⟩
theorem Cx.pcof {p : Program} {l : Launch} {e : Env} {R : Room} {s : State} {m : MethodId} {args : Array Value} {below : List Frame} {meth : Method} {c : Code} {G : Gx} {A : Nat → Prop} {nL : Nat} {Q : State → Prop} {own : String} {cc : ByteArray} {rf rc rs rl : Nat} {H : Heap} {locs : List Loc} {av : List Value} {μ : Mem}
    (C : Cx (p, l, e, R, s, m, args, below, meth, c, G, A, nL, Q) own cc rf rc rs rl) (hR : RepH G A μ H) (hS : va_S A s.heap H locs) : ∀ U : State, U.heap = H → s.WarmedH U.vm → PcOf G A av μ av.toArray U := by
  obtain ⟨-, -, hK, hE, hA, -⟩ := C
  intro U hU hW
  refine ⟨rfl, fun q hq => hA q (Nat.le_trans hS.1 (by rw [← hU]; exact hq)), by rw [hU]; exact hR, hK.warm hW, ?_⟩
  rw [hU]
  exact (hE.moved hW.alike).kept (fun a h1 h2 => hS.2.1 a h1 h2)
/-- a virtual call, of a method found in the receiver's own class -/
theorem h_callV_g {Z : Zx} {own : String} {cc : ByteArray} {rf rc rs rl k n pc mc ms rf' rl' idx nP nL' ci : Nat} {L : List (Option Value)} {rest As : List Value} {μ : Mem} {Post : Option Value → Mem → Prop} {PostX : String → Mem → Prop} {y : MethodName} {bytes : ByteArray} {ret : Option FieldType} {b : Nat} {T : u_T} {N : Nat}
    (C : Cx Z own cc rf rc rs rl) (hM : Kon Z.l y bytes nL' ret rf' mc ms rl' Z.G (.ref b :: As) μ Post PostX) (cw : CwB own idx y bytes nL' ret nP) (hi : Cond.instanceMethod y ∈ lw_good) (hse : Cond.selects y.cls y y ∈ lw_good) (hc : vwCl[ci]? = some (y.cls, T, N)) (hci : ci < 10) (hk : μ.kd b % 32 = ci + 1) (hn : As.length = nP) (hw : (rest.map fun v => v.category).sum ≤ 8)
    (hf : rf' + 1 ≤ rf) (hlo : 8 + (nL' + 11) + rl' ≤ rl) (hcl : k + mc ≤ rc) (hsl : n + ms ≤ rs) (hdg : decode cc pc = .ok (.invokevirtual idx, 3))
    (kk : ∀ (v : Option Value) (μ' : Mem), Post v μ' → HW Z (k + mc) (n + ms) (pc + 3) L (v.toList ++ rest) μ') (kx : ∀ (E : String) (μ' : Mem), PostX E μ' → HX Z (k + mc) (n + ms) pc L E μ') : HW Z k n pc L (As.reverse ++ .ref b :: rest) μ := by
  obtain ⟨p, l, e, R, s, m, args, below, meth, c, G, A, nL, Q⟩ := Z
  have C0 := C
  obtain ⟨hfix, rfl, hK, hE, hA, hst, -⟩ := C
  refine hw_of_run (a := (Value.ref b :: As).toArray) kk kx C0 ?_
  intro H locs ls hR hS hl
  obtain ⟨r, hr, cell, g1, g2, g3, -⟩ := hR.obj hk hci
  have hr2 : r = (y.cls, T, N) := Option.some.inj (hr.symm.trans hc)
  subst hr2
  exact vx_runV hfix (hM hst A) ⟨cw.to hfix.2.2.2.2 hf hlo, hfix.2.2.2.2 _ hi, hfix.2.2.2.2 _ hse⟩ ⟨PcOf.blind, ⟨cell, g1, by rw [g3]; rfl, by rw [g2]; exact (hK.1.1 ci _ hc).2.1⟩, Cx.pcof C0 hR hS⟩ rfl hn hl.1 rfl (lv_room hw) hdg ⟨hcl, hsl⟩
theorem h_callS_g {Z : Zx} {own : String} {cc : ByteArray} {rf rc rs rl k n pc mc ms rf' rl' idx nP nL' : Nat} {L : List (Option Value)} {rest As : List Value} {μ : Mem} {Post : Option Value → Mem → Prop} {PostX : String → Mem → Prop} {y : MethodName} {bytes : ByteArray} {ret : Option FieldType}
    (C : Cx Z own cc rf rc rs rl) (hM : Kon Z.l y bytes nL' ret rf' mc ms rl' Z.G As μ Post PostX) (cw : CwB own idx y bytes nL' ret nP) (hi : Cond.static y ∈ lw_good) (hn : As.length = nP) (hw : (rest.map fun v => v.category).sum ≤ 8)
    (hf : rf' + 1 ≤ rf) (hlo : 8 + (nL' + 11) + rl' ≤ rl) (hcl : k + mc ≤ rc) (hsl : n + ms ≤ rs) (hdg : decode cc pc = .ok (.invokestatic idx, 3))
    (kk : ∀ (v : Option Value) (μ' : Mem), Post v μ' → HW Z (k + mc) (n + ms) (pc + 3) L (v.toList ++ rest) μ') (kx : ∀ (E : String) (μ' : Mem), PostX E μ' → HX Z (k + mc) (n + ms) pc L E μ') : HW Z k n pc L (As.reverse ++ rest) μ := by
  obtain ⟨p, l, e, R, s, m, args, below, meth, c, G, A, nL, Q⟩ := Z
  have C0 := C
  obtain ⟨hfix, rfl, hK, hE, hA, hst, -⟩ := C
  refine hw_of_run (a := As.toArray) kk kx C0 ?_
  intro H locs ls hR hS hl
  exact vx_runS hfix (hM hst A) ⟨cw.to hfix.2.2.2.2 hf hlo, hfix.2.2.2.2 _ hi⟩ ⟨PcOf.blind, Cx.pcof C0 hR hS⟩ rfl hn hl.1 rfl (lv_room hw) hdg ⟨hcl, hsl⟩
theorem h_callI_g {Z : Zx} {own : String} {cc : ByteArray} {rf rc rs rl k n pc mc ms rf' rl' idx nP nL' : Nat} {L : List (Option Value)} {rest As : List Value} {μ : Mem} {Post : Option Value → Mem → Prop} {PostX : String → Mem → Prop} {y : MethodName} {bytes : ByteArray} {b : Nat}
    (C : Cx Z own cc rf rc rs rl) (hM : Kon Z.l y bytes nL' none rf' mc ms rl' Z.G (.ref b :: As) μ Post PostX) (cw : CwB own idx y bytes nL' none nP) (hi : Cond.instanceMethod y ∈ lw_good) (hy : y.name = "<init>") (hn : As.length = nP) (hw : (rest.map fun v => v.category).sum ≤ 8)
    (hf : rf' + 1 ≤ rf) (hlo : 8 + (nL' + 11) + rl' ≤ rl) (hcl : k + mc ≤ rc) (hsl : n + ms ≤ rs) (hdg : decode cc pc = .ok (.invokespecial idx, 3))
    (kk : ∀ (v : Option Value) (μ' : Mem), Post v μ' → HW Z (k + mc) (n + ms) (pc + 3) L (v.toList ++ rest) μ') (kx : ∀ (E : String) (μ' : Mem), PostX E μ' → HX Z (k + mc) (n + ms) pc L E μ') : HW Z k n pc L (As.reverse ++ .ref b :: rest) μ := by
  obtain ⟨p, l, e, R, s, m, args, below, meth, c, G, A, nL, Q⟩ := Z
  have C0 := C
  obtain ⟨hfix, rfl, hK, hE, hA, hst, -⟩ := C
  refine hw_of_run (a := (Value.ref b :: As).toArray) kk kx C0 ?_
  intro H locs ls hR hS hl
  exact vx_runI hfix (hM hst A) ⟨cw.to hfix.2.2.2.2 hf hlo, hy, hfix.2.2.2.2 _ hi⟩ ⟨PcOf.blind, Cx.pcof C0 hR hS⟩ rfl hn hl.1 rfl (lv_room hw) hdg ⟨hcl, hsl⟩
theorem h_callV0 {Z : Zx} {own : String} {cc : ByteArray} {rf rc rs rl k n pc mc ms rf' rl' idx nL' ci : Nat} {L : List (Option Value)} {rest : List Value} {a_ : Value} {μ : Mem} {Post : Option Value → Mem → Prop} {PostX : String → Mem → Prop} {y : MethodName} {bytes : ByteArray} {ret : Option FieldType} {b : Nat} {T : u_T} {N : Nat} (C : Cx Z own cc rf rc rs rl) (hM : Kon Z.l y bytes nL' ret rf' mc ms rl' Z.G (.ref b :: []) μ Post PostX) (cw : CwB own idx y bytes nL' ret 0) (hi : Cond.instanceMethod y ∈ lw_good) (hse : Cond.selects y.cls y y ∈ lw_good) (hc : vwCl[ci]? = some (y.cls, T, N)) (hci : ci < 10) (hk : μ.kd b % 32 = ci + 1) (d : decode cc pc = .ok (.invokevirtual idx, 3)) (hw : (rest.map fun v => v.category).sum ≤ 8) (hf : rf' + 1 ≤ rf) (hlo : 8 + (nL' + 11) + rl' ≤ rl) (hcl : k + mc ≤ rc) (hsl : n + ms ≤ rs)
    (kk : ∀ (v : Option Value) (μ' : Mem), Post v μ' → HW Z (k + mc) (n + ms) (pc + 3) L (v.toList ++ rest) μ') (kx : ∀ (E : String) (μ' : Mem), PostX E μ' → HX Z (k + mc) (n + ms) pc L E μ') : HW Z k n pc L (.ref b :: rest) μ := h_callV_g (As := []) C hM cw hi hse hc hci hk rfl hw hf hlo hcl hsl d kk kx
theorem h_callV1 {Z : Zx} {own : String} {cc : ByteArray} {rf rc rs rl k n pc mc ms rf' rl' idx nL' ci : Nat} {L : List (Option Value)} {rest : List Value} {a0 : Value} {μ : Mem} {Post : Option Value → Mem → Prop} {PostX : String → Mem → Prop} {y : MethodName} {bytes : ByteArray} {ret : Option FieldType} {b : Nat} {T : u_T} {N : Nat} (C : Cx Z own cc rf rc rs rl) (hM : Kon Z.l y bytes nL' ret rf' mc ms rl' Z.G (.ref b :: [a0]) μ Post PostX) (cw : CwB own idx y bytes nL' ret 1) (hi : Cond.instanceMethod y ∈ lw_good) (hse : Cond.selects y.cls y y ∈ lw_good) (hc : vwCl[ci]? = some (y.cls, T, N)) (hci : ci < 10) (hk : μ.kd b % 32 = ci + 1) (d : decode cc pc = .ok (.invokevirtual idx, 3)) (hw : (rest.map fun v => v.category).sum ≤ 8) (hf : rf' + 1 ≤ rf) (hlo : 8 + (nL' + 11) + rl' ≤ rl) (hcl : k + mc ≤ rc) (hsl : n + ms ≤ rs)
    (kk : ∀ (v : Option Value) (μ' : Mem), Post v μ' → HW Z (k + mc) (n + ms) (pc + 3) L (v.toList ++ rest) μ') (kx : ∀ (E : String) (μ' : Mem), PostX E μ' → HX Z (k + mc) (n + ms) pc L E μ') : HW Z k n pc L (a0 :: .ref b :: rest) μ := h_callV_g (As := [a0]) C hM cw hi hse hc hci hk rfl hw hf hlo hcl hsl d kk kx
theorem h_callV2 {Z : Zx} {own : String} {cc : ByteArray} {rf rc rs rl k n pc mc ms rf' rl' idx nL' ci : Nat} {L : List (Option Value)} {rest : List Value} {a0 a1 : Value} {μ : Mem} {Post : Option Value → Mem → Prop} {PostX : String → Mem → Prop} {y : MethodName} {bytes : ByteArray} {ret : Option FieldType} {b : Nat} {T : u_T} {N : Nat} (C : Cx Z own cc rf rc rs rl) (hM : Kon Z.l y bytes nL' ret rf' mc ms rl' Z.G (.ref b :: [a0, a1]) μ Post PostX) (cw : CwB own idx y bytes nL' ret 2) (hi : Cond.instanceMethod y ∈ lw_good) (hse : Cond.selects y.cls y y ∈ lw_good) (hc : vwCl[ci]? = some (y.cls, T, N)) (hci : ci < 10) (hk : μ.kd b % 32 = ci + 1) (d : decode cc pc = .ok (.invokevirtual idx, 3)) (hw : (rest.map fun v => v.category).sum ≤ 8) (hf : rf' + 1 ≤ rf) (hlo : 8 + (nL' + 11) + rl' ≤ rl) (hcl : k + mc ≤ rc) (hsl : n + ms ≤ rs)
    (kk : ∀ (v : Option Value) (μ' : Mem), Post v μ' → HW Z (k + mc) (n + ms) (pc + 3) L (v.toList ++ rest) μ') (kx : ∀ (E : String) (μ' : Mem), PostX E μ' → HX Z (k + mc) (n + ms) pc L E μ') : HW Z k n pc L (a1 :: a0 :: .ref b :: rest) μ := h_callV_g (As := [a0, a1]) C hM cw hi hse hc hci hk rfl hw hf hlo hcl hsl d kk kx
theorem h_callV3 {Z : Zx} {own : String} {cc : ByteArray} {rf rc rs rl k n pc mc ms rf' rl' idx nL' ci : Nat} {L : List (Option Value)} {rest : List Value} {a0 a1 a2 : Value} {μ : Mem} {Post : Option Value → Mem → Prop} {PostX : String → Mem → Prop} {y : MethodName} {bytes : ByteArray} {ret : Option FieldType} {b : Nat} {T : u_T} {N : Nat} (C : Cx Z own cc rf rc rs rl) (hM : Kon Z.l y bytes nL' ret rf' mc ms rl' Z.G (.ref b :: [a0, a1, a2]) μ Post PostX) (cw : CwB own idx y bytes nL' ret 3) (hi : Cond.instanceMethod y ∈ lw_good) (hse : Cond.selects y.cls y y ∈ lw_good) (hc : vwCl[ci]? = some (y.cls, T, N)) (hci : ci < 10) (hk : μ.kd b % 32 = ci + 1) (d : decode cc pc = .ok (.invokevirtual idx, 3)) (hw : (rest.map fun v => v.category).sum ≤ 8) (hf : rf' + 1 ≤ rf) (hlo : 8 + (nL' + 11) + rl' ≤ rl) (hcl : k + mc ≤ rc) (hsl : n + ms ≤ rs)
    (kk : ∀ (v : Option Value) (μ' : Mem), Post v μ' → HW Z (k + mc) (n + ms) (pc + 3) L (v.toList ++ rest) μ') (kx : ∀ (E : String) (μ' : Mem), PostX E μ' → HX Z (k + mc) (n + ms) pc L E μ') : HW Z k n pc L (a2 :: a1 :: a0 :: .ref b :: rest) μ := h_callV_g (As := [a0, a1, a2]) C hM cw hi hse hc hci hk rfl hw hf hlo hcl hsl d kk kx
theorem h_callV4 {Z : Zx} {own : String} {cc : ByteArray} {rf rc rs rl k n pc mc ms rf' rl' idx nL' ci : Nat} {L : List (Option Value)} {rest : List Value} {a0 a1 a2 a3 : Value} {μ : Mem} {Post : Option Value → Mem → Prop} {PostX : String → Mem → Prop} {y : MethodName} {bytes : ByteArray} {ret : Option FieldType} {b : Nat} {T : u_T} {N : Nat} (C : Cx Z own cc rf rc rs rl) (hM : Kon Z.l y bytes nL' ret rf' mc ms rl' Z.G (.ref b :: [a0, a1, a2, a3]) μ Post PostX) (cw : CwB own idx y bytes nL' ret 4) (hi : Cond.instanceMethod y ∈ lw_good) (hse : Cond.selects y.cls y y ∈ lw_good) (hc : vwCl[ci]? = some (y.cls, T, N)) (hci : ci < 10) (hk : μ.kd b % 32 = ci + 1) (d : decode cc pc = .ok (.invokevirtual idx, 3)) (hw : (rest.map fun v => v.category).sum ≤ 8) (hf : rf' + 1 ≤ rf) (hlo : 8 + (nL' + 11) + rl' ≤ rl) (hcl : k + mc ≤ rc) (hsl : n + ms ≤ rs)
    (kk : ∀ (v : Option Value) (μ' : Mem), Post v μ' → HW Z (k + mc) (n + ms) (pc + 3) L (v.toList ++ rest) μ') (kx : ∀ (E : String) (μ' : Mem), PostX E μ' → HX Z (k + mc) (n + ms) pc L E μ') : HW Z k n pc L (a3 :: a2 :: a1 :: a0 :: .ref b :: rest) μ := h_callV_g (As := [a0, a1, a2, a3]) C hM cw hi hse hc hci hk rfl hw hf hlo hcl hsl d kk kx
theorem h_callV5 {Z : Zx} {own : String} {cc : ByteArray} {rf rc rs rl k n pc mc ms rf' rl' idx nL' ci : Nat} {L : List (Option Value)} {rest : List Value} {a0 a1 a2 a3 a4 : Value} {μ : Mem} {Post : Option Value → Mem → Prop} {PostX : String → Mem → Prop} {y : MethodName} {bytes : ByteArray} {ret : Option FieldType} {b : Nat} {T : u_T} {N : Nat} (C : Cx Z own cc rf rc rs rl) (hM : Kon Z.l y bytes nL' ret rf' mc ms rl' Z.G (.ref b :: [a0, a1, a2, a3, a4]) μ Post PostX) (cw : CwB own idx y bytes nL' ret 5) (hi : Cond.instanceMethod y ∈ lw_good) (hse : Cond.selects y.cls y y ∈ lw_good) (hc : vwCl[ci]? = some (y.cls, T, N)) (hci : ci < 10) (hk : μ.kd b % 32 = ci + 1) (d : decode cc pc = .ok (.invokevirtual idx, 3)) (hw : (rest.map fun v => v.category).sum ≤ 8) (hf : rf' + 1 ≤ rf) (hlo : 8 + (nL' + 11) + rl' ≤ rl) (hcl : k + mc ≤ rc) (hsl : n + ms ≤ rs)
    (kk : ∀ (v : Option Value) (μ' : Mem), Post v μ' → HW Z (k + mc) (n + ms) (pc + 3) L (v.toList ++ rest) μ') (kx : ∀ (E : String) (μ' : Mem), PostX E μ' → HX Z (k + mc) (n + ms) pc L E μ') : HW Z k n pc L (a4 :: a3 :: a2 :: a1 :: a0 :: .ref b :: rest) μ := h_callV_g (As := [a0, a1, a2, a3, a4]) C hM cw hi hse hc hci hk rfl hw hf hlo hcl hsl d kk kx
theorem h_callS0 {Z : Zx} {own : String} {cc : ByteArray} {rf rc rs rl k n pc mc ms rf' rl' idx nL' : Nat} {L : List (Option Value)} {rest : List Value} {a_ : Value} {μ : Mem} {Post : Option Value → Mem → Prop} {PostX : String → Mem → Prop} {y : MethodName} {bytes : ByteArray} {ret : Option FieldType} (C : Cx Z own cc rf rc rs rl) (hM : Kon Z.l y bytes nL' ret rf' mc ms rl' Z.G [] μ Post PostX) (cw : CwB own idx y bytes nL' ret 0) (hi : Cond.static y ∈ lw_good) (d : decode cc pc = .ok (.invokestatic idx, 3)) (hw : (rest.map fun v => v.category).sum ≤ 8) (hf : rf' + 1 ≤ rf) (hlo : 8 + (nL' + 11) + rl' ≤ rl) (hcl : k + mc ≤ rc) (hsl : n + ms ≤ rs)
    (kk : ∀ (v : Option Value) (μ' : Mem), Post v μ' → HW Z (k + mc) (n + ms) (pc + 3) L (v.toList ++ rest) μ') (kx : ∀ (E : String) (μ' : Mem), PostX E μ' → HX Z (k + mc) (n + ms) pc L E μ') : HW Z k n pc L (rest) μ := h_callS_g (As := []) C hM cw hi rfl hw hf hlo hcl hsl d kk kx
theorem h_callS1 {Z : Zx} {own : String} {cc : ByteArray} {rf rc rs rl k n pc mc ms rf' rl' idx nL' : Nat} {L : List (Option Value)} {rest : List Value} {a0 : Value} {μ : Mem} {Post : Option Value → Mem → Prop} {PostX : String → Mem → Prop} {y : MethodName} {bytes : ByteArray} {ret : Option FieldType} (C : Cx Z own cc rf rc rs rl) (hM : Kon Z.l y bytes nL' ret rf' mc ms rl' Z.G [a0] μ Post PostX) (cw : CwB own idx y bytes nL' ret 1) (hi : Cond.static y ∈ lw_good) (d : decode cc pc = .ok (.invokestatic idx, 3)) (hw : (rest.map fun v => v.category).sum ≤ 8) (hf : rf' + 1 ≤ rf) (hlo : 8 + (nL' + 11) + rl' ≤ rl) (hcl : k + mc ≤ rc) (hsl : n + ms ≤ rs)
    (kk : ∀ (v : Option Value) (μ' : Mem), Post v μ' → HW Z (k + mc) (n + ms) (pc + 3) L (v.toList ++ rest) μ') (kx : ∀ (E : String) (μ' : Mem), PostX E μ' → HX Z (k + mc) (n + ms) pc L E μ') : HW Z k n pc L (a0 :: rest) μ := h_callS_g (As := [a0]) C hM cw hi rfl hw hf hlo hcl hsl d kk kx
theorem h_callS2 {Z : Zx} {own : String} {cc : ByteArray} {rf rc rs rl k n pc mc ms rf' rl' idx nL' : Nat} {L : List (Option Value)} {rest : List Value} {a0 a1 : Value} {μ : Mem} {Post : Option Value → Mem → Prop} {PostX : String → Mem → Prop} {y : MethodName} {bytes : ByteArray} {ret : Option FieldType} (C : Cx Z own cc rf rc rs rl) (hM : Kon Z.l y bytes nL' ret rf' mc ms rl' Z.G [a0, a1] μ Post PostX) (cw : CwB own idx y bytes nL' ret 2) (hi : Cond.static y ∈ lw_good) (d : decode cc pc = .ok (.invokestatic idx, 3)) (hw : (rest.map fun v => v.category).sum ≤ 8) (hf : rf' + 1 ≤ rf) (hlo : 8 + (nL' + 11) + rl' ≤ rl) (hcl : k + mc ≤ rc) (hsl : n + ms ≤ rs)
    (kk : ∀ (v : Option Value) (μ' : Mem), Post v μ' → HW Z (k + mc) (n + ms) (pc + 3) L (v.toList ++ rest) μ') (kx : ∀ (E : String) (μ' : Mem), PostX E μ' → HX Z (k + mc) (n + ms) pc L E μ') : HW Z k n pc L (a1 :: a0 :: rest) μ := h_callS_g (As := [a0, a1]) C hM cw hi rfl hw hf hlo hcl hsl d kk kx
theorem h_callS3 {Z : Zx} {own : String} {cc : ByteArray} {rf rc rs rl k n pc mc ms rf' rl' idx nL' : Nat} {L : List (Option Value)} {rest : List Value} {a0 a1 a2 : Value} {μ : Mem} {Post : Option Value → Mem → Prop} {PostX : String → Mem → Prop} {y : MethodName} {bytes : ByteArray} {ret : Option FieldType} (C : Cx Z own cc rf rc rs rl) (hM : Kon Z.l y bytes nL' ret rf' mc ms rl' Z.G [a0, a1, a2] μ Post PostX) (cw : CwB own idx y bytes nL' ret 3) (hi : Cond.static y ∈ lw_good) (d : decode cc pc = .ok (.invokestatic idx, 3)) (hw : (rest.map fun v => v.category).sum ≤ 8) (hf : rf' + 1 ≤ rf) (hlo : 8 + (nL' + 11) + rl' ≤ rl) (hcl : k + mc ≤ rc) (hsl : n + ms ≤ rs)
    (kk : ∀ (v : Option Value) (μ' : Mem), Post v μ' → HW Z (k + mc) (n + ms) (pc + 3) L (v.toList ++ rest) μ') (kx : ∀ (E : String) (μ' : Mem), PostX E μ' → HX Z (k + mc) (n + ms) pc L E μ') : HW Z k n pc L (a2 :: a1 :: a0 :: rest) μ := h_callS_g (As := [a0, a1, a2]) C hM cw hi rfl hw hf hlo hcl hsl d kk kx
theorem h_callS4 {Z : Zx} {own : String} {cc : ByteArray} {rf rc rs rl k n pc mc ms rf' rl' idx nL' : Nat} {L : List (Option Value)} {rest : List Value} {a0 a1 a2 a3 : Value} {μ : Mem} {Post : Option Value → Mem → Prop} {PostX : String → Mem → Prop} {y : MethodName} {bytes : ByteArray} {ret : Option FieldType} (C : Cx Z own cc rf rc rs rl) (hM : Kon Z.l y bytes nL' ret rf' mc ms rl' Z.G [a0, a1, a2, a3] μ Post PostX) (cw : CwB own idx y bytes nL' ret 4) (hi : Cond.static y ∈ lw_good) (d : decode cc pc = .ok (.invokestatic idx, 3)) (hw : (rest.map fun v => v.category).sum ≤ 8) (hf : rf' + 1 ≤ rf) (hlo : 8 + (nL' + 11) + rl' ≤ rl) (hcl : k + mc ≤ rc) (hsl : n + ms ≤ rs)
    (kk : ∀ (v : Option Value) (μ' : Mem), Post v μ' → HW Z (k + mc) (n + ms) (pc + 3) L (v.toList ++ rest) μ') (kx : ∀ (E : String) (μ' : Mem), PostX E μ' → HX Z (k + mc) (n + ms) pc L E μ') : HW Z k n pc L (a3 :: a2 :: a1 :: a0 :: rest) μ := h_callS_g (As := [a0, a1, a2, a3]) C hM cw hi rfl hw hf hlo hcl hsl d kk kx
theorem h_callS5 {Z : Zx} {own : String} {cc : ByteArray} {rf rc rs rl k n pc mc ms rf' rl' idx nL' : Nat} {L : List (Option Value)} {rest : List Value} {a0 a1 a2 a3 a4 : Value} {μ : Mem} {Post : Option Value → Mem → Prop} {PostX : String → Mem → Prop} {y : MethodName} {bytes : ByteArray} {ret : Option FieldType} (C : Cx Z own cc rf rc rs rl) (hM : Kon Z.l y bytes nL' ret rf' mc ms rl' Z.G [a0, a1, a2, a3, a4] μ Post PostX) (cw : CwB own idx y bytes nL' ret 5) (hi : Cond.static y ∈ lw_good) (d : decode cc pc = .ok (.invokestatic idx, 3)) (hw : (rest.map fun v => v.category).sum ≤ 8) (hf : rf' + 1 ≤ rf) (hlo : 8 + (nL' + 11) + rl' ≤ rl) (hcl : k + mc ≤ rc) (hsl : n + ms ≤ rs)
    (kk : ∀ (v : Option Value) (μ' : Mem), Post v μ' → HW Z (k + mc) (n + ms) (pc + 3) L (v.toList ++ rest) μ') (kx : ∀ (E : String) (μ' : Mem), PostX E μ' → HX Z (k + mc) (n + ms) pc L E μ') : HW Z k n pc L (a4 :: a3 :: a2 :: a1 :: a0 :: rest) μ := h_callS_g (As := [a0, a1, a2, a3, a4]) C hM cw hi rfl hw hf hlo hcl hsl d kk kx
theorem h_callS6 {Z : Zx} {own : String} {cc : ByteArray} {rf rc rs rl k n pc mc ms rf' rl' idx nL' : Nat} {L : List (Option Value)} {rest : List Value} {a0 a1 a2 a3 a4 a5 : Value} {μ : Mem} {Post : Option Value → Mem → Prop} {PostX : String → Mem → Prop} {y : MethodName} {bytes : ByteArray} {ret : Option FieldType} (C : Cx Z own cc rf rc rs rl) (hM : Kon Z.l y bytes nL' ret rf' mc ms rl' Z.G [a0, a1, a2, a3, a4, a5] μ Post PostX) (cw : CwB own idx y bytes nL' ret 6) (hi : Cond.static y ∈ lw_good) (d : decode cc pc = .ok (.invokestatic idx, 3)) (hw : (rest.map fun v => v.category).sum ≤ 8) (hf : rf' + 1 ≤ rf) (hlo : 8 + (nL' + 11) + rl' ≤ rl) (hcl : k + mc ≤ rc) (hsl : n + ms ≤ rs)
    (kk : ∀ (v : Option Value) (μ' : Mem), Post v μ' → HW Z (k + mc) (n + ms) (pc + 3) L (v.toList ++ rest) μ') (kx : ∀ (E : String) (μ' : Mem), PostX E μ' → HX Z (k + mc) (n + ms) pc L E μ') : HW Z k n pc L (a5 :: a4 :: a3 :: a2 :: a1 :: a0 :: rest) μ := h_callS_g (As := [a0, a1, a2, a3, a4, a5]) C hM cw hi rfl hw hf hlo hcl hsl d kk kx
theorem h_callS7 {Z : Zx} {own : String} {cc : ByteArray} {rf rc rs rl k n pc mc ms rf' rl' idx nL' : Nat} {L : List (Option Value)} {rest : List Value} {a0 a1 a2 a3 a4 a5 a6 : Value} {μ : Mem} {Post : Option Value → Mem → Prop} {PostX : String → Mem → Prop} {y : MethodName} {bytes : ByteArray} {ret : Option FieldType} (C : Cx Z own cc rf rc rs rl) (hM : Kon Z.l y bytes nL' ret rf' mc ms rl' Z.G [a0, a1, a2, a3, a4, a5, a6] μ Post PostX) (cw : CwB own idx y bytes nL' ret 7) (hi : Cond.static y ∈ lw_good) (d : decode cc pc = .ok (.invokestatic idx, 3)) (hw : (rest.map fun v => v.category).sum ≤ 8) (hf : rf' + 1 ≤ rf) (hlo : 8 + (nL' + 11) + rl' ≤ rl) (hcl : k + mc ≤ rc) (hsl : n + ms ≤ rs)
    (kk : ∀ (v : Option Value) (μ' : Mem), Post v μ' → HW Z (k + mc) (n + ms) (pc + 3) L (v.toList ++ rest) μ') (kx : ∀ (E : String) (μ' : Mem), PostX E μ' → HX Z (k + mc) (n + ms) pc L E μ') : HW Z k n pc L (a6 :: a5 :: a4 :: a3 :: a2 :: a1 :: a0 :: rest) μ := h_callS_g (As := [a0, a1, a2, a3, a4, a5, a6]) C hM cw hi rfl hw hf hlo hcl hsl d kk kx
theorem h_callS8 {Z : Zx} {own : String} {cc : ByteArray} {rf rc rs rl k n pc mc ms rf' rl' idx nL' : Nat} {L : List (Option Value)} {rest : List Value} {a0 a1 a2 a3 a4 a5 a6 a7 : Value} {μ : Mem} {Post : Option Value → Mem → Prop} {PostX : String → Mem → Prop} {y : MethodName} {bytes : ByteArray} {ret : Option FieldType} (C : Cx Z own cc rf rc rs rl) (hM : Kon Z.l y bytes nL' ret rf' mc ms rl' Z.G [a0, a1, a2, a3, a4, a5, a6, a7] μ Post PostX) (cw : CwB own idx y bytes nL' ret 8) (hi : Cond.static y ∈ lw_good) (d : decode cc pc = .ok (.invokestatic idx, 3)) (hw : (rest.map fun v => v.category).sum ≤ 8) (hf : rf' + 1 ≤ rf) (hlo : 8 + (nL' + 11) + rl' ≤ rl) (hcl : k + mc ≤ rc) (hsl : n + ms ≤ rs)
    (kk : ∀ (v : Option Value) (μ' : Mem), Post v μ' → HW Z (k + mc) (n + ms) (pc + 3) L (v.toList ++ rest) μ') (kx : ∀ (E : String) (μ' : Mem), PostX E μ' → HX Z (k + mc) (n + ms) pc L E μ') : HW Z k n pc L (a7 :: a6 :: a5 :: a4 :: a3 :: a2 :: a1 :: a0 :: rest) μ := h_callS_g (As := [a0, a1, a2, a3, a4, a5, a6, a7]) C hM cw hi rfl hw hf hlo hcl hsl d kk kx
theorem h_callI0 {Z : Zx} {own : String} {cc : ByteArray} {rf rc rs rl k n pc mc ms rf' rl' idx nL' : Nat} {L : List (Option Value)} {rest : List Value} {a_ : Value} {μ : Mem} {Post : Option Value → Mem → Prop} {PostX : String → Mem → Prop} {y : MethodName} {bytes : ByteArray} {b : Nat} (C : Cx Z own cc rf rc rs rl) (hM : Kon Z.l y bytes nL' none rf' mc ms rl' Z.G (.ref b :: []) μ Post PostX) (cw : CwB own idx y bytes nL' none 0) (hi : Cond.instanceMethod y ∈ lw_good) (hy : y.name = "<init>") (d : decode cc pc = .ok (.invokespecial idx, 3)) (hw : (rest.map fun v => v.category).sum ≤ 8) (hf : rf' + 1 ≤ rf) (hlo : 8 + (nL' + 11) + rl' ≤ rl) (hcl : k + mc ≤ rc) (hsl : n + ms ≤ rs)
    (kk : ∀ (v : Option Value) (μ' : Mem), Post v μ' → HW Z (k + mc) (n + ms) (pc + 3) L (v.toList ++ rest) μ') (kx : ∀ (E : String) (μ' : Mem), PostX E μ' → HX Z (k + mc) (n + ms) pc L E μ') : HW Z k n pc L (.ref b :: rest) μ := h_callI_g (As := []) C hM cw hi hy rfl hw hf hlo hcl hsl d kk kx
theorem h_callI1 {Z : Zx} {own : String} {cc : ByteArray} {rf rc rs rl k n pc mc ms rf' rl' idx nL' : Nat} {L : List (Option Value)} {rest : List Value} {a0 : Value} {μ : Mem} {Post : Option Value → Mem → Prop} {PostX : String → Mem → Prop} {y : MethodName} {bytes : ByteArray} {b : Nat} (C : Cx Z own cc rf rc rs rl) (hM : Kon Z.l y bytes nL' none rf' mc ms rl' Z.G (.ref b :: [a0]) μ Post PostX) (cw : CwB own idx y bytes nL' none 1) (hi : Cond.instanceMethod y ∈ lw_good) (hy : y.name = "<init>") (d : decode cc pc = .ok (.invokespecial idx, 3)) (hw : (rest.map fun v => v.category).sum ≤ 8) (hf : rf' + 1 ≤ rf) (hlo : 8 + (nL' + 11) + rl' ≤ rl) (hcl : k + mc ≤ rc) (hsl : n + ms ≤ rs)
    (kk : ∀ (v : Option Value) (μ' : Mem), Post v μ' → HW Z (k + mc) (n + ms) (pc + 3) L (v.toList ++ rest) μ') (kx : ∀ (E : String) (μ' : Mem), PostX E μ' → HX Z (k + mc) (n + ms) pc L E μ') : HW Z k n pc L (a0 :: .ref b :: rest) μ := h_callI_g (As := [a0]) C hM cw hi hy rfl hw hf hlo hcl hsl d kk kx
theorem h_callI2 {Z : Zx} {own : String} {cc : ByteArray} {rf rc rs rl k n pc mc ms rf' rl' idx nL' : Nat} {L : List (Option Value)} {rest : List Value} {a0 a1 : Value} {μ : Mem} {Post : Option Value → Mem → Prop} {PostX : String → Mem → Prop} {y : MethodName} {bytes : ByteArray} {b : Nat} (C : Cx Z own cc rf rc rs rl) (hM : Kon Z.l y bytes nL' none rf' mc ms rl' Z.G (.ref b :: [a0, a1]) μ Post PostX) (cw : CwB own idx y bytes nL' none 2) (hi : Cond.instanceMethod y ∈ lw_good) (hy : y.name = "<init>") (d : decode cc pc = .ok (.invokespecial idx, 3)) (hw : (rest.map fun v => v.category).sum ≤ 8) (hf : rf' + 1 ≤ rf) (hlo : 8 + (nL' + 11) + rl' ≤ rl) (hcl : k + mc ≤ rc) (hsl : n + ms ≤ rs)
    (kk : ∀ (v : Option Value) (μ' : Mem), Post v μ' → HW Z (k + mc) (n + ms) (pc + 3) L (v.toList ++ rest) μ') (kx : ∀ (E : String) (μ' : Mem), PostX E μ' → HX Z (k + mc) (n + ms) pc L E μ') : HW Z k n pc L (a1 :: a0 :: .ref b :: rest) μ := h_callI_g (As := [a0, a1]) C hM cw hi hy rfl hw hf hlo hcl hsl d kk kx
theorem h_callI3 {Z : Zx} {own : String} {cc : ByteArray} {rf rc rs rl k n pc mc ms rf' rl' idx nL' : Nat} {L : List (Option Value)} {rest : List Value} {a0 a1 a2 : Value} {μ : Mem} {Post : Option Value → Mem → Prop} {PostX : String → Mem → Prop} {y : MethodName} {bytes : ByteArray} {b : Nat} (C : Cx Z own cc rf rc rs rl) (hM : Kon Z.l y bytes nL' none rf' mc ms rl' Z.G (.ref b :: [a0, a1, a2]) μ Post PostX) (cw : CwB own idx y bytes nL' none 3) (hi : Cond.instanceMethod y ∈ lw_good) (hy : y.name = "<init>") (d : decode cc pc = .ok (.invokespecial idx, 3)) (hw : (rest.map fun v => v.category).sum ≤ 8) (hf : rf' + 1 ≤ rf) (hlo : 8 + (nL' + 11) + rl' ≤ rl) (hcl : k + mc ≤ rc) (hsl : n + ms ≤ rs)
    (kk : ∀ (v : Option Value) (μ' : Mem), Post v μ' → HW Z (k + mc) (n + ms) (pc + 3) L (v.toList ++ rest) μ') (kx : ∀ (E : String) (μ' : Mem), PostX E μ' → HX Z (k + mc) (n + ms) pc L E μ') : HW Z k n pc L (a2 :: a1 :: a0 :: .ref b :: rest) μ := h_callI_g (As := [a0, a1, a2]) C hM cw hi hy rfl hw hf hlo hcl hsl d kk kx
theorem h_callI4 {Z : Zx} {own : String} {cc : ByteArray} {rf rc rs rl k n pc mc ms rf' rl' idx nL' : Nat} {L : List (Option Value)} {rest : List Value} {a0 a1 a2 a3 : Value} {μ : Mem} {Post : Option Value → Mem → Prop} {PostX : String → Mem → Prop} {y : MethodName} {bytes : ByteArray} {b : Nat} (C : Cx Z own cc rf rc rs rl) (hM : Kon Z.l y bytes nL' none rf' mc ms rl' Z.G (.ref b :: [a0, a1, a2, a3]) μ Post PostX) (cw : CwB own idx y bytes nL' none 4) (hi : Cond.instanceMethod y ∈ lw_good) (hy : y.name = "<init>") (d : decode cc pc = .ok (.invokespecial idx, 3)) (hw : (rest.map fun v => v.category).sum ≤ 8) (hf : rf' + 1 ≤ rf) (hlo : 8 + (nL' + 11) + rl' ≤ rl) (hcl : k + mc ≤ rc) (hsl : n + ms ≤ rs)
    (kk : ∀ (v : Option Value) (μ' : Mem), Post v μ' → HW Z (k + mc) (n + ms) (pc + 3) L (v.toList ++ rest) μ') (kx : ∀ (E : String) (μ' : Mem), PostX E μ' → HX Z (k + mc) (n + ms) pc L E μ') : HW Z k n pc L (a3 :: a2 :: a1 :: a0 :: .ref b :: rest) μ := h_callI_g (As := [a0, a1, a2, a3]) C hM cw hi hy rfl hw hf hlo hcl hsl d kk kx
theorem h_callI5 {Z : Zx} {own : String} {cc : ByteArray} {rf rc rs rl k n pc mc ms rf' rl' idx nL' : Nat} {L : List (Option Value)} {rest : List Value} {a0 a1 a2 a3 a4 : Value} {μ : Mem} {Post : Option Value → Mem → Prop} {PostX : String → Mem → Prop} {y : MethodName} {bytes : ByteArray} {b : Nat} (C : Cx Z own cc rf rc rs rl) (hM : Kon Z.l y bytes nL' none rf' mc ms rl' Z.G (.ref b :: [a0, a1, a2, a3, a4]) μ Post PostX) (cw : CwB own idx y bytes nL' none 5) (hi : Cond.instanceMethod y ∈ lw_good) (hy : y.name = "<init>") (d : decode cc pc = .ok (.invokespecial idx, 3)) (hw : (rest.map fun v => v.category).sum ≤ 8) (hf : rf' + 1 ≤ rf) (hlo : 8 + (nL' + 11) + rl' ≤ rl) (hcl : k + mc ≤ rc) (hsl : n + ms ≤ rs)
    (kk : ∀ (v : Option Value) (μ' : Mem), Post v μ' → HW Z (k + mc) (n + ms) (pc + 3) L (v.toList ++ rest) μ') (kx : ∀ (E : String) (μ' : Mem), PostX E μ' → HX Z (k + mc) (n + ms) pc L E μ') : HW Z k n pc L (a4 :: a3 :: a2 :: a1 :: a0 :: .ref b :: rest) μ := h_callI_g (As := [a0, a1, a2, a3, a4]) C hM cw hi hy rfl hw hf hlo hcl hsl d kk kx
end
section
theorem lg_0 {w : Cond} (i : Nat) (h : (k2_sels lw_privs)[i]? = some w) (hg : goodWord w = true) : w ∈ lw_good := List.mem_filter.mpr ⟨List.mem_append_left _ (List.mem_of_getElem? h), hg⟩
theorem lg_1 {w : Cond} (i : Nat) (h : tables_1_1[i]? = some w) (hg : goodWord w = true) : w ∈ lw_good := List.mem_filter.mpr ⟨List.mem_append_right _ (show w ∈ tables_1_1 ++ (tables_1_2 ++ (tables_1_3 ++ (tables_1_4 ++ (tables_1_5 ++ (tables_1_6 ++ tables_1_7))))) from List.mem_append_left _ (List.mem_of_getElem? h)), hg⟩
theorem lg_2 {w : Cond} (i : Nat) (h : tables_1_2[i]? = some w) (hg : goodWord w = true) : w ∈ lw_good := List.mem_filter.mpr ⟨List.mem_append_right _ (show w ∈ tables_1_1 ++ (tables_1_2 ++ (tables_1_3 ++ (tables_1_4 ++ (tables_1_5 ++ (tables_1_6 ++ tables_1_7))))) from List.mem_append_right _ (List.mem_append_left _ (List.mem_of_getElem? h))), hg⟩
theorem lg_3 {w : Cond} (i : Nat) (h : tables_1_3[i]? = some w) (hg : goodWord w = true) : w ∈ lw_good := List.mem_filter.mpr ⟨List.mem_append_right _ (show w ∈ tables_1_1 ++ (tables_1_2 ++ (tables_1_3 ++ (tables_1_4 ++ (tables_1_5 ++ (tables_1_6 ++ tables_1_7))))) from List.mem_append_right _ (List.mem_append_right _ (List.mem_append_left _ (List.mem_of_getElem? h)))), hg⟩
theorem lg_4 {w : Cond} (i : Nat) (h : tables_1_4[i]? = some w) (hg : goodWord w = true) : w ∈ lw_good := List.mem_filter.mpr ⟨List.mem_append_right _ (show w ∈ tables_1_1 ++ (tables_1_2 ++ (tables_1_3 ++ (tables_1_4 ++ (tables_1_5 ++ (tables_1_6 ++ tables_1_7))))) from List.mem_append_right _ (List.mem_append_right _ (List.mem_append_right _ (List.mem_append_left _ (List.mem_of_getElem? h))))), hg⟩
theorem lg_5 {w : Cond} (i : Nat) (h : tables_1_5[i]? = some w) (hg : goodWord w = true) : w ∈ lw_good := List.mem_filter.mpr ⟨List.mem_append_right _ (show w ∈ tables_1_1 ++ (tables_1_2 ++ (tables_1_3 ++ (tables_1_4 ++ (tables_1_5 ++ (tables_1_6 ++ tables_1_7))))) from List.mem_append_right _ (List.mem_append_right _ (List.mem_append_right _ (List.mem_append_right _ (List.mem_append_left _ (List.mem_of_getElem? h)))))), hg⟩
theorem lg_6 {w : Cond} (i : Nat) (h : tables_1_6[i]? = some w) (hg : goodWord w = true) : w ∈ lw_good := List.mem_filter.mpr ⟨List.mem_append_right _ (show w ∈ tables_1_1 ++ (tables_1_2 ++ (tables_1_3 ++ (tables_1_4 ++ (tables_1_5 ++ (tables_1_6 ++ tables_1_7))))) from List.mem_append_right _ (List.mem_append_right _ (List.mem_append_right _ (List.mem_append_right _ (List.mem_append_right _ (List.mem_append_left _ (List.mem_of_getElem? h))))))), hg⟩
theorem lg_7 {w : Cond} (i : Nat) (h : tables_1_7[i]? = some w) (hg : goodWord w = true) : w ∈ lw_good := List.mem_filter.mpr ⟨List.mem_append_right _ (show w ∈ tables_1_1 ++ (tables_1_2 ++ (tables_1_3 ++ (tables_1_4 ++ (tables_1_5 ++ (tables_1_6 ++ tables_1_7))))) from List.mem_append_right _ (List.mem_append_right _ (List.mem_append_right _ (List.mem_append_right _ (List.mem_append_right _ (List.mem_append_right _ (List.mem_of_getElem? h))))))), hg⟩
end
