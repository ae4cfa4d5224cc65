section
theorem mu_33 (p : Program) (l : Launch) (e : Env) (R : Room) (s : State) (m : MethodId) (args : Array Value) (below : List Frame) (meth : Method) (c : Code) (G : Gx) (A : Nat → Prop) (VM : Vm) (hK : KX G s) (hal : s.vm.Alike VM) (h1 : e.platform.arrayLengthLimit = 2147483645) (h2 : e.platform.maxHeapBytes = 536870912) : ∃ f, MKP p l e R s m args below meth c G A VM (G.2.1 17) [(3 : Int32), (3 : Int32)] f 4 12 (okN 17 3 (okL 11)) (trN 3 (trL 3)) := by
    obtain ⟨k1, comp, c1, c2⟩ := Lk1.moved (b := 11) hal (arK1 hK (by decide))
    obtain ⟨k5, d5, e5⟩ := Lk2.moved (b := 17) (b' := 11) hal (arK2 hK (i := 6) (j := 0) (t := .int) rfl rfl (fun h => h) (by decide))
    exact ⟨_, mkp_node (mkp_leaf (by decide) c1 c2 (n := 3) (by decide) (by rw [h1]; decide) (by rw [h2]; decide) rfl rfl) (b := 17) (n := 3) (by decide) d5 e5 rfl (by decide) (by rw [h1]; decide) (by rw [h2]; decide) (by decide)⟩
theorem mu_383 (p : Program) (l : Launch) (e : Env) (R : Room) (s : State) (m : MethodId) (args : Array Value) (below : List Frame) (meth : Method) (c : Code) (G : Gx) (A : Nat → Prop) (VM : Vm) (hK : KX G s) (hal : s.vm.Alike VM) (h1 : e.platform.arrayLengthLimit = 2147483645) (h2 : e.platform.maxHeapBytes = 536870912) : ∃ f, MKP p l e R s m args below meth c G A VM (G.2.1 18) [(3 : Int32), (8 : Int32), (3 : Int32)] f 28 99 (okN 18 3 (okN 17 8 (okL 11))) (trN 3 (trN 8 (trL 3))) := by
    obtain ⟨k1, comp, c1, c2⟩ := Lk1.moved (b := 11) hal (arK1 hK (by decide))
    obtain ⟨k6, d6, e6⟩ := Lk2.moved (b := 17) (b' := 11) hal (arK2 hK (i := 6) (j := 0) (t := .int) rfl rfl (fun h => h) (by decide))
    obtain ⟨k5, d5, e5⟩ := Lk2.moved (b := 18) (b' := 17) hal (arK2 hK (i := 7) (j := 6) (t := .array .int) rfl rfl (fun h => h) (by decide))
    exact ⟨_, mkp_node (mkp_node (mkp_leaf (by decide) c1 c2 (n := 3) (by decide) (by rw [h1]; decide) (by rw [h2]; decide) rfl rfl) (b := 17) (n := 8) (by decide) d6 e6 rfl (by decide) (by rw [h1]; decide) (by rw [h2]; decide) (by decide)) (b := 18) (n := 3) (by decide) d5 e5 rfl (by decide) (by rw [h1]; decide) (by rw [h2]; decide) (by decide)⟩
theorem mu_3343 (p : Program) (l : Launch) (e : Env) (R : Room) (s : State) (m : MethodId) (args : Array Value) (below : List Frame) (meth : Method) (c : Code) (G : Gx) (A : Nat → Prop) (VM : Vm) (hK : KX G s) (hal : s.vm.Alike VM) (h1 : e.platform.arrayLengthLimit = 2147483645) (h2 : e.platform.maxHeapBytes = 536870912) : ∃ f, MKP p l e R s m args below meth c G A VM (G.2.1 19) [(3 : Int32), (3 : Int32), (4 : Int32), (3 : Int32)] f 49 156 (okN 19 3 (okN 18 3 (okN 17 4 (okL 11)))) (trN 3 (trN 3 (trN 4 (trL 3)))) := by
    obtain ⟨k1, comp, c1, c2⟩ := Lk1.moved (b := 11) hal (arK1 hK (by decide))
    obtain ⟨k7, d7, e7⟩ := Lk2.moved (b := 17) (b' := 11) hal (arK2 hK (i := 6) (j := 0) (t := .int) rfl rfl (fun h => h) (by decide))
    obtain ⟨k6, d6, e6⟩ := Lk2.moved (b := 18) (b' := 17) hal (arK2 hK (i := 7) (j := 6) (t := .array .int) rfl rfl (fun h => h) (by decide))
    obtain ⟨k5, d5, e5⟩ := Lk2.moved (b := 19) (b' := 18) hal (arK2 hK (i := 8) (j := 7) (t := .array (.array .int)) rfl rfl (fun h => h) (by decide))
    exact ⟨_, mkp_node (mkp_node (mkp_node (mkp_leaf (by decide) c1 c2 (n := 3) (by decide) (by rw [h1]; decide) (by rw [h2]; decide) rfl rfl) (b := 17) (n := 4) (by decide) d7 e7 rfl (by decide) (by rw [h1]; decide) (by rw [h2]; decide) (by decide)) (b := 18) (n := 3) (by decide) d6 e6 rfl (by decide) (by rw [h1]; decide) (by rw [h2]; decide) (by decide)) (b := 19) (n := 3) (by decide) d5 e5 rfl (by decide) (by rw [h1]; decide) (by rw [h2]; decide) (by decide)⟩
theorem mu_3339 (p : Program) (l : Launch) (e : Env) (R : Room) (s : State) (m : MethodId) (args : Array Value) (below : List Frame) (meth : Method) (c : Code) (G : Gx) (A : Nat → Prop) (VM : Vm) (hK : KX G s) (hal : s.vm.Alike VM) (h1 : e.platform.arrayLengthLimit = 2147483645) (h2 : e.platform.maxHeapBytes = 536870912) : ∃ f, MKP p l e R s m args below meth c G A VM (G.2.1 19) [(3 : Int32), (3 : Int32), (3 : Int32), (9 : Int32)] f 40 282 (okN 19 3 (okN 18 3 (okN 17 3 (okL 11)))) (trN 3 (trN 3 (trN 3 (trL 9)))) := by
    obtain ⟨k1, comp, c1, c2⟩ := Lk1.moved (b := 11) hal (arK1 hK (by decide))
    obtain ⟨k7, d7, e7⟩ := Lk2.moved (b := 17) (b' := 11) hal (arK2 hK (i := 6) (j := 0) (t := .int) rfl rfl (fun h => h) (by decide))
    obtain ⟨k6, d6, e6⟩ := Lk2.moved (b := 18) (b' := 17) hal (arK2 hK (i := 7) (j := 6) (t := .array .int) rfl rfl (fun h => h) (by decide))
    obtain ⟨k5, d5, e5⟩ := Lk2.moved (b := 19) (b' := 18) hal (arK2 hK (i := 8) (j := 7) (t := .array (.array .int)) rfl rfl (fun h => h) (by decide))
    exact ⟨_, mkp_node (mkp_node (mkp_node (mkp_leaf (by decide) c1 c2 (n := 9) (by decide) (by rw [h1]; decide) (by rw [h2]; decide) rfl rfl) (b := 17) (n := 3) (by decide) d7 e7 rfl (by decide) (by rw [h1]; decide) (by rw [h2]; decide) (by decide)) (b := 18) (n := 3) (by decide) d6 e6 rfl (by decide) (by rw [h1]; decide) (by rw [h2]; decide) (by decide)) (b := 19) (n := 3) (by decide) d5 e5 rfl (by decide) (by rw [h1]; decide) (by rw [h2]; decide) (by decide)⟩
theorem mu_33340 (p : Program) (l : Launch) (e : Env) (R : Room) (s : State) (m : MethodId) (args : Array Value) (below : List Frame) (meth : Method) (c : Code) (G : Gx) (A : Nat → Prop) (VM : Vm) (hK : KX G s) (hal : s.vm.Alike VM) (h1 : e.platform.arrayLengthLimit = 2147483645) (h2 : e.platform.maxHeapBytes = 536870912) : ∃ f, MKP p l e R s m args below meth c G A VM (G.2.1 22) [(3 : Int32), (3 : Int32), (3 : Int32), (40 : Int32)] f 40 1119 (okN 22 3 (okN 21 3 (okN 20 3 (okL 12)))) (trN 3 (trN 3 (trN 3 (trL 40)))) := by
    obtain ⟨k1, comp, c1, c2⟩ := Lk1.moved (b := 12) hal (arK1 hK (by decide))
    obtain ⟨k7, d7, e7⟩ := Lk2.moved (b := 20) (b' := 12) hal (arK2 hK (i := 9) (j := 1) (t := .boolean) rfl rfl (fun h => h) (by decide))
    obtain ⟨k6, d6, e6⟩ := Lk2.moved (b := 21) (b' := 20) hal (arK2 hK (i := 10) (j := 9) (t := .array .boolean) rfl rfl (fun h => h) (by decide))
    obtain ⟨k5, d5, e5⟩ := Lk2.moved (b := 22) (b' := 21) hal (arK2 hK (i := 11) (j := 10) (t := .array (.array .boolean)) rfl rfl (fun h => h) (by decide))
    exact ⟨_, mkp_node (mkp_node (mkp_node (mkp_leaf (by decide) c1 c2 (n := 40) (by decide) (by rw [h1]; decide) (by rw [h2]; decide) rfl rfl) (b := 20) (n := 3) (by decide) d7 e7 rfl (by decide) (by rw [h1]; decide) (by rw [h2]; decide) (by decide)) (b := 21) (n := 3) (by decide) d6 e6 rfl (by decide) (by rw [h1]; decide) (by rw [h2]; decide) (by decide)) (b := 22) (n := 3) (by decide) d5 e5 rfl (by decide) (by rw [h1]; decide) (by rw [h2]; decide) (by decide)⟩
theorem mu_6016 (p : Program) (l : Launch) (e : Env) (R : Room) (s : State) (m : MethodId) (args : Array Value) (below : List Frame) (meth : Method) (c : Code) (G : Gx) (A : Nat → Prop) (VM : Vm) (hK : KX G s) (hal : s.vm.Alike VM) (h1 : e.platform.arrayLengthLimit = 2147483645) (h2 : e.platform.maxHeapBytes = 536870912) : ∃ f, MKP p l e R s m args below meth c G A VM (G.2.1 17) [(60 : Int32), (16 : Int32)] f 61 1020 (okN 17 60 (okL 11)) (trN 60 (trL 16)) := by
    obtain ⟨k1, comp, c1, c2⟩ := Lk1.moved (b := 11) hal (arK1 hK (by decide))
    obtain ⟨k5, d5, e5⟩ := Lk2.moved (b := 17) (b' := 11) hal (arK2 hK (i := 6) (j := 0) (t := .int) rfl rfl (fun h => h) (by decide))
    exact ⟨_, mkp_node (mkp_leaf (by decide) c1 c2 (n := 16) (by decide) (by rw [h1]; decide) (by rw [h2]; decide) rfl rfl) (b := 17) (n := 60) (by decide) d5 e5 rfl (by decide) (by rw [h1]; decide) (by rw [h2]; decide) (by decide)⟩
theorem mu_05 (p : Program) (l : Launch) (e : Env) (R : Room) (s : State) (m : MethodId) (args : Array Value) (below : List Frame) (meth : Method) (c : Code) (G : Gx) (A : Nat → Prop) (VM : Vm) (hK : KX G s) (hal : s.vm.Alike VM) (h1 : e.platform.arrayLengthLimit = 2147483645) (h2 : e.platform.maxHeapBytes = 536870912) : ∃ f, MKP p l e R s m args below meth c G A VM (G.2.1 17) [(0 : Int32), (5 : Int32)] f 1 0 (okN 17 0 (okL 11)) (trN 0 (trL 5)) := by
    obtain ⟨k1, comp, c1, c2⟩ := Lk1.moved (b := 11) hal (arK1 hK (by decide))
    obtain ⟨k5, d5, e5⟩ := Lk2.moved (b := 17) (b' := 11) hal (arK2 hK (i := 6) (j := 0) (t := .int) rfl rfl (fun h => h) (by decide))
    exact ⟨_, mkp_node (mkp_leaf (by decide) c1 c2 (n := 5) (by decide) (by rw [h1]; decide) (by rw [h2]; decide) rfl rfl) (b := 17) (n := 0) (by decide) d5 e5 rfl (by decide) (by rw [h1]; decide) (by rw [h2]; decide) (by decide)⟩
theorem fst_ne {α : Type} {i j : Nat} {P : α} (h : i ≠ j) : (i, P).1 ≠ j := h
def IB (x : Nat) (μ : Mem) : Prop := μ.kd x = KM 0 ∧ μ.fi 288 x = 0 ∧ μ.fi 289 x = 1 ∧ μ.fi 291 x = 0 ∧ μ.fi 312 x = 0 ∧ μ.fi 290 x = 0
/-- all but x stays; what is new is the model's -/
def GX (x : Nat) (μ μ' : Mem) : Prop := (∀ z, z ≠ x → μ.kd z ≠ 0 → SameAt μ μ' z) ∧ ∀ z, μ.kd z = 0 → μ'.kd z = 0 ∨ isMk (μ'.kd z)
def stX (x : Nat) (P : Nat → Mem → Prop) : Prop := ∀ a μ μ', μ.kd x = KM 0 → P a μ → (∀ z, z ≠ x → μ.kd z ≠ 0 → SameAt μ μ' z) → P a μ'
def Ini (x : Nat) (μ0 : Mem) (is : List (Nat × (Nat → Mem → Prop))) (μ : Mem) : Prop := IB x μ ∧ GX x μ0 μ ∧ ∀ it ∈ is, stX x it.2 ∧ ∃ a, μ.fr (291 + it.1) x = some a ∧ it.2 a μ
def plP (K n : Nat) (v : Nat → Int32) : Nat → Mem → Prop := fun a μ => μ.kd a = K ∧ μ.ln a = n ∧ ∀ i, i < n → μ.ei a i = v i
def trP (x : Nat) (t : TrT) (κ : Kap) : Nat → Mem → Prop := fun a μ => ∃ lo, x < lo ∧ t lo κ a μ
theorem plP_st {x K n : Nat} {v : Nat → Int32} (hK : K ≠ KM 0) (hK0 : K ≠ 0) : stX x (plP K n v) := fun a μ μ' hx h hs => by
  obtain ⟨h1, h2, h3⟩ := h
  obtain ⟨s1, -, -, -, s5, s6, -, -⟩ := hs a (fun e => hK (by rw [← h1, e, hx])) (by rw [h1]; exact hK0)
  exact ⟨by rw [s1]; exact h1, by rw [s5]; exact h2, fun i hi => by rw [s6]; exact h3 i hi⟩
theorem trP_st {x : Nat} {t : TrT} {κ : Kap} (ht : trSt t) : stX x (trP x t κ) := fun a μ μ' hx h hs => by
  obtain ⟨lo, h1, h2⟩ := h
  exact ⟨lo, h1, ht _ _ _ _ _ _ h2 (Nat.le_refl _) (fun z hz hk => hs z (by omega) hk)⟩
theorem GX.tr {x : Nat} {μ1 μ2 μ3 : Mem} (h : GX x μ1 μ2) (g : GX x μ2 μ3) (hx : μ1.kd x ≠ 0) : GX x μ1 μ3 := by
  refine ⟨fun z hne hz => ?_, fun z hz => ?_⟩
  · have s := h.1 z hne hz
    exact s.tr9 (g.1 z hne (by rw [s.1]; exact hz))
  · by_cases c : μ2.kd z = 0
    · exact g.2 z c
    · rcases h.2 z hz with h9 | h9
      · exact absurd h9 c
      · exact Or.inr (by rw [(g.1 z (fun e => hx (by rw [← e]; exact hz)) c).1]; exact h9)
theorem Ini.step {x : Nat} {μ0 μ m : Mem} {is : List (Nat × (Nat → Mem → Prop))} (h : Ini x μ0 is μ) (h0 : μ0.kd x ≠ 0) (hg : GX x μ m) (hkx : m.kd x = μ.kd x) (hfi : ∀ f, m.fi f x = μ.fi f x) (hfr : ∀ it ∈ is, m.fr (291 + it.1) x = μ.fr (291 + it.1) x) : Ini x μ0 is m := by
  obtain ⟨⟨b1, b2, b3, b4, b5, b6⟩, g1, h3⟩ := h
  refine ⟨⟨by rw [hkx]; exact b1, by rw [hfi]; exact b2, by rw [hfi]; exact b3, by rw [hfi]; exact b4, by rw [hfi]; exact b5, by rw [hfi]; exact b6⟩, g1.tr hg h0, fun it hi => ?_⟩
  obtain ⟨s1, a, a1, a2⟩ := h3 it hi
  exact ⟨s1, a, by rw [hfr it hi]; exact a1, s1 a μ m b1 a2 hg.1⟩
theorem Ini.add {x j : Nat} {μ0 m : Mem} {is : List (Nat × (Nat → Mem → Prop))} {P : Nat → Mem → Prop} {a : Nat} (h : Ini x μ0 is m) (hs : stX x P) (h1 : m.fr (291 + j) x = some a) (h2 : P a m) : Ini x μ0 ((j, P) :: is) m := ⟨h.1, h.2.1, fun it hi => by
  rcases List.mem_cons.mp hi with e | hi
  · subst e
    exact ⟨hs, a, h1, h2⟩
  · exact h.2.2 it hi⟩
theorem sfr_fr {μ : Mem} {F f x : Nat} {v : Option Nat} (h : f ≠ F) : (μ.sfr F x v).fr f x = μ.fr f x := by
  show u2 μ.fr F x v f x = _
  unfold u2
  rw [if_neg h]
theorem sfr_eq {μ : Mem} {F x : Nat} {v : Option Nat} : (μ.sfr F x v).fr F x = v := by
  show u2 μ.fr F x v F x = _
  exact u2_eq
theorem Ini.arr {x q K n j F : Nat} {μ0 μ μ1 m : Mem} {is : List (Nat × (Nat → Mem → Prop))} {v : Nat → Int32} (h : Ini x μ0 is μ) (h0 : μ0.kd x ≠ 0) (hq : μ.kd q = 0) (hK : isMk K) (hK0 : K ≠ KM 0) (hj : ∀ it ∈ is, it.1 ≠ j) (hs : ∀ z, z ≠ q → SameAt μ μ1 z) (k1 : μ1.kd q = K) (k2 : μ1.ln q = n) (k3 : ∀ i, i < n → μ1.ei q i = v i) (hF : F = 291 + j) (e : m = μ1.sfr F x (some q)) : Ini x μ0 ((j, plP K n v) :: is) m := by
  subst hF e
  have hx0 : μ.kd x = KM 0 := h.1.1
  have hqx : x ≠ q := fun e => KM_nz 0 (by rw [← hx0, e, hq])
  have sx := hs x hqx
  have h1 : Ini x μ0 is (μ1.sfr (291 + j) x (some q)) := h.step h0 ⟨fun z hz hk => (hs z (fun e => hk (by rw [e, hq]))).tr9 (same_sfr hz), fun z hz => by
    by_cases c : z = q
    · subst c
      exact Or.inr (by show isMk (μ1.kd z); rw [k1]; exact hK)
    · exact Or.inl (by show μ1.kd z = 0; rw [(hs z c).1]; exact hz)⟩ sx.1 (fun f => sx.2.1 f) (fun it hi => (sfr_fr (by have := hj it hi; omega)).trans (sx.2.2.1 _))
  exact h1.add (plP_st hK0 (isMk_nz hK)) sfr_eq ⟨k1, k2, k3⟩
theorem Ini.arr0 {x q K n j F : Nat} {μ0 μ m : Mem} {is : List (Nat × (Nat → Mem → Prop))} (h : Ini x μ0 is μ) (h0 : μ0.kd x ≠ 0) (hq : μ.kd q = 0) (hK : isMk K) (hK0 : K ≠ KM 0) (hj : ∀ it ∈ is, it.1 ≠ j) (hF : F = 291 + j) (e : m = (μ.newA q K n).sfr F x (some q)) : Ini x μ0 ((j, plP K n (fun _ => 0)) :: is) m := h.arr h0 hq hK hK0 hj (fun z hz => same_newA hz) kd_newA ln_newA (fun i _ => by rw [z_ei_newA, if_pos rfl]) hF e
theorem Ini.tree {x a j F : Nat} {μ0 μ μ1 m : Mem} {is : List (Nat × (Nat → Mem → Prop))} {t : TrT} {κ : Kap} (h : Ini x μ0 is μ) (h0 : μ0.kd x ≠ 0) (ha : μ.kd a = 0) (hlo : ∀ z, μ.kd z ≠ 0 → z < a) (hg : Gr μ μ1) (hst : trSt t) (ht : t a κ a μ1) (hj : ∀ it ∈ is, it.1 ≠ j) (hF : F = 291 + j) (e : m = μ1.sfr F x (some a)) : Ini x μ0 ((j, trP x t κ) :: is) m := by
  subst hF e
  have hx0 : μ.kd x = KM 0 := h.1.1
  have hxa : x < a := hlo x (by rw [hx0]; exact KM_nz 0)
  have sx := hg.1 x (by rw [hx0]; exact KM_nz 0)
  have h1 : Ini x μ0 is (μ1.sfr (291 + j) x (some a)) := h.step h0 ⟨fun z hz hk => (hg.1 z hk).tr9 (same_sfr hz), fun z hz => hg.2 z hz⟩ sx.1 (fun f => sx.2.1 f) (fun it hi => (sfr_fr (by have := hj it hi; omega)).trans (sx.2.2.1 _))
  exact h1.add (trP_st hst) sfr_eq ⟨a, hxa, hst _ _ _ _ _ _ ht (Nat.le_refl _) (fun z hz hk => same_sfr (by omega))⟩
def κ6 : Kap := fun p => match p with
  | [] => KM 6
  | [e] => KM (51 + e)
  | _ => KTMP
def κT (t : Nat) : Kap := fun p => match p with
  | [] => KM (7 + t)
  | [a] => KM (21 + 3 * t + a)
  | _ => KTMP
def κD (i : Nat) (l : Nat → Nat → Nat → Nat) : Kap := fun p => match p with
  | [] => KM (17 + i)
  | [a] => KM (54 + 3 * i + a)
  | [a, b] => KM (63 + 9 * i + 3 * a + b)
  | [a, b, w] => l a b w
  | _ => KTMP
def κ2 (k : Nat) : Kap := fun p => match p with
  | [] => k
  | _ => KTMP
theorem ok6 : okN 18 3 (okN 17 8 (okL 11)) κ6 := ⟨by decide, isMk_KM (j := 6) (by decide), fun i hi => ⟨by show KM (51 + i) % 32 = 17; exact KM_17 (by omega), isMk_KM (by omega), fun j _ => ⟨by show KTMP % 32 = 11; decide, (show isMk KTMP from ⟨by decide, by decide⟩)⟩⟩⟩
theorem okT9 (t : Nat) (ht : t < 10) : okN 17 3 (okL 11) (κT t) := ⟨by show KM (7 + t) % 32 = 17; exact KM_17 (by omega), isMk_KM (by omega), fun i hi => ⟨by show KM (21 + 3 * t + i) % 32 = 11; exact KM_11 (by omega), isMk_KM (by omega)⟩⟩
theorem ok2 (n k : Nat) (h1 : k % 32 = 17) (h2 : isMk k) : okN 17 n (okL 11) (κ2 k) := ⟨h1, h2, fun i _ => ⟨by show KTMP % 32 = 11; decide, (show isMk KTMP from ⟨by decide, by decide⟩)⟩⟩
theorem KM_18 : ∀ j, 54 ≤ j ∧ j < 60 → KM j % 32 = 18 := fun j h => by
  have h9 : j = 54 ∨ j = 55 ∨ j = 56 ∨ j = 57 ∨ j = 58 ∨ j = 59 := by omega
  rcases h9 with rfl | rfl | rfl | rfl | rfl | rfl <;> decide
theorem KM_21 : ∀ j, 60 ≤ j ∧ j < 63 → KM j % 32 = 21 := fun j h => by
  have h9 : j = 60 ∨ j = 61 ∨ j = 62 := by omega
  rcases h9 with rfl | rfl | rfl <;> decide
theorem okP : okN 19 3 (okN 18 3 (okN 17 4 (okL 11))) (κD 0 (fun _ _ _ => KTMP)) := ⟨by decide, isMk_KM (j := 17) (by decide), fun a ha => ⟨KM_18 _ (by omega), isMk_KM (by omega), fun b hb => ⟨KM_17 (by omega), isMk_KM (by omega), fun w _ => ⟨by show KTMP % 32 = 11; decide, (show isMk KTMP from ⟨by decide, by decide⟩)⟩⟩⟩⟩
theorem okS9 : okN 19 3 (okN 18 3 (okN 17 3 (okL 11))) (κD 1 (fun a b w => KSE a b w)) := ⟨by decide, isMk_KM (j := 18) (by decide), fun a ha => ⟨KM_18 _ (by omega), isMk_KM (by omega), fun b hb => ⟨KM_17 (by omega), isMk_KM (by omega), fun w hw => ⟨by show KSE a b w % 32 = 11; unfold KSE; omega, by show isMk (KSE a b w); unfold isMk KSE; omega⟩⟩⟩⟩
theorem okB9 : okN 22 3 (okN 21 3 (okN 20 3 (okL 12))) (κD 2 (fun a b w => KTK a b w)) := ⟨by decide, isMk_KM (j := 19) (by decide), fun a ha => ⟨KM_21 _ (by omega), isMk_KM (by omega), fun b hb => ⟨KM_20 (by omega), isMk_KM (by omega), fun w hw => ⟨by show KTK a b w % 32 = 12; unfold KTK; omega, by show isMk (KTK a b w); unfold isMk KTK; omega⟩⟩⟩⟩
def ITS (x : Nat) : List (Nat × (Nat → Mem → Prop)) := [(22, trP x (trN 0 (trL 5)) (κ2 KOA)), (20, trP x (trN 60 (trL 16)) (κ2 (KM 20))), (19, trP x (trN 3 (trN 3 (trN 3 (trL 40)))) (κD 2 (fun a b w => KTK a b w))), (18, trP x (trN 3 (trN 3 (trN 3 (trL 9)))) (κD 1 (fun a b w => KSE a b w))), (17, trP x (trN 3 (trN 3 (trN 4 (trL 3)))) (κD 0 (fun _ _ _ => KTMP))), (16, trP x (trN 3 (trL 3)) (κT 9)), (15, trP x (trN 3 (trL 3)) (κT 8)), (14, trP x (trN 3 (trL 3)) (κT 7)), (13, trP x (trN 3 (trL 3)) (κT 6)), (12, trP x (trN 3 (trL 3)) (κT 5)), (11, trP x (trN 3 (trL 3)) (κT 4)), (10, trP x (trN 3 (trL 3)) (κT 3)), (9, trP x (trN 3 (trL 3)) (κT 2)), (8, trP x (trN 3 (trL 3)) (κT 1)), (7, trP x (trN 3 (trL 3)) (κT 0)), (6, trP x (trN 3 (trN 8 (trL 3))) κ6), (5, plP (KM 5) 3 (fun _ => 0)), (4, plP (KM 4) 11 (fun _ => 0)), (3, plP (KM 3) 3 (fun _ => 0)), (2, plP (KM 2) 3 (fun _ => 0)), (1, plP (KM 1) 3 (fun i => nI (10 + 10 * i)))]
abbrev dn (n a b : Nat) : Prop := a < 3 ∧ b < 3 ∧ 3 * a + b < n
def SI (n : Nat) : Sx := (fun _ => 0, fun f e => if f = 0 then nI (10 + 10 * e) else 0, fun f a b => if f = 0 then (if dn n a b then nI (10 + 10 * b) else 0) else if f = 3 then (if dn n a b then -1 else 0) else 0, fun _ => 0, fun a b => if dn n a b then none else some (fun _ => 0), fun _ _ _ => none, fun _ _ => [], fun _ => [], [], [])
def QOf (x : Nat) (μ : Mem) (j : Nat) : Nat := if j = 0 then x else if j < 21 then (μ.fr (291 + j) x).getD 0 else if j < 51 then (μ.er ((μ.fr (298 + (j - 21) / 3) x).getD 0) ((j - 21) % 3)).getD 0 else if j < 54 then (μ.er ((μ.fr 297 x).getD 0) (j - 51)).getD 0 else if j < 63 then (μ.er ((μ.fr (308 + (j - 54) / 3) x).getD 0) ((j - 54) % 3)).getD 0 else (μ.er ((μ.er ((μ.fr (308 + (j - 63) / 9) x).getD 0) ((j - 63) % 9 / 3)).getD 0) ((j - 63) % 3)).getD 0
theorem QOf_A {x j a : Nat} {μ : Mem} (h : 1 ≤ j ∧ j < 21) (hf : μ.fr (291 + j) x = some a) : QOf x μ j = a := by
  unfold QOf
  rw [if_neg (by omega), if_pos (by omega), hf]
  rfl
theorem QOf_T {x t a p q : Nat} {μ : Mem} (ht : t < 10) (ha : a < 3) (hf : μ.fr (298 + t) x = some p) (he : μ.er p a = some q) : QOf x μ (21 + 3 * t + a) = q := by
  unfold QOf
  rw [if_neg (by omega), if_neg (by omega), if_pos (by omega), show (21 + 3 * t + a - 21) / 3 = t by omega, show (21 + 3 * t + a - 21) % 3 = a by omega, hf]
  show (μ.er p a).getD 0 = q
  rw [he]
  rfl
theorem QOf_R {x e p q : Nat} {μ : Mem} (ht : e < 3) (hf : μ.fr 297 x = some p) (he : μ.er p e = some q) : QOf x μ (51 + e) = q := by
  unfold QOf
  rw [if_neg (by omega), if_neg (by omega), if_neg (by omega), if_pos (by omega), show 51 + e - 51 = e by omega, hf]
  show (μ.er p e).getD 0 = q
  rw [he]
  rfl
theorem QOf_D {x i a p q : Nat} {μ : Mem} (hi : i < 3) (ha : a < 3) (hf : μ.fr (308 + i) x = some p) (he : μ.er p a = some q) : QOf x μ (54 + 3 * i + a) = q := by
  unfold QOf
  rw [if_neg (by omega), if_neg (by omega), if_neg (by omega), if_neg (by omega), if_pos (by omega), show (54 + 3 * i + a - 54) / 3 = i by omega, show (54 + 3 * i + a - 54) % 3 = a by omega, hf]
  show (μ.er p a).getD 0 = q
  rw [he]
  rfl
theorem QOf_E {x i a b p q r : Nat} {μ : Mem} (hi : i < 3) (ha : a < 3) (hb : b < 3) (hf : μ.fr (308 + i) x = some p) (he : μ.er p a = some q) (hg : μ.er q b = some r) : QOf x μ (63 + 9 * i + 3 * a + b) = r := by
  unfold QOf
  rw [if_neg (by omega), if_neg (by omega), if_neg (by omega), if_neg (by omega), if_neg (by omega), show (63 + 9 * i + 3 * a + b - 63) / 9 = i by omega, show (63 + 9 * i + 3 * a + b - 63) % 9 / 3 = a by omega, show (63 + 9 * i + 3 * a + b - 63) % 3 = b by omega, hf]
  show (μ.er ((μ.er p a).getD 0) b).getD 0 = r
  rw [he]
  show (μ.er q b).getD 0 = r
  rw [hg]
  rfl
theorem Ini.A {x : Nat} {μ0 μ : Mem} (h : Ini x μ0 (ITS x) μ) : ∀ j, 1 ≤ j → j < 21 → ∃ a, μ.fr (291 + j) x = some a ∧ μ.kd a = KM j ∧ μ.ln a = LN j := fun j h1 h2 => by
  have h9 : j = 1 ∨ j = 2 ∨ j = 3 ∨ j = 4 ∨ j = 5 ∨ j = 6 ∨ j = 7 ∨ j = 8 ∨ j = 9 ∨ j = 10 ∨ j = 11 ∨ j = 12 ∨ j = 13 ∨ j = 14 ∨ j = 15 ∨ j = 16 ∨ j = 17 ∨ j = 18 ∨ j = 19 ∨ j = 20 := by omega
  rcases h9 with rfl | rfl | rfl | rfl | rfl | rfl | rfl | rfl | rfl | rfl | rfl | rfl | rfl | rfl | rfl | rfl | rfl | rfl | rfl | rfl
  · obtain ⟨-, a, f, k1, k2, -⟩ := h.2.2 _ (List.mem_of_getElem? (i := 20) rfl)
    exact ⟨a, f, k1, k2⟩
  · obtain ⟨-, a, f, k1, k2, -⟩ := h.2.2 _ (List.mem_of_getElem? (i := 19) rfl)
    exact ⟨a, f, k1, k2⟩
  · obtain ⟨-, a, f, k1, k2, -⟩ := h.2.2 _ (List.mem_of_getElem? (i := 18) rfl)
    exact ⟨a, f, k1, k2⟩
  · obtain ⟨-, a, f, k1, k2, -⟩ := h.2.2 _ (List.mem_of_getElem? (i := 17) rfl)
    exact ⟨a, f, k1, k2⟩
  · obtain ⟨-, a, f, k1, k2, -⟩ := h.2.2 _ (List.mem_of_getElem? (i := 16) rfl)
    exact ⟨a, f, k1, k2⟩
  · obtain ⟨-, a, f, lo, -, -, k1, -, k2, -⟩ := h.2.2 _ (List.mem_of_getElem? (i := 15) rfl)
    exact ⟨a, f, k1, k2⟩
  · obtain ⟨-, a, f, lo, -, -, k1, -, k2, -⟩ := h.2.2 _ (List.mem_of_getElem? (i := 14) rfl)
    exact ⟨a, f, k1, k2⟩
  · obtain ⟨-, a, f, lo, -, -, k1, -, k2, -⟩ := h.2.2 _ (List.mem_of_getElem? (i := 13) rfl)
    exact ⟨a, f, k1, k2⟩
  · obtain ⟨-, a, f, lo, -, -, k1, -, k2, -⟩ := h.2.2 _ (List.mem_of_getElem? (i := 12) rfl)
    exact ⟨a, f, k1, k2⟩
  · obtain ⟨-, a, f, lo, -, -, k1, -, k2, -⟩ := h.2.2 _ (List.mem_of_getElem? (i := 11) rfl)
    exact ⟨a, f, k1, k2⟩
  · obtain ⟨-, a, f, lo, -, -, k1, -, k2, -⟩ := h.2.2 _ (List.mem_of_getElem? (i := 10) rfl)
    exact ⟨a, f, k1, k2⟩
  · obtain ⟨-, a, f, lo, -, -, k1, -, k2, -⟩ := h.2.2 _ (List.mem_of_getElem? (i := 9) rfl)
    exact ⟨a, f, k1, k2⟩
  · obtain ⟨-, a, f, lo, -, -, k1, -, k2, -⟩ := h.2.2 _ (List.mem_of_getElem? (i := 8) rfl)
    exact ⟨a, f, k1, k2⟩
  · obtain ⟨-, a, f, lo, -, -, k1, -, k2, -⟩ := h.2.2 _ (List.mem_of_getElem? (i := 7) rfl)
    exact ⟨a, f, k1, k2⟩
  · obtain ⟨-, a, f, lo, -, -, k1, -, k2, -⟩ := h.2.2 _ (List.mem_of_getElem? (i := 6) rfl)
    exact ⟨a, f, k1, k2⟩
  · obtain ⟨-, a, f, lo, -, -, k1, -, k2, -⟩ := h.2.2 _ (List.mem_of_getElem? (i := 5) rfl)
    exact ⟨a, f, k1, k2⟩
  · obtain ⟨-, a, f, lo, -, -, k1, -, k2, -⟩ := h.2.2 _ (List.mem_of_getElem? (i := 4) rfl)
    exact ⟨a, f, k1, k2⟩
  · obtain ⟨-, a, f, lo, -, -, k1, -, k2, -⟩ := h.2.2 _ (List.mem_of_getElem? (i := 3) rfl)
    exact ⟨a, f, k1, k2⟩
  · obtain ⟨-, a, f, lo, -, -, k1, -, k2, -⟩ := h.2.2 _ (List.mem_of_getElem? (i := 2) rfl)
    exact ⟨a, f, k1, k2⟩
  · obtain ⟨-, a, f, lo, -, -, k1, -, k2, -⟩ := h.2.2 _ (List.mem_of_getElem? (i := 1) rfl)
    exact ⟨a, f, k1, k2⟩
theorem Ini.T {x : Nat} {μ0 μ : Mem} (h : Ini x μ0 (ITS x) μ) : ∀ t, t < 10 → ∃ p, μ.fr (298 + t) x = some p ∧ ∀ a, a < 3 → ∃ q, μ.er p a = some q ∧ μ.kd q = KM (21 + 3 * t + a) ∧ μ.ln q = 3 ∧ ∀ i, μ.ei q i = 0 := fun t h2 => by
  have h9 : t = 0 ∨ t = 1 ∨ t = 2 ∨ t = 3 ∨ t = 4 ∨ t = 5 ∨ t = 6 ∨ t = 7 ∨ t = 8 ∨ t = 9 := by omega
  rcases h9 with rfl | rfl | rfl | rfl | rfl | rfl | rfl | rfl | rfl | rfl
  · obtain ⟨-, a, f, lo, -, -, -, -, -, k3⟩ := h.2.2 _ (List.mem_of_getElem? (i := 14) rfl)
    refine ⟨a, f, fun i hi => ?_⟩
    obtain ⟨q, q1, -, q2, -, q3, q4⟩ := k3 i hi
    exact ⟨q, q1, q2, q3, q4⟩
  · obtain ⟨-, a, f, lo, -, -, -, -, -, k3⟩ := h.2.2 _ (List.mem_of_getElem? (i := 13) rfl)
    refine ⟨a, f, fun i hi => ?_⟩
    obtain ⟨q, q1, -, q2, -, q3, q4⟩ := k3 i hi
    exact ⟨q, q1, q2, q3, q4⟩
  · obtain ⟨-, a, f, lo, -, -, -, -, -, k3⟩ := h.2.2 _ (List.mem_of_getElem? (i := 12) rfl)
    refine ⟨a, f, fun i hi => ?_⟩
    obtain ⟨q, q1, -, q2, -, q3, q4⟩ := k3 i hi
    exact ⟨q, q1, q2, q3, q4⟩
  · obtain ⟨-, a, f, lo, -, -, -, -, -, k3⟩ := h.2.2 _ (List.mem_of_getElem? (i := 11) rfl)
    refine ⟨a, f, fun i hi => ?_⟩
    obtain ⟨q, q1, -, q2, -, q3, q4⟩ := k3 i hi
    exact ⟨q, q1, q2, q3, q4⟩
  · obtain ⟨-, a, f, lo, -, -, -, -, -, k3⟩ := h.2.2 _ (List.mem_of_getElem? (i := 10) rfl)
    refine ⟨a, f, fun i hi => ?_⟩
    obtain ⟨q, q1, -, q2, -, q3, q4⟩ := k3 i hi
    exact ⟨q, q1, q2, q3, q4⟩
  · obtain ⟨-, a, f, lo, -, -, -, -, -, k3⟩ := h.2.2 _ (List.mem_of_getElem? (i := 9) rfl)
    refine ⟨a, f, fun i hi => ?_⟩
    obtain ⟨q, q1, -, q2, -, q3, q4⟩ := k3 i hi
    exact ⟨q, q1, q2, q3, q4⟩
  · obtain ⟨-, a, f, lo, -, -, -, -, -, k3⟩ := h.2.2 _ (List.mem_of_getElem? (i := 8) rfl)
    refine ⟨a, f, fun i hi => ?_⟩
    obtain ⟨q, q1, -, q2, -, q3, q4⟩ := k3 i hi
    exact ⟨q, q1, q2, q3, q4⟩
  · obtain ⟨-, a, f, lo, -, -, -, -, -, k3⟩ := h.2.2 _ (List.mem_of_getElem? (i := 7) rfl)
    refine ⟨a, f, fun i hi => ?_⟩
    obtain ⟨q, q1, -, q2, -, q3, q4⟩ := k3 i hi
    exact ⟨q, q1, q2, q3, q4⟩
  · obtain ⟨-, a, f, lo, -, -, -, -, -, k3⟩ := h.2.2 _ (List.mem_of_getElem? (i := 6) rfl)
    refine ⟨a, f, fun i hi => ?_⟩
    obtain ⟨q, q1, -, q2, -, q3, q4⟩ := k3 i hi
    exact ⟨q, q1, q2, q3, q4⟩
  · obtain ⟨-, a, f, lo, -, -, -, -, -, k3⟩ := h.2.2 _ (List.mem_of_getElem? (i := 5) rfl)
    refine ⟨a, f, fun i hi => ?_⟩
    obtain ⟨q, q1, -, q2, -, q3, q4⟩ := k3 i hi
    exact ⟨q, q1, q2, q3, q4⟩
theorem Ini.R {x : Nat} {μ0 μ : Mem} (h : Ini x μ0 (ITS x) μ) : ∃ p, μ.fr 297 x = some p ∧ ∀ e, e < 3 → ∃ q, μ.er p e = some q ∧ μ.kd q = KM (51 + e) ∧ μ.ln q = 8 := by
  obtain ⟨-, a, f, lo, -, -, -, -, -, k3⟩ := h.2.2 _ (List.mem_of_getElem? (i := 15) rfl)
  refine ⟨a, f, fun i hi => ?_⟩
  obtain ⟨q, q1, -, q2, -, q3, -⟩ := k3 i hi
  exact ⟨q, q1, q2, q3⟩
theorem Ini.D {x : Nat} {μ0 μ : Mem} (h : Ini x μ0 (ITS x) μ) : ∀ i, i < 3 → ∃ p, μ.fr (308 + i) x = some p ∧ ∀ a, a < 3 → ∃ q, μ.er p a = some q ∧ μ.kd q = KM (54 + 3 * i + a) ∧ μ.ln q = 3 ∧ ∀ b, b < 3 → ∃ r, μ.er q b = some r ∧ μ.kd r = KM (63 + 9 * i + 3 * a + b) ∧ μ.ln r = LN (63 + 9 * i + 3 * a + b) ∧ ∀ w, w < 3 → (i = 1 → ∃ s, μ.er r w = some s ∧ μ.kd s = KSE a b w ∧ μ.ln s = 9 ∧ ∀ c, μ.ei s c = 0) ∧ (i = 2 → ∃ s, μ.er r w = some s ∧ μ.kd s = KTK a b w ∧ μ.ln s = 40 ∧ ∀ c, μ.ei s c = 0) := fun i hi => by
  have h9 : i = 0 ∨ i = 1 ∨ i = 2 := by omega
  rcases h9 with rfl | rfl | rfl
  · obtain ⟨-, p, f, lo, -, -, -, -, -, k3⟩ := h.2.2 _ (List.mem_of_getElem? (i := 4) rfl)
    refine ⟨p, f, fun a ha => ?_⟩
    obtain ⟨q, q1, -, q2, -, q3, q4⟩ := k3 a ha
    refine ⟨q, q1, q2, q3, fun b hb => ?_⟩
    obtain ⟨r, r1, -, r2, -, r3, r4⟩ := q4 b hb
    refine ⟨r, r1, r2, r3.trans (LN_4 (by omega)).symm, fun w hw => ⟨fun e9 => ?_, fun e9 => ?_⟩⟩
    · exact absurd e9 (by decide)
    · exact absurd e9 (by decide)
  · obtain ⟨-, p, f, lo, -, -, -, -, -, k3⟩ := h.2.2 _ (List.mem_of_getElem? (i := 3) rfl)
    refine ⟨p, f, fun a ha => ?_⟩
    obtain ⟨q, q1, -, q2, -, q3, q4⟩ := k3 a ha
    refine ⟨q, q1, q2, q3, fun b hb => ?_⟩
    obtain ⟨r, r1, -, r2, -, r3, r4⟩ := q4 b hb
    refine ⟨r, r1, r2, r3.trans (LN_3 (by omega)).symm, fun w hw => ⟨fun e9 => ?_, fun e9 => ?_⟩⟩
    · obtain ⟨s, s1, -, s2, -, s3, s4⟩ := r4 w hw
      exact ⟨s, s1, s2, s3, s4⟩
    · exact absurd e9 (by decide)
  · obtain ⟨-, p, f, lo, -, -, -, -, -, k3⟩ := h.2.2 _ (List.mem_of_getElem? (i := 2) rfl)
    refine ⟨p, f, fun a ha => ?_⟩
    obtain ⟨q, q1, -, q2, -, q3, q4⟩ := k3 a ha
    refine ⟨q, q1, q2, q3, fun b hb => ?_⟩
    obtain ⟨r, r1, -, r2, -, r3, r4⟩ := q4 b hb
    refine ⟨r, r1, r2, r3.trans (LN_3 (by omega)).symm, fun w hw => ⟨fun e9 => ?_, fun e9 => ?_⟩⟩
    · exact absurd e9 (by decide)
    · obtain ⟨s, s1, -, s2, -, s3, s4⟩ := r4 w hw
      exact ⟨s, s1, s2, s3, s4⟩
theorem Ini.mrq {x : Nat} {μ0 μ : Mem} (h : Ini x μ0 (ITS x) μ) : MRq (QOf x μ) (SI 0) (LXo (SI 0) 0) μ := by
  have q0 : QOf x μ 0 = x := rfl
  obtain ⟨b1, b2, b3, b4, b5, b6⟩ := h.1
  have kA : ∀ j, 1 ≤ j → j < 21 → μ.fr (291 + j) x = some (QOf x μ j) ∧ μ.kd (QOf x μ j) = KM j ∧ μ.ln (QOf x μ j) = LN j := fun j h1 h2 => by
    obtain ⟨a, f, k1, k2⟩ := h.A j h1 h2
    rw [QOf_A ⟨h1, h2⟩ f]
    exact ⟨f, k1, k2⟩
  have kT : ∀ t a, t < 10 → a < 3 → μ.er (QOf x μ (7 + t)) a = some (QOf x μ (21 + 3 * t + a)) ∧ μ.kd (QOf x μ (21 + 3 * t + a)) = KM (21 + 3 * t + a) ∧ μ.ln (QOf x μ (21 + 3 * t + a)) = 3 ∧ ∀ i, μ.ei (QOf x μ (21 + 3 * t + a)) i = 0 := fun t a ht ha => by
    obtain ⟨p, f, g⟩ := h.T t ht
    obtain ⟨q, q1, q2, q3, q4⟩ := g a ha
    rw [QOf_T ht ha f q1, QOf_A (j := 7 + t) ⟨by omega, by omega⟩ (by rw [show 291 + (7 + t) = 298 + t by omega]; exact f)]
    exact ⟨q1, q2, q3, q4⟩
  have kR : ∀ e, e < 3 → μ.er (QOf x μ 6) e = some (QOf x μ (51 + e)) ∧ μ.kd (QOf x μ (51 + e)) = KM (51 + e) ∧ μ.ln (QOf x μ (51 + e)) = 8 := fun e he => by
    obtain ⟨p, f, g⟩ := h.R
    obtain ⟨q, q1, q2, q3⟩ := g e he
    rw [QOf_R he f q1, QOf_A (j := 6) ⟨by decide, by decide⟩ f]
    exact ⟨q1, q2, q3⟩
  have kD : ∀ i a, i < 3 → a < 3 → μ.er (QOf x μ (17 + i)) a = some (QOf x μ (54 + 3 * i + a)) ∧ μ.kd (QOf x μ (54 + 3 * i + a)) = KM (54 + 3 * i + a) ∧ μ.ln (QOf x μ (54 + 3 * i + a)) = 3 := fun i a hi ha => by
    obtain ⟨p, f, g⟩ := h.D i hi
    obtain ⟨q, q1, q2, q3, -⟩ := g a ha
    rw [QOf_D hi ha f q1, QOf_A (j := 17 + i) ⟨by omega, by omega⟩ (by rw [show 291 + (17 + i) = 308 + i by omega]; exact f)]
    exact ⟨q1, q2, q3⟩
  have kE : ∀ i a b, i < 3 → a < 3 → b < 3 → μ.er (QOf x μ (54 + 3 * i + a)) b = some (QOf x μ (63 + 9 * i + 3 * a + b)) ∧ μ.kd (QOf x μ (63 + 9 * i + 3 * a + b)) = KM (63 + 9 * i + 3 * a + b) ∧ μ.ln (QOf x μ (63 + 9 * i + 3 * a + b)) = LN (63 + 9 * i + 3 * a + b) ∧ ∀ w, w < 3 → (i = 1 → ∃ s, μ.er (QOf x μ (63 + 9 * i + 3 * a + b)) w = some s ∧ μ.kd s = KSE a b w ∧ μ.ln s = 9 ∧ ∀ c, μ.ei s c = 0) ∧ (i = 2 → ∃ s, μ.er (QOf x μ (63 + 9 * i + 3 * a + b)) w = some s ∧ μ.kd s = KTK a b w ∧ μ.ln s = 40 ∧ ∀ c, μ.ei s c = 0) := fun i a b hi ha hb => by
    obtain ⟨p, f, g⟩ := h.D i hi
    obtain ⟨q, q1, -, -, q4⟩ := g a ha
    obtain ⟨r, r1, r2, r3, r4⟩ := q4 b hb
    rw [QOf_D hi ha f q1, QOf_E hi ha hb f q1 r1]
    exact ⟨r1, r2, r3, r4⟩
  have cs : ∀ j, j < 90 → j = 0 ∨ (1 ≤ j ∧ j < 21) ∨ (∃ t a, t < 10 ∧ a < 3 ∧ j = 21 + 3 * t + a) ∨ (∃ e, e < 3 ∧ j = 51 + e) ∨ (∃ i a, i < 3 ∧ a < 3 ∧ j = 54 + 3 * i + a) ∨ ∃ i a b, i < 3 ∧ a < 3 ∧ b < 3 ∧ j = 63 + 9 * i + 3 * a + b := fun j hj => by
    by_cases c0 : j = 0
    · exact Or.inl c0
    · by_cases c1 : j < 21
      · exact Or.inr (Or.inl ⟨by omega, c1⟩)
      · by_cases c2 : j < 51
        · exact Or.inr (Or.inr (Or.inl ⟨(j - 21) / 3, (j - 21) % 3, by omega, by omega, by omega⟩))
        · by_cases c3 : j < 54
          · exact Or.inr (Or.inr (Or.inr (Or.inl ⟨j - 51, by omega, by omega⟩)))
          · by_cases c4 : j < 63
            · exact Or.inr (Or.inr (Or.inr (Or.inr (Or.inl ⟨(j - 54) / 3, (j - 54) % 3, by omega, by omega, by omega⟩))))
            · exact Or.inr (Or.inr (Or.inr (Or.inr (Or.inr ⟨(j - 63) / 9, (j - 63) % 9 / 3, (j - 63) % 3, by omega, by omega, by omega, by omega⟩))))
  refine ⟨⟨fun j hj => ?_, fun j hj0 hj => ?_, fun i h1 h2 => (kA i h1 h2).1, fun t a ht ha => (kT t a ht ha).1, fun e he => (kR e he).1, fun i a hi ha => ⟨(kD i a hi ha).1, fun b hb => (kE i a b hi ha hb).1⟩⟩, ⟨b2, b3, b4, b5, b6⟩, ⟨fun e he => ?_, fun i hi => ?_⟩, fun t a b ht ha hb => ?_, fun e he => ⟨Nat.zero_le _, fun k r hk => ?_⟩, fun a b ha hb => ⟨Nat.zero_le _, fun k r hk => ?_⟩, fun a b w ha hb hw _ => ?_, fun a b w ha hb hw _ => ?_, ⟨Nat.zero_le _, [], List.nodup_nil, fun i p hi => ?_, ?_⟩, ⟨Nat.zero_le _, ?_⟩⟩
  · rcases cs j hj with rfl | h1 | ⟨t, a, ht, ha, rfl⟩ | ⟨e, he, rfl⟩ | ⟨i, a, hi, ha, rfl⟩ | ⟨i, a, b, hi, ha, hb, rfl⟩
    · exact b1
    · exact (kA j h1.1 h1.2).2.1
    · exact (kT t a ht ha).2.1
    · exact (kR e he).2.1
    · exact (kD i a hi ha).2.1
    · exact (kE i a b hi ha hb).2.1
  · rcases cs j hj with rfl | h1 | ⟨t, a, ht, ha, rfl⟩ | ⟨e, he, rfl⟩ | ⟨i, a, hi, ha, rfl⟩ | ⟨i, a, b, hi, ha, hb, rfl⟩
    · exact absurd hj0 (Nat.lt_irrefl _)
    · exact (kA j h1.1 h1.2).2.2
    · exact (kT t a ht ha).2.2.1.trans (LN_3 (by omega)).symm
    · exact (kR e he).2.2.trans (LN_8 (by omega)).symm
    · exact (kD i a hi ha).2.2.trans (LN_3 (by omega)).symm
    · exact (kE i a b hi ha hb).2.2.1
  · obtain ⟨-, a1, f1, -, -, v1⟩ := h.2.2 _ (List.mem_of_getElem? (i := 20) rfl)
    obtain ⟨-, a2, f2, -, -, v2⟩ := h.2.2 _ (List.mem_of_getElem? (i := 19) rfl)
    obtain ⟨-, a3, f3, -, -, v3⟩ := h.2.2 _ (List.mem_of_getElem? (i := 18) rfl)
    obtain ⟨-, a5, f5, -, -, v5⟩ := h.2.2 _ (List.mem_of_getElem? (i := 16) rfl)
    rw [QOf_A (j := 1) (by decide) f1, QOf_A (j := 2) (by decide) f2, QOf_A (j := 3) (by decide) f3, QOf_A (j := 5) (by decide) f5]
    exact ⟨v1 e he, v2 e he, v3 e he, v5 e he⟩
  · obtain ⟨-, a4, f4, -, -, v4⟩ := h.2.2 _ (List.mem_of_getElem? (i := 17) rfl)
    rw [QOf_A (j := 4) (by decide) f4]
    exact v4 i hi
  · rw [(kT t a ht ha).2.2.2 b]
    have hd : ¬ dn 0 a b := fun z => absurd z.2.2 (Nat.not_lt_zero _)
    have h9 : t = 0 ∨ t = 1 ∨ t = 2 ∨ t = 3 ∨ t = 4 ∨ t = 5 ∨ t = 6 ∨ t = 7 ∨ t = 8 ∨ t = 9 := by omega
    have hf : (SI 0).fl a b = some (fun _ => 0) := if_neg hd
    rcases h9 with rfl | rfl | rfl | rfl | rfl | rfl | rfl | rfl | rfl | rfl
    · exact (show (SI 0).lf 0 a b = 0 from if_neg hd).symm
    · rfl
    · rfl
    · show (0 : Int32) = match (SI 0).fl a b with
        | none => -1
        | some r => r 0
      rw [hf]
    · intro r hr
      rw [hf] at hr
      cases hr
      rfl
    · intro r hr
      rw [hf] at hr
      cases hr
      rfl
    · intro r hr
      rw [hf] at hr
      cases hr
      rfl
    · exact (show (SI 0).lf 3 a b = 0 from if_neg hd).symm
    · rfl
    · rfl
  · have h9 : ([] : List Row)[k]? = some r := hk
    simp at h9
  · have h9 : ([] : List Row)[k]? = some r := hk
    simp at h9
  · obtain ⟨s, s1, s2, s3, s4⟩ := ((kE 1 a b (by decide) ha hb).2.2.2 w hw).1 rfl
    exact ⟨s, s1, s2, s3, s4 0⟩
  · obtain ⟨s, s1, s2, s3, s4⟩ := ((kE 2 a b (by decide) ha hb).2.2.2 w hw).2 rfl
    exact ⟨s, s1, s2, s3, fun c hc => (s4 c).trans (BITn_0 c hc).symm⟩
  · simp at hi
  · exact ⟨rfl, fun i p r hp => by simp at hp⟩
  · obtain ⟨-, a, f, lo, -, -, k1, -, k2, -⟩ := h.2.2 _ (List.mem_of_getElem? (i := 0) rfl)
    exact ⟨a, f, k1, k2, fun k r hk => by
      have h9 : ([] : List Row)[k]? = some r := hk
      simp at h9⟩
theorem FrS_GX {x : Nat} {μ μ' : Mem} (h : GX x μ μ') (hx : isMk (μ.kd x)) (hx' : isMk (μ'.kd x)) : FrS isMk μ μ' := fun q => by
  refine ⟨fun h0 hw => h.1 q (fun e => hw (by rw [e]; exact hx)) h0, fun h0 => ?_⟩
  by_cases c : μ.kd q = 0
  · exact h.2 q c
  · by_cases cx : q = x
    · subst cx
      exact Or.inr hx'
    · rw [(h.1 q cx c).1]
      exact h0
theorem Ini.zero {x : Nat} {μ m : Mem} (hx : μ.kd x = KM 0) (h1 : μ.fi 288 x = 0) (h2 : μ.fi 291 x = 0) (h3 : μ.fi 312 x = 0) (h4 : μ.fi 290 x = 0) (e : m = μ.sfi 289 x 1) : Ini x μ [] m := by
  subst e
  refine ⟨⟨hx, ?_, ?_, ?_, ?_, ?_⟩, ⟨fun z hz _ => same_sfi hz, fun z hz => Or.inl hz⟩, fun it hi => absurd hi List.not_mem_nil⟩
  · show u2 μ.fi 289 x 1 288 x = 0
    unfold u2
    rw [if_neg (by decide)]
    exact h1
  · show u2 μ.fi 289 x 1 289 x = 1
    exact u2_eq
  · show u2 μ.fi 289 x 1 291 x = 0
    unfold u2
    rw [if_neg (by decide)]
    exact h2
  · show u2 μ.fi 289 x 1 312 x = 0
    unfold u2
    rw [if_neg (by decide)]
    exact h3
  · show u2 μ.fi 289 x 1 290 x = 0
    unfold u2
    rw [if_neg (by decide)]
    exact h4
theorem Ini.kx {x : Nat} {μ0 μ : Mem} {is : List (Nat × (Nat → Mem → Prop))} (h : Ini x μ0 is μ) : μ.kd x % 32 = 10 := by rw [h.1.1]; decide
theorem Ini.xq {x q : Nat} {μ0 μ : Mem} {is : List (Nat × (Nat → Mem → Prop))} (h : Ini x μ0 is μ) (hq : μ.kd q = 0) : x ≠ q := fun e => KM_nz 0 (by rw [← h.1.1, e, hq])
theorem Ini.kn {x q K n : Nat} {μ0 μ : Mem} {is : List (Nat × (Nat → Mem → Prop))} (h : Ini x μ0 is μ) (hq : μ.kd q = 0) : (μ.newA q K n).kd x % 32 = 10 := by rw [(same_newA (h.xq hq)).1]; exact h.kx
theorem Ini.kg {x : Nat} {μ0 μ μ1 : Mem} {is : List (Nat × (Nat → Mem → Prop))} (h : Ini x μ0 is μ) (hg : Gr μ μ1) : μ1.kd x % 32 = 10 := by rw [(hg.1 x (by rw [h.1.1]; exact KM_nz 0)).1]; exact h.kx
theorem nm_17 {G : Gx} {s : State} (hK : KX G s) : s.vm.findClass "[[I" = some (G.2.1 17) := by
  rw [show "[[I" = "[" ++ (FieldType.array .int).toString from by decide +kernel]
  exact (hK.1.2 6 (G.2.1 17, .array .int) rfl).2
theorem nm_18 {G : Gx} {s : State} (hK : KX G s) : s.vm.findClass "[[[I" = some (G.2.1 18) := by
  rw [show "[[[I" = "[" ++ (FieldType.array (.array .int)).toString from by decide +kernel]
  exact (hK.1.2 7 (G.2.1 18, .array (.array .int)) rfl).2
theorem nm_19 {G : Gx} {s : State} (hK : KX G s) : s.vm.findClass "[[[[I" = some (G.2.1 19) := by
  rw [show "[[[[I" = "[" ++ (FieldType.array (.array (.array .int))).toString from by decide +kernel]
  exact (hK.1.2 8 (G.2.1 19, .array (.array (.array .int))) rfl).2
theorem nm_22 {G : Gx} {s : State} (hK : KX G s) : s.vm.findClass "[[[[Z" = some (G.2.1 22) := by
  rw [show "[[[[Z" = "[" ++ (FieldType.array (.array (.array .boolean))).toString from by decide +kernel]
  exact (hK.1.2 11 (G.2.1 22, .array (.array (.array .boolean))) rfl).2
theorem SI_s {i j : Nat} (hi : i < 3) (hj : j < 3) : (((SI (3 * i + j)).sLf 0 i j (nI (10 + 10 * j))).sLf 3 i j (-1)).sFl i j none = SI (3 * i + j + 1) := by
  have hd : ∀ a b, dn (3 * i + j + 1) a b ↔ (a = i ∧ b = j) ∨ dn (3 * i + j) a b := fun a b => by unfold dn; omega
  have e1 : w3 (w3 (SI (3 * i + j)).lf 0 i j (nI (10 + 10 * j))) 3 i j (-1) = (SI (3 * i + j + 1)).lf := funext fun f => funext fun a => funext fun b => by
    show w3 (w3 (fun f a b => if f = 0 then (if dn (3 * i + j) a b then nI (10 + 10 * b) else 0) else if f = 3 then (if dn (3 * i + j) a b then -1 else 0) else 0) 0 i j (nI (10 + 10 * j))) 3 i j (-1) f a b = if f = 0 then (if dn (3 * i + j + 1) a b then nI (10 + 10 * b) else 0) else if f = 3 then (if dn (3 * i + j + 1) a b then -1 else 0) else 0
    unfold w3
    by_cases c : a = i ∧ b = j
    · obtain ⟨rfl, rfl⟩ := c
      by_cases c0 : f = 0
      · subst c0
        rw [if_neg (by omega), if_pos ⟨rfl, rfl, rfl⟩, if_pos rfl, if_pos ((hd a b).mpr (Or.inl ⟨rfl, rfl⟩))]
      · by_cases c3 : f = 3
        · subst c3
          rw [if_pos ⟨rfl, rfl, rfl⟩, if_neg (by decide), if_pos rfl, if_pos ((hd a b).mpr (Or.inl ⟨rfl, rfl⟩))]
        · rw [if_neg (fun z => c3 z.1), if_neg (fun z => c0 z.1), if_neg c0, if_neg c3]
          exact (if_neg c0).trans (if_neg c3)
    · have h9 : dn (3 * i + j + 1) a b ↔ dn (3 * i + j) a b := by rw [hd a b]; exact ⟨fun z => z.resolve_left c, Or.inr⟩
      rw [if_neg (fun z => c z.2), if_neg (fun z => c z.2)]
      simp only [h9]
  have e2 : w2 (SI (3 * i + j)).fl i j none = (SI (3 * i + j + 1)).fl := funext fun a => funext fun b => by
    show w2 (fun a b => if dn (3 * i + j) a b then none else some (fun _ => 0)) i j none a b = if dn (3 * i + j + 1) a b then none else some (fun _ => 0)
    by_cases c : a = i ∧ b = j
    · obtain ⟨rfl, rfl⟩ := c
      rw [w2_eq, if_pos ((hd a b).mpr (Or.inl ⟨rfl, rfl⟩))]
    · rw [w2_ne c]
      have h9 : dn (3 * i + j + 1) a b ↔ dn (3 * i + j) a b := by rw [hd a b]; exact ⟨fun z => z.resolve_left c, Or.inr⟩
      simp only [h9]
  show ((SI (3 * i + j)).sc, (SI (3 * i + j)).ef, w3 (w3 (SI (3 * i + j)).lf 0 i j (nI (10 + 10 * j))) 3 i j (-1), (SI (3 * i + j)).cd, w2 (SI (3 * i + j)).fl i j none, (SI (3 * i + j)).ses, (SI (3 * i + j)).wt, (SI (3 * i + j)).rt, (SI (3 * i + j)).ou, (SI (3 * i + j)).nt) = SI (3 * i + j + 1)
  rw [e1, e2]
  rfl
theorem MRq.S0 {Q : Nat → Nat} {μ : Mem} (h : MRq Q (SI 9) (LXo (SI 9) 0) μ) : MRq Q S0 (LXo S0 0) μ := by
  obtain ⟨h1, h2, h3, h4, h5⟩ := h
  refine ⟨h1, h2, h3, fun t a b ht ha hb => ?_, h5⟩
  have h9 := h4 t a b ht ha hb
  have hd : dn 9 a b := ⟨ha, hb, by omega⟩
  have c0 : (SI 9).lf 0 a b = nI (10 + 10 * b) := if_pos hd
  have c3 : (SI 9).lf 3 a b = -1 := if_pos hd
  have cf : (SI 9).fl a b = none := if_pos hd
  have h8 : t = 0 ∨ t = 1 ∨ t = 2 ∨ t = 3 ∨ t = 4 ∨ t = 5 ∨ t = 6 ∨ t = 7 ∨ t = 8 ∨ t = 9 := by omega
  rcases h8 with rfl | rfl | rfl | rfl | rfl | rfl | rfl | rfl | rfl | rfl
  · exact h9.trans c0
  · exact h9
  · exact h9
  · have h7 : μ.ei (Q (21 + 3 * 3 + a)) b = match (SI 9).fl a b with
      | none => -1
      | some r => r 0 := h9
    rw [cf] at h7
    exact h7
  · intro r hr
    cases hr
  · intro r hr
    cases hr
  · intro r hr
    cases hr
  · exact h9.trans c3
  · exact h9
  · exact h9
set_option maxRecDepth 100000 in
set_option maxHeartbeats 1000000 in
theorem bl_iB {Z : Zx} {rf mc ms rl k n : Nat} {Q : Nat → Nat} {μ0 μ : Mem} {i j : Nat} (C : Cx Z RX9 cX9_init rf mc ms rl) (hi : i < 3) (hj : j < 3) (hT : MTo Q WAll μ0 (SI (3 * i + j)) (LXo (SI (3 * i + j)) 0) μ) (kk : ∀ m, MTo Q WAll μ0 (SI (3 * i + j + 1)) (LXo (SI (3 * i + j + 1)) 0) m → HW Z k n 241 [some (.ref (Q 0)), some (.int (nI i)), some (.int (nI (j + 1)))] [] m) : HW Z k n 241 [some (.ref (Q 0)), some (.int (nI i)), some (.int (nI j))] [] μ := by
  have hM := hT.1
  refine h_iload_g C dX9_init_241 rfl rfl ?_
  refine h_iconst (v := 3) C dX9_init_242 (by decide) ?_
  refine h_icmp_ge (tgt := 285) C dX9_init_243 (by decide) (fun c1 => absurd c1 ((by exact nI_ge (b := 3) (by omega) (by decide)))) (fun c1 => ?_)
  refine h_al_g C dX9_init_246 rfl rfl rfv_r ?_
  refine gs_X9_37 C dX9_init_247 hM.kX (hM.fA (i := 7) (by decide)) ?_
  refine h_iload_g C dX9_init_250 rfl rfl ?_
  refine h_aald (r := some _) C dX9_init_251 (hM.kr (by decide)) (inb (hM.ln3 (by decide)) (vp_in_nI hi (by decide))) (atI (cl_of (n := i) (by have h9 := hi; omega)) (hM.tb (t := 0) (by decide) hi)) ?_
  refine h_iload_g C dX9_init_252 rfl rfl ?_
  refine h_bipush (v := 10) C dX9_init_253 (by decide) ?_
  refine h_bipush (v := 10) C dX9_init_255 (by decide) ?_
  refine h_iload_g C dX9_init_257 rfl rfl ?_
  refine h_imul C dX9_init_258 ?_
  refine h_iadd C dX9_init_259 ?_
  refine h_iast C dX9_init_260 (hM.k11 (by have h0_ := hi; omega)) (inb (hM.ln3 (by have h0_ := hi; omega)) (vp_in_nI hj (by decide))) ?_
  refine h_abs (fun m1 em1 => ?_)
  rw [show (nI j).toNatClampNeg = j from (cl_of (n := j) (by have h9 := hj; omega))] at em1
  rw [show (10 + 10 * nI j : Int32) = nI (10 + 10 * j) from by rw [show (10 : Int32) = nI 10 from rfl, pk_mul, nI_add]] at em1
  have hT := hT.sei (j := 21 + 3 * 0 + i) (by have h0_ := hi; omega) (Or.inr trivial) em1 (hT.1.wT0 hi hj em1)
  have hM := hT.1
  refine h_al_g C dX9_init_261 rfl rfl rfv_r ?_
  refine gs_X9_58 C dX9_init_262 hM.kX (hM.fA (i := 14) (by decide)) ?_
  refine h_iload_g C dX9_init_265 rfl rfl ?_
  refine h_aald (r := some _) C dX9_init_266 (hM.kr (by decide)) (inb (hM.ln3 (by decide)) (vp_in_nI hi (by decide))) (atI (cl_of (n := i) (by have h9 := hi; omega)) (hM.tb (t := 7) (by decide) hi)) ?_
  refine h_iload_g C dX9_init_267 rfl rfl ?_
  refine h_iconst (v := (-1)) C dX9_init_268 (by decide) ?_
  refine h_iast C dX9_init_269 (hM.k11 (by have h0_ := hi; omega)) (inb (hM.ln3 (by have h0_ := hi; omega)) (vp_in_nI hj (by decide))) ?_
  refine h_abs (fun m2 em2 => ?_)
  rw [show (nI j).toNatClampNeg = j from (cl_of (n := j) (by have h9 := hj; omega))] at em2
  have hT := hT.sei (j := 21 + 3 * 7 + i) (by have h0_ := hi; omega) (Or.inr trivial) em2 (hT.1.wT7 hi hj em2)
  have hM := hT.1
  refine h_al_g C dX9_init_270 rfl rfl rfv_r ?_
  refine gs_X9_46 C dX9_init_271 hM.kX (hM.fA (i := 10) (by decide)) ?_
  refine h_iload_g C dX9_init_274 rfl rfl ?_
  refine h_aald (r := some _) C dX9_init_275 (hM.kr (by decide)) (inb (hM.ln3 (by decide)) (vp_in_nI hi (by decide))) (atI (cl_of (n := i) (by have h9 := hi; omega)) (hM.tb (t := 3) (by decide) hi)) ?_
  refine h_iload_g C dX9_init_276 rfl rfl ?_
  refine h_iconst (v := (-1)) C dX9_init_277 (by decide) ?_
  refine h_iast C dX9_init_278 (hM.k11 (by have h0_ := hi; omega)) (inb (hM.ln3 (by have h0_ := hi; omega)) (vp_in_nI hj (by decide))) ?_
  refine h_abs (fun m3 em3 => ?_)
  rw [show (nI j).toNatClampNeg = j from (cl_of (n := j) (by have h9 := hj; omega))] at em3
  have hT := hT.sei (j := 21 + 3 * 3 + i) (by have h0_ := hi; omega) (Or.inr trivial) em3 (hT.1.wT3n hi hj em3)
  have hM := hT.1
  refine h_iinc_2 (q := 1) C dX9_init_279 (by decide) ct_i ?_
  refine h_goto (tgt := 241) C dX9_init_282 (by decide) ?_
  rw [nI_1]
  rw [SI_s hi hj] at hT
  exact kk _ hT

set_option maxRecDepth 100000 in
set_option maxHeartbeats 1000000 in
theorem bl_iC {Z : Zx} {rf mc ms rl k n : Nat} {Q : Nat → Nat} {μ : Mem} {i : Nat} (C : Cx Z RX9 cX9_init rf mc ms rl) (hi : i < 3) (kk : ∀ z2 : Option Value, HW Z k n 234 [some (.ref (Q 0)), some (.int (nI (i + 1))), z2] [] μ) : HW Z k n 241 [some (.ref (Q 0)), some (.int (nI i)), some (.int (nI 3))] [] μ := by
  refine h_iload_g C dX9_init_241 rfl rfl ?_
  refine h_iconst (v := 3) C dX9_init_242 (by decide) ?_
  refine h_icmp_ge (tgt := 285) C dX9_init_243 (by decide) (fun c1 => ?_) (fun c1 => absurd (by decide) c1)
  refine h_iinc_1 (q := 1) C dX9_init_285 (by decide) ct_r ?_
  refine h_goto (tgt := 234) C dX9_init_288 (by decide) ?_
  rw [nI_1]
  exact kk _

set_option maxRecDepth 100000 in
set_option maxHeartbeats 1000000 in
theorem bl_iD {Z : Zx} {rf mc ms rl k n : Nat} {Q : Nat → Nat} {μ0 μ : Mem} {i : Nat} (C : Cx Z RX9 cX9_init rf mc ms rl) (hi : i < 3) (hT : MTo Q WAll μ0 (SI (3 * i + 0)) (LXo (SI (3 * i + 0)) 0) μ) (kk : ∀ m, MTo Q WAll μ0 (SI (3 * i + 3)) (LXo (SI (3 * i + 3)) 0) m → ∀ z2 : Option Value, HW Z k n 234 [some (.ref (Q 0)), some (.int (nI (i + 1))), z2] [] m) : ∀ z2 : Option Value, HW Z k n 234 [some (.ref (Q 0)), some (.int (nI i)), z2] [] μ := by
  intro z2
  have hM := hT.1
  refine h_iload_g C dX9_init_234 rfl rfl ?_
  refine h_iconst (v := 3) C dX9_init_235 (by decide) ?_
  refine h_icmp_ge (tgt := 291) C dX9_init_236 (by decide) (fun c1 => absurd c1 ((by exact nI_ge (b := 3) (by omega) (by decide)))) (fun c1 => ?_)
  refine h_iconst (v := 0) C dX9_init_239 (by decide) ?_
  refine h_ist_2 C dX9_init_240 ct_i ?_
  exact bl_iB C hi (j := 0) (by decide) hT (fun m1 h1 => bl_iB C hi (j := 1) (by decide) h1 (fun m2 h2 => bl_iB C hi (j := 2) (by decide) h2 (fun m3 h3 => bl_iC C hi (kk m3 h3))))

set_option maxRecDepth 100000 in
set_option maxHeartbeats 1000000 in
theorem lp_X9_initE {Z : Zx} {Post : Option Value → Mem → Prop} {PostX : String → Mem → Prop} {rf mc ms rl k n : Nat} {Q : Nat → Nat} {μ0 μ : Mem} (C : Cx Z RX9 cX9_init rf mc ms rl) (E : Rt Z mc ms none Post PostX) (hk : k ≤ mc) (hn : n ≤ ms) (hT : MTo Q WAll μ0 (SI 9) (LXo (SI 9) 0) μ) (hP : ∀ m, MTo Q WAll μ0 S0 (LXo S0 0) m → Post none m) : ∀ z2 : Option Value, HW Z k n 234 [some (.ref (Q 0)), some (.int (nI 3)), z2] [] μ := by
  intro z2
  have hM := hT.1
  refine h_iload_g C dX9_init_234 rfl rfl ?_
  refine h_iconst (v := 3) C dX9_init_235 (by decide) ?_
  refine h_icmp_ge (tgt := 291) C dX9_init_236 (by decide) (fun c1 => ?_) (fun c1 => absurd (by decide) c1)
  refine h_ret C E dX9_init_291 hk hn ?_
  exact hP _ ⟨hT.1.S0, hT.2⟩

set_option maxRecDepth 100000 in
set_option maxHeartbeats 1000000 in
theorem lp_X9_init {Z : Zx} {Post : Option Value → Mem → Prop} {PostX : String → Mem → Prop} {rf mc ms rl k n : Nat} {Q : Nat → Nat} {μ0 μ : Mem} (C : Cx Z RX9 cX9_init rf mc ms rl) (E : Rt Z mc ms none Post PostX) (hk : k ≤ mc) (hn : n ≤ ms) (hT : MTo Q WAll μ0 (SI 0) (LXo (SI 0) 0) μ) (hP : ∀ m, MTo Q WAll μ0 S0 (LXo S0 0) m → Post none m) {z1 z2 : Option Value} : HW Z k n 232 [some (.ref (Q 0)), z1, z2] [] μ := by
  have hM := hT.1
  refine h_iconst (v := 0) C dX9_init_232 (by decide) ?_
  refine h_ist_1 C dX9_init_233 ct_r ?_
  exact bl_iD C (i := 0) (by decide) hT (fun m1 h1 => bl_iD C (i := 1) (by decide) h1 (fun m2 h2 => bl_iD C (i := 2) (by decide) h2 (fun m3 h3 => lp_X9_initE C E hk hn h3 hP))) _

set_option maxRecDepth 100000 in
set_option maxHeartbeats 1000000 in
theorem k_X9_init (l : Launch) (G : Gx) (x : Nat) (μ : Mem) (hx : μ.kd x = KM 0) (z1 : μ.fi 288 x = 0) (z2 : μ.fi 291 x = 0) (z3 : μ.fi 312 x = 0) (z4 : μ.fi 290 x = 0) : Kon l yX9_init cX9_init 3 none 1 264 2819 40 G [.ref x] μ (pV fun μ' => ∃ Q : Nat → Nat, Q 0 = x ∧ MTo Q WAll μ S0 (LXo S0 0) μ') noX := by
  refine Kon.ofG (by decide +kernel) (Nat.le_of_ble_eq_true rfl) (Nat.le_of_ble_eq_true rfl) (fun Z hZG C E NT MT => ?_)
  subst hZG
  have C : Cx Z RX9 cX9_init 1 264 2819 40 := C
  show HW Z 0 0 0 [some (.ref x), none, none] [] μ
  refine h_al_g C dX9_init_0 rfl rfl rfv_r ?_
  refine h_objInit C ol_X9_1 im_obj cd_obj dX9_init_1 (by decide) (by decide) ?_
  refine h_al_g C dX9_init_4 rfl rfl rfv_r ?_
  refine h_iconst (v := 1) C dX9_init_5 (by decide) ?_
  refine pf_X9_7 C dX9_init_6 (by rw [hx]; decide) ?_
  refine h_abs (fun m0 e0 => ?_)
  have h0 : μ.kd x ≠ 0 := by rw [hx]; exact KM_nz 0
  have hI := Ini.zero hx z1 z2 z3 z4 e0
  refine h_al_g C dX9_init_9 rfl rfl rfv_r ?_
  refine h_iconst (v := 3) C dX9_init_10 (by decide) ?_
  refine h_newarr (atype := .int) (N := 3) (KM 1) C ac_11 (by rw [(show (KM 1) % 32 = 11 by first | decide | omega | (unfold FM; omega))]; rfl) (Or.inl (show (KM 1) % 32 = 11 by first | decide | omega | (unfold FM; omega))) dX9_init_11 (by decide) (by decide) (by decide) (by first | decide | omega) (by first | decide | omega) (fun q1 hq1 => ?_)
  refine h_abs (fun n0 en0 => ?_)
  have hs0 : ∀ z, z ≠ q1 → SameAt m0 n0 z := fun z hz => by rw [en0]; exact same_newA hz
  have k0 : n0.kd q1 = KM 1 := by rw [en0]; exact kd_newA
  have l0 : n0.ln q1 = 3 := by rw [en0]; exact ln_newA
  refine h_dup C dX9_init_13 rfl ?_
  refine h_iconst (v := 0) C dX9_init_14 (by decide) ?_
  refine h_bipush (v := 10) C dX9_init_15 (by decide) ?_
  refine h_iast C dX9_init_17 (by rw [k0]; decide) (inb l0 (vp_in_nI (n := 0) (by decide) (by decide))) ?_
  refine h_abs (fun n1 en1 => ?_)
  rw [show Int32.toNatClampNeg 0 = 0 from rfl] at en1
  have hs1 : ∀ z, z ≠ q1 → SameAt m0 n1 z := fun z hz => (hs0 z hz).tr9 (by rw [en1]; exact same_sei hz)
  have k1 : n1.kd q1 = KM 1 := by rw [en1]; exact k0
  have l1 : n1.ln q1 = 3 := by rw [en1]; exact l0
  have w0 : n1.ei q1 0 = 10 := mei_at en1
  refine h_dup C dX9_init_18 rfl ?_
  refine h_iconst (v := 1) C dX9_init_19 (by decide) ?_
  refine h_bipush (v := 20) C dX9_init_20 (by decide) ?_
  refine h_iast C dX9_init_22 (by rw [k1]; decide) (inb l1 (vp_in_nI (n := 1) (by decide) (by decide))) ?_
  refine h_abs (fun n2 en2 => ?_)
  rw [show Int32.toNatClampNeg 1 = 1 from rfl] at en2
  have hs2 : ∀ z, z ≠ q1 → SameAt m0 n2 z := fun z hz => (hs1 z hz).tr9 (by rw [en2]; exact same_sei hz)
  have k2 : n2.kd q1 = KM 1 := by rw [en2]; exact k1
  have l2 : n2.ln q1 = 3 := by rw [en2]; exact l1
  have w1 : n2.ei q1 1 = 20 := mei_at en2
  have w0 : n2.ei q1 0 = 10 := (by rw [en2]; exact (mei_ap rfl (Or.inr (by decide))).trans w0)
  refine h_dup C dX9_init_23 rfl ?_
  refine h_iconst (v := 2) C dX9_init_24 (by decide) ?_
  refine h_bipush (v := 30) C dX9_init_25 (by decide) ?_
  refine h_iast C dX9_init_27 (by rw [k2]; decide) (inb l2 (vp_in_nI (n := 2) (by decide) (by decide))) ?_
  refine h_abs (fun n3 en3 => ?_)
  rw [show Int32.toNatClampNeg 2 = 2 from rfl] at en3
  have hs3 : ∀ z, z ≠ q1 → SameAt m0 n3 z := fun z hz => (hs2 z hz).tr9 (by rw [en3]; exact same_sei hz)
  have k3 : n3.kd q1 = KM 1 := by rw [en3]; exact k2
  have l3 : n3.ln q1 = 3 := by rw [en3]; exact l2
  have w2 : n3.ei q1 2 = 30 := mei_at en3
  have w0 : n3.ei q1 0 = 10 := (by rw [en3]; exact (mei_ap rfl (Or.inr (by decide))).trans w0)
  have w1 : n3.ei q1 1 = 20 := (by rw [en3]; exact (mei_ap rfl (Or.inr (by decide))).trans w1)
  refine pf_X9_13 (some _) C dX9_init_28 (by rw [(hs3 x (hI.xq hq1)).1]; exact hI.kx) MT rfl ?_
  refine h_abs (fun m1 e1 => ?_)
  have hI := hI.arr (j := 1) (v := fun i => nI (10 + 10 * i)) h0 hq1 (isMk_KM (by decide)) (fun e => absurd (KM_inj e) (by decide)) (fun _ h => absurd h List.not_mem_nil) hs3 k3 l3 (fun i hi => by
    have h9 : i = 0 ∨ i = 1 ∨ i = 2 := by omega
    rcases h9 with rfl | rfl | rfl
    · exact w0
    · exact w1
    · exact w2) rfl e1
  refine h_al_g C dX9_init_31 rfl rfl rfv_r ?_
  refine h_iconst (v := 3) C dX9_init_32 (by decide) ?_
  refine h_newarr (atype := .int) (N := 3) (KM 2) C ac_11 (by rw [(show (KM 2) % 32 = 11 by first | decide | omega | (unfold FM; omega))]; rfl) (Or.inl (show (KM 2) % 32 = 11 by first | decide | omega | (unfold FM; omega))) dX9_init_33 (by decide) (by decide) (by decide) (by first | decide | omega) (by first | decide | omega) (fun q2 hq2 => ?_)
  refine pf_X9_17 (some _) C dX9_init_35 (hI.kn hq2) MT rfl ?_
  refine h_abs (fun m2 e2 => ?_)
  have hI := hI.arr0 (j := 2) h0 hq2 (isMk_KM (by decide)) (fun e => absurd (KM_inj e) (by decide)) (List.forall_mem_cons.mpr ⟨fst_ne (by decide), (fun _ h => absurd h List.not_mem_nil)⟩) rfl e2
  refine h_al_g C dX9_init_38 rfl rfl rfv_r ?_
  refine h_iconst (v := 3) C dX9_init_39 (by decide) ?_
  refine h_newarr (atype := .int) (N := 3) (KM 3) C ac_11 (by rw [(show (KM 3) % 32 = 11 by first | decide | omega | (unfold FM; omega))]; rfl) (Or.inl (show (KM 3) % 32 = 11 by first | decide | omega | (unfold FM; omega))) dX9_init_40 (by decide) (by decide) (by decide) (by first | decide | omega) (by first | decide | omega) (fun q3 hq3 => ?_)
  refine pf_X9_20 (some _) C dX9_init_42 (hI.kn hq3) MT rfl ?_
  refine h_abs (fun m3 e3 => ?_)
  have hI := hI.arr0 (j := 3) h0 hq3 (isMk_KM (by decide)) (fun e => absurd (KM_inj e) (by decide)) (List.forall_mem_cons.mpr ⟨fst_ne (by decide), (List.forall_mem_cons.mpr ⟨fst_ne (by decide), (fun _ h => absurd h List.not_mem_nil)⟩)⟩) rfl e3
  refine h_al_g C dX9_init_45 rfl rfl rfv_r ?_
  refine h_bipush (v := 11) C dX9_init_46 (by decide) ?_
  refine h_newarr (atype := .int) (N := 11) (KM 4) C ac_11 (by rw [(show (KM 4) % 32 = 11 by first | decide | omega | (unfold FM; omega))]; rfl) (Or.inl (show (KM 4) % 32 = 11 by first | decide | omega | (unfold FM; omega))) dX9_init_48 (by decide) (by decide) (by decide) (by first | decide | omega) (by first | decide | omega) (fun q4 hq4 => ?_)
  refine pf_X9_23 (some _) C dX9_init_50 (hI.kn hq4) MT rfl ?_
  refine h_abs (fun m4 e4 => ?_)
  have hI := hI.arr0 (j := 4) h0 hq4 (isMk_KM (by decide)) (fun e => absurd (KM_inj e) (by decide)) (List.forall_mem_cons.mpr ⟨fst_ne (by decide), (List.forall_mem_cons.mpr ⟨fst_ne (by decide), (List.forall_mem_cons.mpr ⟨fst_ne (by decide), (fun _ h => absurd h List.not_mem_nil)⟩)⟩)⟩) rfl e4
  refine h_al_g C dX9_init_53 rfl rfl rfv_r ?_
  refine h_iconst (v := 3) C dX9_init_54 (by decide) ?_
  refine h_newarr (atype := .boolean) (N := 3) (KM 5) C ac_12 (by rw [(show (KM 5) % 32 = 12 by first | decide | omega | (unfold FM; omega))]; rfl) (Or.inr (Or.inl (show (KM 5) % 32 = 12 by first | decide | omega | (unfold FM; omega)))) dX9_init_55 (by decide) (by decide) (by decide) (by first | decide | omega) (by first | decide | omega) (fun q5 hq5 => ?_)
  refine pf_X9_26 (some _) C dX9_init_57 (hI.kn hq5) MT rfl ?_
  refine h_abs (fun m5 e5 => ?_)
  have hI := hI.arr0 (j := 5) h0 hq5 (isMk_KM (by decide)) (fun e => absurd (KM_inj e) (by decide)) (List.forall_mem_cons.mpr ⟨fst_ne (by decide), (List.forall_mem_cons.mpr ⟨fst_ne (by decide), (List.forall_mem_cons.mpr ⟨fst_ne (by decide), (List.forall_mem_cons.mpr ⟨fst_ne (by decide), (fun _ h => absurd h List.not_mem_nil)⟩)⟩)⟩)⟩) rfl e5
  refine h_al_g C dX9_init_60 rfl rfl rfv_r ?_
  refine h_iconst (v := 3) C dX9_init_61 (by decide) ?_
  refine h_bipush (v := 8) C dX9_init_62 (by decide) ?_
  refine h_iconst (v := 3) C dX9_init_64 (by decide) ?_
  refine h_mul (b := 18) (nc := 28) (ns := 99) (ds := [(3 : Int32), (8 : Int32), (3 : Int32)]) (st := [.ref x]) (ok := okN 18 3 (okN 17 8 (okL 11))) (tr := trN 3 (trN 8 (trL 3))) C kl_X9_30 (fun s hK => nm_18 hK) dX9_init_65 rfl mu_383 κ6 ok6 (by decide) (by decide) (fun a6 n6 ha6 hlo6 hg6 ht6 => ?_)
  refine pf_X9_32 (some _) C dX9_init_69 (hI.kg hg6) MT rfl ?_
  refine h_abs (fun m6 e6 => ?_)
  have hI := hI.tree (j := 6) h0 ha6 hlo6 hg6 (trN_st _ (trN_st _ (trL_st _))) ht6 (List.forall_mem_cons.mpr ⟨fst_ne (by decide), (List.forall_mem_cons.mpr ⟨fst_ne (by decide), (List.forall_mem_cons.mpr ⟨fst_ne (by decide), (List.forall_mem_cons.mpr ⟨fst_ne (by decide), (List.forall_mem_cons.mpr ⟨fst_ne (by decide), (fun _ h => absurd h List.not_mem_nil)⟩)⟩)⟩)⟩)⟩) rfl e6
  refine h_al_g C dX9_init_72 rfl rfl rfv_r ?_
  refine h_iconst (v := 3) C dX9_init_73 (by decide) ?_
  refine h_iconst (v := 3) C dX9_init_74 (by decide) ?_
  refine h_mul (b := 17) (nc := 4) (ns := 12) (ds := [(3 : Int32), (3 : Int32)]) (st := [.ref x]) (ok := okN 17 3 (okL 11)) (tr := trN 3 (trL 3)) C kl_X9_35 (fun s hK => nm_17 hK) dX9_init_75 rfl mu_33 (κT 0) (okT9 0 (by decide)) (by decide) (by decide) (fun a7 n7 ha7 hlo7 hg7 ht7 => ?_)
  refine pf_X9_37 (some _) C dX9_init_79 (hI.kg hg7) MT rfl ?_
  refine h_abs (fun m7 e7 => ?_)
  have hI := hI.tree (j := 7) h0 ha7 hlo7 hg7 (trN_st _ (trL_st _)) ht7 (List.forall_mem_cons.mpr ⟨fst_ne (by decide), (List.forall_mem_cons.mpr ⟨fst_ne (by decide), (List.forall_mem_cons.mpr ⟨fst_ne (by decide), (List.forall_mem_cons.mpr ⟨fst_ne (by decide), (List.forall_mem_cons.mpr ⟨fst_ne (by decide), (List.forall_mem_cons.mpr ⟨fst_ne (by decide), (fun _ h => absurd h List.not_mem_nil)⟩)⟩)⟩)⟩)⟩)⟩) rfl e7
  refine h_al_g C dX9_init_82 rfl rfl rfv_r ?_
  refine h_iconst (v := 3) C dX9_init_83 (by decide) ?_
  refine h_iconst (v := 3) C dX9_init_84 (by decide) ?_
  refine h_mul (b := 17) (nc := 4) (ns := 12) (ds := [(3 : Int32), (3 : Int32)]) (st := [.ref x]) (ok := okN 17 3 (okL 11)) (tr := trN 3 (trL 3)) C kl_X9_35 (fun s hK => nm_17 hK) dX9_init_85 rfl mu_33 (κT 1) (okT9 1 (by decide)) (by decide) (by decide) (fun a8 n8 ha8 hlo8 hg8 ht8 => ?_)
  refine pf_X9_40 (some _) C dX9_init_89 (hI.kg hg8) MT rfl ?_
  refine h_abs (fun m8 e8 => ?_)
  have hI := hI.tree (j := 8) h0 ha8 hlo8 hg8 (trN_st _ (trL_st _)) ht8 (List.forall_mem_cons.mpr ⟨fst_ne (by decide), (List.forall_mem_cons.mpr ⟨fst_ne (by decide), (List.forall_mem_cons.mpr ⟨fst_ne (by decide), (List.forall_mem_cons.mpr ⟨fst_ne (by decide), (List.forall_mem_cons.mpr ⟨fst_ne (by decide), (List.forall_mem_cons.mpr ⟨fst_ne (by decide), (List.forall_mem_cons.mpr ⟨fst_ne (by decide), (fun _ h => absurd h List.not_mem_nil)⟩)⟩)⟩)⟩)⟩)⟩)⟩) rfl e8
  refine h_al_g C dX9_init_92 rfl rfl rfv_r ?_
  refine h_iconst (v := 3) C dX9_init_93 (by decide) ?_
  refine h_iconst (v := 3) C dX9_init_94 (by decide) ?_
  refine h_mul (b := 17) (nc := 4) (ns := 12) (ds := [(3 : Int32), (3 : Int32)]) (st := [.ref x]) (ok := okN 17 3 (okL 11)) (tr := trN 3 (trL 3)) C kl_X9_35 (fun s hK => nm_17 hK) dX9_init_95 rfl mu_33 (κT 2) (okT9 2 (by decide)) (by decide) (by decide) (fun a9 n9 ha9 hlo9 hg9 ht9 => ?_)
  refine pf_X9_43 (some _) C dX9_init_99 (hI.kg hg9) MT rfl ?_
  refine h_abs (fun m9 e9 => ?_)
  have hI := hI.tree (j := 9) h0 ha9 hlo9 hg9 (trN_st _ (trL_st _)) ht9 (List.forall_mem_cons.mpr ⟨fst_ne (by decide), (List.forall_mem_cons.mpr ⟨fst_ne (by decide), (List.forall_mem_cons.mpr ⟨fst_ne (by decide), (List.forall_mem_cons.mpr ⟨fst_ne (by decide), (List.forall_mem_cons.mpr ⟨fst_ne (by decide), (List.forall_mem_cons.mpr ⟨fst_ne (by decide), (List.forall_mem_cons.mpr ⟨fst_ne (by decide), (List.forall_mem_cons.mpr ⟨fst_ne (by decide), (fun _ h => absurd h List.not_mem_nil)⟩)⟩)⟩)⟩)⟩)⟩)⟩)⟩) rfl e9
  refine h_al_g C dX9_init_102 rfl rfl rfv_r ?_
  refine h_iconst (v := 3) C dX9_init_103 (by decide) ?_
  refine h_iconst (v := 3) C dX9_init_104 (by decide) ?_
  refine h_mul (b := 17) (nc := 4) (ns := 12) (ds := [(3 : Int32), (3 : Int32)]) (st := [.ref x]) (ok := okN 17 3 (okL 11)) (tr := trN 3 (trL 3)) C kl_X9_35 (fun s hK => nm_17 hK) dX9_init_105 rfl mu_33 (κT 3) (okT9 3 (by decide)) (by decide) (by decide) (fun a10 n10 ha10 hlo10 hg10 ht10 => ?_)
  refine pf_X9_46 (some _) C dX9_init_109 (hI.kg hg10) MT rfl ?_
  refine h_abs (fun m10 e10 => ?_)
  have hI := hI.tree (j := 10) h0 ha10 hlo10 hg10 (trN_st _ (trL_st _)) ht10 (List.forall_mem_cons.mpr ⟨fst_ne (by decide), (List.forall_mem_cons.mpr ⟨fst_ne (by decide), (List.forall_mem_cons.mpr ⟨fst_ne (by decide), (List.forall_mem_cons.mpr ⟨fst_ne (by decide), (List.forall_mem_cons.mpr ⟨fst_ne (by decide), (List.forall_mem_cons.mpr ⟨fst_ne (by decide), (List.forall_mem_cons.mpr ⟨fst_ne (by decide), (List.forall_mem_cons.mpr ⟨fst_ne (by decide), (List.forall_mem_cons.mpr ⟨fst_ne (by decide), (fun _ h => absurd h List.not_mem_nil)⟩)⟩)⟩)⟩)⟩)⟩)⟩)⟩)⟩) rfl e10
  refine h_al_g C dX9_init_112 rfl rfl rfv_r ?_
  refine h_iconst (v := 3) C dX9_init_113 (by decide) ?_
  refine h_iconst (v := 3) C dX9_init_114 (by decide) ?_
  refine h_mul (b := 17) (nc := 4) (ns := 12) (ds := [(3 : Int32), (3 : Int32)]) (st := [.ref x]) (ok := okN 17 3 (okL 11)) (tr := trN 3 (trL 3)) C kl_X9_35 (fun s hK => nm_17 hK) dX9_init_115 rfl mu_33 (κT 4) (okT9 4 (by decide)) (by decide) (by decide) (fun a11 n11 ha11 hlo11 hg11 ht11 => ?_)
  refine pf_X9_49 (some _) C dX9_init_119 (hI.kg hg11) MT rfl ?_
  refine h_abs (fun m11 e11 => ?_)
  have hI := hI.tree (j := 11) h0 ha11 hlo11 hg11 (trN_st _ (trL_st _)) ht11 (List.forall_mem_cons.mpr ⟨fst_ne (by decide), (List.forall_mem_cons.mpr ⟨fst_ne (by decide), (List.forall_mem_cons.mpr ⟨fst_ne (by decide), (List.forall_mem_cons.mpr ⟨fst_ne (by decide), (List.forall_mem_cons.mpr ⟨fst_ne (by decide), (List.forall_mem_cons.mpr ⟨fst_ne (by decide), (List.forall_mem_cons.mpr ⟨fst_ne (by decide), (List.forall_mem_cons.mpr ⟨fst_ne (by decide), (List.forall_mem_cons.mpr ⟨fst_ne (by decide), (List.forall_mem_cons.mpr ⟨fst_ne (by decide), (fun _ h => absurd h List.not_mem_nil)⟩)⟩)⟩)⟩)⟩)⟩)⟩)⟩)⟩)⟩) rfl e11
  refine h_al_g C dX9_init_122 rfl rfl rfv_r ?_
  refine h_iconst (v := 3) C dX9_init_123 (by decide) ?_
  refine h_iconst (v := 3) C dX9_init_124 (by decide) ?_
  refine h_mul (b := 17) (nc := 4) (ns := 12) (ds := [(3 : Int32), (3 : Int32)]) (st := [.ref x]) (ok := okN 17 3 (okL 11)) (tr := trN 3 (trL 3)) C kl_X9_35 (fun s hK => nm_17 hK) dX9_init_125 rfl mu_33 (κT 5) (okT9 5 (by decide)) (by decide) (by decide) (fun a12 n12 ha12 hlo12 hg12 ht12 => ?_)
  refine pf_X9_52 (some _) C dX9_init_129 (hI.kg hg12) MT rfl ?_
  refine h_abs (fun m12 e12 => ?_)
  have hI := hI.tree (j := 12) h0 ha12 hlo12 hg12 (trN_st _ (trL_st _)) ht12 (List.forall_mem_cons.mpr ⟨fst_ne (by decide), (List.forall_mem_cons.mpr ⟨fst_ne (by decide), (List.forall_mem_cons.mpr ⟨fst_ne (by decide), (List.forall_mem_cons.mpr ⟨fst_ne (by decide), (List.forall_mem_cons.mpr ⟨fst_ne (by decide), (List.forall_mem_cons.mpr ⟨fst_ne (by decide), (List.forall_mem_cons.mpr ⟨fst_ne (by decide), (List.forall_mem_cons.mpr ⟨fst_ne (by decide), (List.forall_mem_cons.mpr ⟨fst_ne (by decide), (List.forall_mem_cons.mpr ⟨fst_ne (by decide), (List.forall_mem_cons.mpr ⟨fst_ne (by decide), (fun _ h => absurd h List.not_mem_nil)⟩)⟩)⟩)⟩)⟩)⟩)⟩)⟩)⟩)⟩)⟩) rfl e12
  refine h_al_g C dX9_init_132 rfl rfl rfv_r ?_
  refine h_iconst (v := 3) C dX9_init_133 (by decide) ?_
  refine h_iconst (v := 3) C dX9_init_134 (by decide) ?_
  refine h_mul (b := 17) (nc := 4) (ns := 12) (ds := [(3 : Int32), (3 : Int32)]) (st := [.ref x]) (ok := okN 17 3 (okL 11)) (tr := trN 3 (trL 3)) C kl_X9_35 (fun s hK => nm_17 hK) dX9_init_135 rfl mu_33 (κT 6) (okT9 6 (by decide)) (by decide) (by decide) (fun a13 n13 ha13 hlo13 hg13 ht13 => ?_)
  refine pf_X9_55 (some _) C dX9_init_139 (hI.kg hg13) MT rfl ?_
  refine h_abs (fun m13 e13 => ?_)
  have hI := hI.tree (j := 13) h0 ha13 hlo13 hg13 (trN_st _ (trL_st _)) ht13 (List.forall_mem_cons.mpr ⟨fst_ne (by decide), (List.forall_mem_cons.mpr ⟨fst_ne (by decide), (List.forall_mem_cons.mpr ⟨fst_ne (by decide), (List.forall_mem_cons.mpr ⟨fst_ne (by decide), (List.forall_mem_cons.mpr ⟨fst_ne (by decide), (List.forall_mem_cons.mpr ⟨fst_ne (by decide), (List.forall_mem_cons.mpr ⟨fst_ne (by decide), (List.forall_mem_cons.mpr ⟨fst_ne (by decide), (List.forall_mem_cons.mpr ⟨fst_ne (by decide), (List.forall_mem_cons.mpr ⟨fst_ne (by decide), (List.forall_mem_cons.mpr ⟨fst_ne (by decide), (List.forall_mem_cons.mpr ⟨fst_ne (by decide), (fun _ h => absurd h List.not_mem_nil)⟩)⟩)⟩)⟩)⟩)⟩)⟩)⟩)⟩)⟩)⟩)⟩) rfl e13
  refine h_al_g C dX9_init_142 rfl rfl rfv_r ?_
  refine h_iconst (v := 3) C dX9_init_143 (by decide) ?_
  refine h_iconst (v := 3) C dX9_init_144 (by decide) ?_
  refine h_mul (b := 17) (nc := 4) (ns := 12) (ds := [(3 : Int32), (3 : Int32)]) (st := [.ref x]) (ok := okN 17 3 (okL 11)) (tr := trN 3 (trL 3)) C kl_X9_35 (fun s hK => nm_17 hK) dX9_init_145 rfl mu_33 (κT 7) (okT9 7 (by decide)) (by decide) (by decide) (fun a14 n14 ha14 hlo14 hg14 ht14 => ?_)
  refine pf_X9_58 (some _) C dX9_init_149 (hI.kg hg14) MT rfl ?_
  refine h_abs (fun m14 e14 => ?_)
  have hI := hI.tree (j := 14) h0 ha14 hlo14 hg14 (trN_st _ (trL_st _)) ht14 (List.forall_mem_cons.mpr ⟨fst_ne (by decide), (List.forall_mem_cons.mpr ⟨fst_ne (by decide), (List.forall_mem_cons.mpr ⟨fst_ne (by decide), (List.forall_mem_cons.mpr ⟨fst_ne (by decide), (List.forall_mem_cons.mpr ⟨fst_ne (by decide), (List.forall_mem_cons.mpr ⟨fst_ne (by decide), (List.forall_mem_cons.mpr ⟨fst_ne (by decide), (List.forall_mem_cons.mpr ⟨fst_ne (by decide), (List.forall_mem_cons.mpr ⟨fst_ne (by decide), (List.forall_mem_cons.mpr ⟨fst_ne (by decide), (List.forall_mem_cons.mpr ⟨fst_ne (by decide), (List.forall_mem_cons.mpr ⟨fst_ne (by decide), (List.forall_mem_cons.mpr ⟨fst_ne (by decide), (fun _ h => absurd h List.not_mem_nil)⟩)⟩)⟩)⟩)⟩)⟩)⟩)⟩)⟩)⟩)⟩)⟩)⟩) rfl e14
  refine h_al_g C dX9_init_152 rfl rfl rfv_r ?_
  refine h_iconst (v := 3) C dX9_init_153 (by decide) ?_
  refine h_iconst (v := 3) C dX9_init_154 (by decide) ?_
  refine h_mul (b := 17) (nc := 4) (ns := 12) (ds := [(3 : Int32), (3 : Int32)]) (st := [.ref x]) (ok := okN 17 3 (okL 11)) (tr := trN 3 (trL 3)) C kl_X9_35 (fun s hK => nm_17 hK) dX9_init_155 rfl mu_33 (κT 8) (okT9 8 (by decide)) (by decide) (by decide) (fun a15 n15 ha15 hlo15 hg15 ht15 => ?_)
  refine pf_X9_61 (some _) C dX9_init_159 (hI.kg hg15) MT rfl ?_
  refine h_abs (fun m15 e15 => ?_)
  have hI := hI.tree (j := 15) h0 ha15 hlo15 hg15 (trN_st _ (trL_st _)) ht15 (List.forall_mem_cons.mpr ⟨fst_ne (by decide), (List.forall_mem_cons.mpr ⟨fst_ne (by decide), (List.forall_mem_cons.mpr ⟨fst_ne (by decide), (List.forall_mem_cons.mpr ⟨fst_ne (by decide), (List.forall_mem_cons.mpr ⟨fst_ne (by decide), (List.forall_mem_cons.mpr ⟨fst_ne (by decide), (List.forall_mem_cons.mpr ⟨fst_ne (by decide), (List.forall_mem_cons.mpr ⟨fst_ne (by decide), (List.forall_mem_cons.mpr ⟨fst_ne (by decide), (List.forall_mem_cons.mpr ⟨fst_ne (by decide), (List.forall_mem_cons.mpr ⟨fst_ne (by decide), (List.forall_mem_cons.mpr ⟨fst_ne (by decide), (List.forall_mem_cons.mpr ⟨fst_ne (by decide), (List.forall_mem_cons.mpr ⟨fst_ne (by decide), (fun _ h => absurd h List.not_mem_nil)⟩)⟩)⟩)⟩)⟩)⟩)⟩)⟩)⟩)⟩)⟩)⟩)⟩)⟩) rfl e15
  refine h_al_g C dX9_init_162 rfl rfl rfv_r ?_
  refine h_iconst (v := 3) C dX9_init_163 (by decide) ?_
  refine h_iconst (v := 3) C dX9_init_164 (by decide) ?_
  refine h_mul (b := 17) (nc := 4) (ns := 12) (ds := [(3 : Int32), (3 : Int32)]) (st := [.ref x]) (ok := okN 17 3 (okL 11)) (tr := trN 3 (trL 3)) C kl_X9_35 (fun s hK => nm_17 hK) dX9_init_165 rfl mu_33 (κT 9) (okT9 9 (by decide)) (by decide) (by decide) (fun a16 n16 ha16 hlo16 hg16 ht16 => ?_)
  refine pf_X9_64 (some _) C dX9_init_169 (hI.kg hg16) MT rfl ?_
  refine h_abs (fun m16 e16 => ?_)
  have hI := hI.tree (j := 16) h0 ha16 hlo16 hg16 (trN_st _ (trL_st _)) ht16 (List.forall_mem_cons.mpr ⟨fst_ne (by decide), (List.forall_mem_cons.mpr ⟨fst_ne (by decide), (List.forall_mem_cons.mpr ⟨fst_ne (by decide), (List.forall_mem_cons.mpr ⟨fst_ne (by decide), (List.forall_mem_cons.mpr ⟨fst_ne (by decide), (List.forall_mem_cons.mpr ⟨fst_ne (by decide), (List.forall_mem_cons.mpr ⟨fst_ne (by decide), (List.forall_mem_cons.mpr ⟨fst_ne (by decide), (List.forall_mem_cons.mpr ⟨fst_ne (by decide), (List.forall_mem_cons.mpr ⟨fst_ne (by decide), (List.forall_mem_cons.mpr ⟨fst_ne (by decide), (List.forall_mem_cons.mpr ⟨fst_ne (by decide), (List.forall_mem_cons.mpr ⟨fst_ne (by decide), (List.forall_mem_cons.mpr ⟨fst_ne (by decide), (List.forall_mem_cons.mpr ⟨fst_ne (by decide), (fun _ h => absurd h List.not_mem_nil)⟩)⟩)⟩)⟩)⟩)⟩)⟩)⟩)⟩)⟩)⟩)⟩)⟩)⟩)⟩) rfl e16
  refine h_al_g C dX9_init_172 rfl rfl rfv_r ?_
  refine h_iconst (v := 3) C dX9_init_173 (by decide) ?_
  refine h_iconst (v := 3) C dX9_init_174 (by decide) ?_
  refine h_iconst (v := 4) C dX9_init_175 (by decide) ?_
  refine h_iconst (v := 3) C dX9_init_176 (by decide) ?_
  refine h_mul (b := 19) (nc := 49) (ns := 156) (ds := [(3 : Int32), (3 : Int32), (4 : Int32), (3 : Int32)]) (st := [.ref x]) (ok := okN 19 3 (okN 18 3 (okN 17 4 (okL 11)))) (tr := trN 3 (trN 3 (trN 4 (trL 3)))) C kl_X9_67 (fun s hK => nm_19 hK) dX9_init_177 rfl mu_3343 (κD 0 (fun _ _ _ => KTMP)) okP (by decide) (by decide) (fun a17 n17 ha17 hlo17 hg17 ht17 => ?_)
  refine pf_X9_69 (some _) C dX9_init_181 (hI.kg hg17) MT rfl ?_
  refine h_abs (fun m17 e17 => ?_)
  have hI := hI.tree (j := 17) h0 ha17 hlo17 hg17 (trN_st _ (trN_st _ (trN_st _ (trL_st _)))) ht17 (List.forall_mem_cons.mpr ⟨fst_ne (by decide), (List.forall_mem_cons.mpr ⟨fst_ne (by decide), (List.forall_mem_cons.mpr ⟨fst_ne (by decide), (List.forall_mem_cons.mpr ⟨fst_ne (by decide), (List.forall_mem_cons.mpr ⟨fst_ne (by decide), (List.forall_mem_cons.mpr ⟨fst_ne (by decide), (List.forall_mem_cons.mpr ⟨fst_ne (by decide), (List.forall_mem_cons.mpr ⟨fst_ne (by decide), (List.forall_mem_cons.mpr ⟨fst_ne (by decide), (List.forall_mem_cons.mpr ⟨fst_ne (by decide), (List.forall_mem_cons.mpr ⟨fst_ne (by decide), (List.forall_mem_cons.mpr ⟨fst_ne (by decide), (List.forall_mem_cons.mpr ⟨fst_ne (by decide), (List.forall_mem_cons.mpr ⟨fst_ne (by decide), (List.forall_mem_cons.mpr ⟨fst_ne (by decide), (List.forall_mem_cons.mpr ⟨fst_ne (by decide), (fun _ h => absurd h List.not_mem_nil)⟩)⟩)⟩)⟩)⟩)⟩)⟩)⟩)⟩)⟩)⟩)⟩)⟩)⟩)⟩)⟩) rfl e17
  refine h_al_g C dX9_init_184 rfl rfl rfv_r ?_
  refine h_iconst (v := 3) C dX9_init_185 (by decide) ?_
  refine h_iconst (v := 3) C dX9_init_186 (by decide) ?_
  refine h_iconst (v := 3) C dX9_init_187 (by decide) ?_
  refine h_bipush (v := 9) C dX9_init_188 (by decide) ?_
  refine h_mul (b := 19) (nc := 40) (ns := 282) (ds := [(3 : Int32), (3 : Int32), (3 : Int32), (9 : Int32)]) (st := [.ref x]) (ok := okN 19 3 (okN 18 3 (okN 17 3 (okL 11)))) (tr := trN 3 (trN 3 (trN 3 (trL 9)))) C kl_X9_67 (fun s hK => nm_19 hK) dX9_init_190 rfl mu_3339 (κD 1 (fun a b w => KSE a b w)) okS9 (by decide) (by decide) (fun a18 n18 ha18 hlo18 hg18 ht18 => ?_)
  refine pf_X9_72 (some _) C dX9_init_194 (hI.kg hg18) MT rfl ?_
  refine h_abs (fun m18 e18 => ?_)
  have hI := hI.tree (j := 18) h0 ha18 hlo18 hg18 (trN_st _ (trN_st _ (trN_st _ (trL_st _)))) ht18 (List.forall_mem_cons.mpr ⟨fst_ne (by decide), (List.forall_mem_cons.mpr ⟨fst_ne (by decide), (List.forall_mem_cons.mpr ⟨fst_ne (by decide), (List.forall_mem_cons.mpr ⟨fst_ne (by decide), (List.forall_mem_cons.mpr ⟨fst_ne (by decide), (List.forall_mem_cons.mpr ⟨fst_ne (by decide), (List.forall_mem_cons.mpr ⟨fst_ne (by decide), (List.forall_mem_cons.mpr ⟨fst_ne (by decide), (List.forall_mem_cons.mpr ⟨fst_ne (by decide), (List.forall_mem_cons.mpr ⟨fst_ne (by decide), (List.forall_mem_cons.mpr ⟨fst_ne (by decide), (List.forall_mem_cons.mpr ⟨fst_ne (by decide), (List.forall_mem_cons.mpr ⟨fst_ne (by decide), (List.forall_mem_cons.mpr ⟨fst_ne (by decide), (List.forall_mem_cons.mpr ⟨fst_ne (by decide), (List.forall_mem_cons.mpr ⟨fst_ne (by decide), (List.forall_mem_cons.mpr ⟨fst_ne (by decide), (fun _ h => absurd h List.not_mem_nil)⟩)⟩)⟩)⟩)⟩)⟩)⟩)⟩)⟩)⟩)⟩)⟩)⟩)⟩)⟩)⟩)⟩) rfl e18
  refine h_al_g C dX9_init_197 rfl rfl rfv_r ?_
  refine h_iconst (v := 3) C dX9_init_198 (by decide) ?_
  refine h_iconst (v := 3) C dX9_init_199 (by decide) ?_
  refine h_iconst (v := 3) C dX9_init_200 (by decide) ?_
  refine h_bipush (v := 40) C dX9_init_201 (by decide) ?_
  refine h_mul (b := 22) (nc := 40) (ns := 1119) (ds := [(3 : Int32), (3 : Int32), (3 : Int32), (40 : Int32)]) (st := [.ref x]) (ok := okN 22 3 (okN 21 3 (okN 20 3 (okL 12)))) (tr := trN 3 (trN 3 (trN 3 (trL 40)))) C kl_X9_75 (fun s hK => nm_22 hK) dX9_init_203 rfl mu_33340 (κD 2 (fun a b w => KTK a b w)) okB9 (by decide) (by decide) (fun a19 n19 ha19 hlo19 hg19 ht19 => ?_)
  refine pf_X9_77 (some _) C dX9_init_207 (hI.kg hg19) MT rfl ?_
  refine h_abs (fun m19 e19 => ?_)
  have hI := hI.tree (j := 19) h0 ha19 hlo19 hg19 (trN_st _ (trN_st _ (trN_st _ (trL_st _)))) ht19 (List.forall_mem_cons.mpr ⟨fst_ne (by decide), (List.forall_mem_cons.mpr ⟨fst_ne (by decide), (List.forall_mem_cons.mpr ⟨fst_ne (by decide), (List.forall_mem_cons.mpr ⟨fst_ne (by decide), (List.forall_mem_cons.mpr ⟨fst_ne (by decide), (List.forall_mem_cons.mpr ⟨fst_ne (by decide), (List.forall_mem_cons.mpr ⟨fst_ne (by decide), (List.forall_mem_cons.mpr ⟨fst_ne (by decide), (List.forall_mem_cons.mpr ⟨fst_ne (by decide), (List.forall_mem_cons.mpr ⟨fst_ne (by decide), (List.forall_mem_cons.mpr ⟨fst_ne (by decide), (List.forall_mem_cons.mpr ⟨fst_ne (by decide), (List.forall_mem_cons.mpr ⟨fst_ne (by decide), (List.forall_mem_cons.mpr ⟨fst_ne (by decide), (List.forall_mem_cons.mpr ⟨fst_ne (by decide), (List.forall_mem_cons.mpr ⟨fst_ne (by decide), (List.forall_mem_cons.mpr ⟨fst_ne (by decide), (List.forall_mem_cons.mpr ⟨fst_ne (by decide), (fun _ h => absurd h List.not_mem_nil)⟩)⟩)⟩)⟩)⟩)⟩)⟩)⟩)⟩)⟩)⟩)⟩)⟩)⟩)⟩)⟩)⟩)⟩) rfl e19
  refine h_al_g C dX9_init_210 rfl rfl rfv_r ?_
  refine h_bipush (v := 60) C dX9_init_211 (by decide) ?_
  refine h_bipush (v := 16) C dX9_init_213 (by decide) ?_
  refine h_mul (b := 17) (nc := 61) (ns := 1020) (ds := [(60 : Int32), (16 : Int32)]) (st := [.ref x]) (ok := okN 17 60 (okL 11)) (tr := trN 60 (trL 16)) C kl_X9_35 (fun s hK => nm_17 hK) dX9_init_215 rfl mu_6016 (κ2 (KM 20)) (ok2 60 (KM 20) (by decide) (isMk_KM (by decide))) (by decide) (by decide) (fun a20 n20 ha20 hlo20 hg20 ht20 => ?_)
  refine pf_X9_80 (some _) C dX9_init_219 (hI.kg hg20) rfl ?_
  refine h_abs (fun m20 e20 => ?_)
  have hI := hI.tree (j := 20) h0 ha20 hlo20 hg20 (trN_st _ (trL_st _)) ht20 (List.forall_mem_cons.mpr ⟨fst_ne (by decide), (List.forall_mem_cons.mpr ⟨fst_ne (by decide), (List.forall_mem_cons.mpr ⟨fst_ne (by decide), (List.forall_mem_cons.mpr ⟨fst_ne (by decide), (List.forall_mem_cons.mpr ⟨fst_ne (by decide), (List.forall_mem_cons.mpr ⟨fst_ne (by decide), (List.forall_mem_cons.mpr ⟨fst_ne (by decide), (List.forall_mem_cons.mpr ⟨fst_ne (by decide), (List.forall_mem_cons.mpr ⟨fst_ne (by decide), (List.forall_mem_cons.mpr ⟨fst_ne (by decide), (List.forall_mem_cons.mpr ⟨fst_ne (by decide), (List.forall_mem_cons.mpr ⟨fst_ne (by decide), (List.forall_mem_cons.mpr ⟨fst_ne (by decide), (List.forall_mem_cons.mpr ⟨fst_ne (by decide), (List.forall_mem_cons.mpr ⟨fst_ne (by decide), (List.forall_mem_cons.mpr ⟨fst_ne (by decide), (List.forall_mem_cons.mpr ⟨fst_ne (by decide), (List.forall_mem_cons.mpr ⟨fst_ne (by decide), (List.forall_mem_cons.mpr ⟨fst_ne (by decide), (fun _ h => absurd h List.not_mem_nil)⟩)⟩)⟩)⟩)⟩)⟩)⟩)⟩)⟩)⟩)⟩)⟩)⟩)⟩)⟩)⟩)⟩)⟩)⟩) rfl e20
  refine h_al_g C dX9_init_222 rfl rfl rfv_r ?_
  refine h_iconst (v := 0) C dX9_init_223 (by decide) ?_
  refine h_iconst (v := 5) C dX9_init_224 (by decide) ?_
  refine h_mul (b := 17) (nc := 1) (ns := 0) (ds := [(0 : Int32), (5 : Int32)]) (st := [.ref x]) (ok := okN 17 0 (okL 11)) (tr := trN 0 (trL 5)) C kl_X9_35 (fun s hK => nm_17 hK) dX9_init_225 rfl mu_05 (κ2 KOA) (ok2 0 KOA (by decide) ⟨by decide, by decide⟩) (by decide) (by decide) (fun a22 n22 ha22 hlo22 hg22 ht22 => ?_)
  refine pf_X9_83 (some _) C dX9_init_229 (hI.kg hg22) rfl ?_
  refine h_abs (fun m22 e22 => ?_)
  have hI := hI.tree (j := 22) h0 ha22 hlo22 hg22 (trN_st _ (trL_st _)) ht22 (List.forall_mem_cons.mpr ⟨fst_ne (by decide), (List.forall_mem_cons.mpr ⟨fst_ne (by decide), (List.forall_mem_cons.mpr ⟨fst_ne (by decide), (List.forall_mem_cons.mpr ⟨fst_ne (by decide), (List.forall_mem_cons.mpr ⟨fst_ne (by decide), (List.forall_mem_cons.mpr ⟨fst_ne (by decide), (List.forall_mem_cons.mpr ⟨fst_ne (by decide), (List.forall_mem_cons.mpr ⟨fst_ne (by decide), (List.forall_mem_cons.mpr ⟨fst_ne (by decide), (List.forall_mem_cons.mpr ⟨fst_ne (by decide), (List.forall_mem_cons.mpr ⟨fst_ne (by decide), (List.forall_mem_cons.mpr ⟨fst_ne (by decide), (List.forall_mem_cons.mpr ⟨fst_ne (by decide), (List.forall_mem_cons.mpr ⟨fst_ne (by decide), (List.forall_mem_cons.mpr ⟨fst_ne (by decide), (List.forall_mem_cons.mpr ⟨fst_ne (by decide), (List.forall_mem_cons.mpr ⟨fst_ne (by decide), (List.forall_mem_cons.mpr ⟨fst_ne (by decide), (List.forall_mem_cons.mpr ⟨fst_ne (by decide), (List.forall_mem_cons.mpr ⟨fst_ne (by decide), (fun _ h => absurd h List.not_mem_nil)⟩)⟩)⟩)⟩)⟩)⟩)⟩)⟩)⟩)⟩)⟩)⟩)⟩)⟩)⟩)⟩)⟩)⟩)⟩)⟩) rfl e22
  have hI : Ini x μ (ITS x) m22 := hI
  have hT : MTo (QOf x m22) WAll μ (SI 0) (LXo (SI 0) 0) m22 := ⟨hI.mrq, FrS_GX hI.2.1 (by rw [hx]; exact isMk_KM (by decide)) (by rw [hI.1.1]; exact isMk_KM (by decide)), fun q _ h => absurd trivial h⟩
  exact lp_X9_init C E (by decide) (by decide) hT (fun m h => ⟨rfl, _, rfl, h⟩)

end
