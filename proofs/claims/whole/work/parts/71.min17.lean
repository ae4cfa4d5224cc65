section
theorem mu_33 (p : Program) (l : Launch) (e : Env) (R : Room) (s : State) (m : MethodId) (args : Array Value) (below : List Frame) (meth : Method) (c : Code) (G : Gx) (A : Nat → Prop) (VM : Vm) (hK : KX G s) (hal : s.vm.Alike VM) (h1 : e.platform.arrayLengthLimit = 2147483645) (h2 : e.platform.maxHeapBytes = 536870912) : ∃ f, MKP p l e R s m args below meth c G A VM (G.2.1 17) [(3 : Int32), (3 : Int32)] f 4 12 (okN 17 3 (okL 11)) (trN 3 (trL 3)) := by
    obtain ⟨k1, comp, c1, c2⟩ := Lk1.moved (b := 11) hal (arK1 hK (by decide))
    obtain ⟨k5, d5, e5⟩ := Lk2.moved (b := 17) (b' := 11) hal (arK2 hK (i := 6) (j := 0) (t := .int) rfl rfl (fun h => h) (by decide))
    exact ⟨_, mkp_node (mkp_leaf (by decide) c1 c2 (n := 3) (by decide) (by rw [h1]; decide) (by rw [h2]; decide) rfl rfl) (b := 17) (n := 3) (by decide) d5 e5 rfl (by decide) (by rw [h1]; decide) (by rw [h2]; decide) (by decide)⟩
theorem mu_383 (p : Program) (l : Launch) (e : Env) (R : Room) (s : State) (m : MethodId) (args : Array Value) (below : List Frame) (meth : Method) (c : Code) (G : Gx) (A : Nat → Prop) (VM : Vm) (hK : KX G s) (hal : s.vm.Alike VM) (h1 : e.platform.arrayLengthLimit = 2147483645) (h2 : e.platform.maxHeapBytes = 536870912) : ∃ f, MKP p l e R s m args below meth c G A VM (G.2.1 18) [(3 : Int32), (8 : Int32), (3 : Int32)] f 28 99 (okN 18 3 (okN 17 8 (okL 11))) (trN 3 (trN 8 (trL 3))) := by
    obtain ⟨k1, comp, c1, c2⟩ := Lk1.moved (b := 11) hal (arK1 hK (by decide))
    obtain ⟨k6, d6, e6⟩ := Lk2.moved (b := 17) (b' := 11) hal (arK2 hK (i := 6) (j := 0) (t := .int) rfl rfl (fun h => h) (by decide))
    obtain ⟨k5, d5, e5⟩ := Lk2.moved (b := 18) (b' := 17) hal (arK2 hK (i := 7) (j := 6) (t := .array .int) rfl rfl (fun h => h) (by decide))
    exact ⟨_, mkp_node (mkp_node (mkp_leaf (by decide) c1 c2 (n := 3) (by decide) (by rw [h1]; decide) (by rw [h2]; decide) rfl rfl) (b := 17) (n := 8) (by decide) d6 e6 rfl (by decide) (by rw [h1]; decide) (by rw [h2]; decide) (by decide)) (b := 18) (n := 3) (by decide) d5 e5 rfl (by decide) (by rw [h1]; decide) (by rw [h2]; decide) (by decide)⟩
theorem mu_3343 (p : Program) (l : Launch) (e : Env) (R : Room) (s : State) (m : MethodId) (args : Array Value) (below : List Frame) (meth : Method) (c : Code) (G : Gx) (A : Nat → Prop) (VM : Vm) (hK : KX G s) (hal : s.vm.Alike VM) (h1 : e.platform.arrayLengthLimit = 2147483645) (h2 : e.platform.maxHeapBytes = 536870912) : ∃ f, MKP p l e R s m args below meth c G A VM (G.2.1 19) [(3 : Int32), (3 : Int32), (4 : Int32), (3 : Int32)] f 49 156 (okN 19 3 (okN 18 3 (okN 17 4 (okL 11)))) (trN 3 (trN 3 (trN 4 (trL 3)))) := by
    obtain ⟨k1, comp, c1, c2⟩ := Lk1.moved (b := 11) hal (arK1 hK (by decide))
    obtain ⟨k7, d7, e7⟩ := Lk2.moved (b := 17) (b' := 11) hal (arK2 hK (i := 6) (j := 0) (t := .int) rfl rfl (fun h => h) (by decide))
    obtain ⟨k6, d6, e6⟩ := Lk2.moved (b := 18) (b' := 17) hal (arK2 hK (i := 7) (j := 6) (t := .array .int) rfl rfl (fun h => h) (by decide))
    obtain ⟨k5, d5, e5⟩ := Lk2.moved (b := 19) (b' := 18) hal (arK2 hK (i := 8) (j := 7) (t := .array (.array .int)) rfl rfl (fun h => h) (by decide))
    exact ⟨_, mkp_node (mkp_node (mkp_node (mkp_leaf (by decide) c1 c2 (n := 3) (by decide) (by rw [h1]; decide) (by rw [h2]; decide) rfl rfl) (b := 17) (n := 4) (by decide) d7 e7 rfl (by decide) (by rw [h1]; decide) (by rw [h2]; decide) (by decide)) (b := 18) (n := 3) (by decide) d6 e6 rfl (by decide) (by rw [h1]; decide) (by rw [h2]; decide) (by decide)) (b := 19) (n := 3) (by decide) d5 e5 rfl (by decide) (by rw [h1]; decide) (by rw [h2]; decide) (by decide)⟩
theorem mu_3339 (p : Program) (l : Launch) (e : Env) (R : Room) (s : State) (m : MethodId) (args : Array Value) (below : List Frame) (meth : Method) (c : Code) (G : Gx) (A : Nat → Prop) (VM : Vm) (hK : KX G s) (hal : s.vm.Alike VM) (h1 : e.platform.arrayLengthLimit = 2147483645) (h2 : e.platform.maxHeapBytes = 536870912) : ∃ f, MKP p l e R s m args below meth c G A VM (G.2.1 19) [(3 : Int32), (3 : Int32), (3 : Int32), (9 : Int32)] f 40 282 (okN 19 3 (okN 18 3 (okN 17 3 (okL 11)))) (trN 3 (trN 3 (trN 3 (trL 9)))) := by
    obtain ⟨k1, comp, c1, c2⟩ := Lk1.moved (b := 11) hal (arK1 hK (by decide))
    obtain ⟨k7, d7, e7⟩ := Lk2.moved (b := 17) (b' := 11) hal (arK2 hK (i := 6) (j := 0) (t := .int) rfl rfl (fun h => h) (by decide))
    obtain ⟨k6, d6, e6⟩ := Lk2.moved (b := 18) (b' := 17) hal (arK2 hK (i := 7) (j := 6) (t := .array .int) rfl rfl (fun h => h) (by decide))
    obtain ⟨k5, d5, e5⟩ := Lk2.moved (b := 19) (b' := 18) hal (arK2 hK (i := 8) (j := 7) (t := .array (.array .int)) rfl rfl (fun h => h) (by decide))
    exact ⟨_, mkp_node (mkp_node (mkp_node (mkp_leaf (by decide) c1 c2 (n := 9) (by decide) (by rw [h1]; decide) (by rw [h2]; decide) rfl rfl) (b := 17) (n := 3) (by decide) d7 e7 rfl (by decide) (by rw [h1]; decide) (by rw [h2]; decide) (by decide)) (b := 18) (n := 3) (by decide) d6 e6 rfl (by decide) (by rw [h1]; decide) (by rw [h2]; decide) (by decide)) (b := 19) (n := 3) (by decide) d5 e5 rfl (by decide) (by rw [h1]; decide) (by rw [h2]; decide) (by decide)⟩
theorem mu_33340 (p : Program) (l : Launch) (e : Env) (R : Room) (s : State) (m : MethodId) (args : Array Value) (below : List Frame) (meth : Method) (c : Code) (G : Gx) (A : Nat → Prop) (VM : Vm) (hK : KX G s) (hal : s.vm.Alike VM) (h1 : e.platform.arrayLengthLimit = 2147483645) (h2 : e.platform.maxHeapBytes = 536870912) : ∃ f, MKP p l e R s m args below meth c G A VM (G.2.1 22) [(3 : Int32), (3 : Int32), (3 : Int32), (40 : Int32)] f 40 1119 (okN 22 3 (okN 21 3 (okN 20 3 (okL 12)))) (trN 3 (trN 3 (trN 3 (trL 40)))) := by
    obtain ⟨k1, comp, c1, c2⟩ := Lk1.moved (b := 12) hal (arK1 hK (by decide))
    obtain ⟨k7, d7, e7⟩ := Lk2.moved (b := 20) (b' := 12) hal (arK2 hK (i := 9) (j := 1) (t := .boolean) rfl rfl (fun h => h) (by decide))
    obtain ⟨k6, d6, e6⟩ := Lk2.moved (b := 21) (b' := 20) hal (arK2 hK (i := 10) (j := 9) (t := .array .boolean) rfl rfl (fun h => h) (by decide))
    obtain ⟨k5, d5, e5⟩ := Lk2.moved (b := 22) (b' := 21) hal (arK2 hK (i := 11) (j := 10) (t := .array (.array .boolean)) rfl rfl (fun h => h) (by decide))
    exact ⟨_, mkp_node (mkp_node (mkp_node (mkp_leaf (by decide) c1 c2 (n := 40) (by decide) (by rw [h1]; decide) (by rw [h2]; decide) rfl rfl) (b := 20) (n := 3) (by decide) d7 e7 rfl (by decide) (by rw [h1]; decide) (by rw [h2]; decide) (by decide)) (b := 21) (n := 3) (by decide) d6 e6 rfl (by decide) (by rw [h1]; decide) (by rw [h2]; decide) (by decide)) (b := 22) (n := 3) (by decide) d5 e5 rfl (by decide) (by rw [h1]; decide) (by rw [h2]; decide) (by decide)⟩
theorem mu_6016 (p : Program) (l : Launch) (e : Env) (R : Room) (s : State) (m : MethodId) (args : Array Value) (below : List Frame) (meth : Method) (c : Code) (G : Gx) (A : Nat → Prop) (VM : Vm) (hK : KX G s) (hal : s.vm.Alike VM) (h1 : e.platform.arrayLengthLimit = 2147483645) (h2 : e.platform.maxHeapBytes = 536870912) : ∃ f, MKP p l e R s m args below meth c G A VM (G.2.1 17) [(60 : Int32), (16 : Int32)] f 61 1020 (okN 17 60 (okL 11)) (trN 60 (trL 16)) := by
    obtain ⟨k1, comp, c1, c2⟩ := Lk1.moved (b := 11) hal (arK1 hK (by decide))
    obtain ⟨k5, d5, e5⟩ := Lk2.moved (b := 17) (b' := 11) hal (arK2 hK (i := 6) (j := 0) (t := .int) rfl rfl (fun h => h) (by decide))
    exact ⟨_, mkp_node (mkp_leaf (by decide) c1 c2 (n := 16) (by decide) (by rw [h1]; decide) (by rw [h2]; decide) rfl rfl) (b := 17) (n := 60) (by decide) d5 e5 rfl (by decide) (by rw [h1]; decide) (by rw [h2]; decide) (by decide)⟩
theorem mu_05 (p : Program) (l : Launch) (e : Env) (R : Room) (s : State) (m : MethodId) (args : Array Value) (below : List Frame) (meth : Method) (c : Code) (G : Gx) (A : Nat → Prop) (VM : Vm) (hK : KX G s) (hal : s.vm.Alike VM) (h1 : e.platform.arrayLengthLimit = 2147483645) (h2 : e.platform.maxHeapBytes = 536870912) : ∃ f, MKP p l e R s m args below meth c G A VM (G.2.1 17) [(0 : Int32), (5 : Int32)] f 1 0 (okN 17 0 (okL 11)) (trN 0 (trL 5)) := by
    obtain ⟨k1, comp, c1, c2⟩ := Lk1.moved (b := 11) hal (arK1 hK (by decide))
    obtain ⟨k5, d5, e5⟩ := Lk2.moved (b := 17) (b' := 11) hal (arK2 hK (i := 6) (j := 0) (t := .int) rfl rfl (fun h => h) (by decide))
    exact ⟨_, mkp_node (mkp_leaf (by decide) c1 c2 (n := 5) (by decide) (by rw [h1]; decide) (by rw [h2]; decide) rfl rfl) (b := 17) (n := 0) (by decide) d5 e5 rfl (by decide) (by rw [h1]; decide) (by rw [h2]; decide) (by decide)⟩
def IB (x : Nat) (μ : Mem) : Prop := μ.kd x = KM 0 ∧ μ.fi 288 x = 0 ∧ μ.fi 289 x = 1 ∧ μ.fi 291 x = 0 ∧ μ.fi 312 x = 0 ∧ μ.fi 290 x = 0
/-- all but x stays; what is new is the model's -/
def GX (x : Nat) (μ μ' : Mem) : Prop := (∀ z, z ≠ x → μ.kd z ≠ 0 → SameAt μ μ' z) ∧ ∀ z, μ.kd z = 0 → μ'.kd z = 0 ∨ isMk (μ'.kd z)
def stX (x : Nat) (P : Nat → Mem → Prop) : Prop := ∀ a μ μ', μ.kd x = KM 0 → P a μ → (∀ z, z ≠ x → μ.kd z ≠ 0 → SameAt μ μ' z) → P a μ'
def Ini (x : Nat) (μ0 : Mem) (is : List (Nat × (Nat → Mem → Prop))) (μ : Mem) : Prop := IB x μ ∧ GX x μ0 μ ∧ ∀ it ∈ is, stX x it.2 ∧ ∃ a, μ.fr (291 + it.1) x = some a ∧ it.2 a μ
def plP (K n : Nat) (v : Nat → Int32) : Nat → Mem → Prop := fun a μ => μ.kd a = K ∧ μ.ln a = n ∧ ∀ i, i < n → μ.ei a i = v i
def trP (x : Nat) (t : TrT) (κ : Kap) : Nat → Mem → Prop := fun a μ => ∃ lo, x < lo ∧ t lo κ a μ
theorem plP_st {x K n : Nat} {v : Nat → Int32} (hK : K ≠ KM 0) (hK0 : K ≠ 0) : stX x (plP K n v) := fun a μ μ' hx h hs => by
  obtain ⟨h1, h2, h3⟩ := h
  obtain ⟨s1, -, -, -, s5, s6, -, -⟩ := hs a (fun e => hK (by rw [← h1, e, hx])) (by rw [h1]; exact hK0)
  exact ⟨by rw [s1]; exact h1, by rw [s5]; exact h2, fun i hi => by rw [s6]; exact h3 i hi⟩
theorem trP_st {x : Nat} {t : TrT} {κ : Kap} (ht : trSt t) : stX x (trP x t κ) := fun a μ μ' hx h hs => by
  obtain ⟨lo, h1, h2⟩ := h
  exact ⟨lo, h1, ht _ _ _ _ _ _ h2 (Nat.le_refl _) (fun z hz hk => hs z (by omega) hk)⟩
theorem GX.tr {x : Nat} {μ1 μ2 μ3 : Mem} (h : GX x μ1 μ2) (g : GX x μ2 μ3) (hx : μ1.kd x ≠ 0) : GX x μ1 μ3 := by
  refine ⟨fun z hne hz => ?_, fun z hz => ?_⟩
  · have s := h.1 z hne hz
    exact s.tr9 (g.1 z hne (by rw [s.1]; exact hz))
  · by_cases c : μ2.kd z = 0
    · exact g.2 z c
    · rcases h.2 z hz with h9 | h9
      · exact absurd h9 c
      · exact Or.inr (by rw [(g.1 z (fun e => hx (by rw [← e]; exact hz)) c).1]; exact h9)
theorem Ini.step {x : Nat} {μ0 μ m : Mem} {is : List (Nat × (Nat → Mem → Prop))} (h : Ini x μ0 is μ) (h0 : μ0.kd x ≠ 0) (hg : GX x μ m) (hkx : m.kd x = μ.kd x) (hfi : ∀ f, m.fi f x = μ.fi f x) (hfr : ∀ it ∈ is, m.fr (291 + it.1) x = μ.fr (291 + it.1) x) : Ini x μ0 is m := by
  obtain ⟨⟨b1, b2, b3, b4, b5, b6⟩, g1, h3⟩ := h
  refine ⟨⟨by rw [hkx]; exact b1, by rw [hfi]; exact b2, by rw [hfi]; exact b3, by rw [hfi]; exact b4, by rw [hfi]; exact b5, by rw [hfi]; exact b6⟩, g1.tr hg h0, fun it hi => ?_⟩
  obtain ⟨s1, a, a1, a2⟩ := h3 it hi
  exact ⟨s1, a, by rw [hfr it hi]; exact a1, s1 a μ m b1 a2 hg.1⟩
theorem Ini.add {x j : Nat} {μ0 m : Mem} {is : List (Nat × (Nat → Mem → Prop))} {P : Nat → Mem → Prop} {a : Nat} (h : Ini x μ0 is m) (hs : stX x P) (h1 : m.fr (291 + j) x = some a) (h2 : P a m) : Ini x μ0 ((j, P) :: is) m := ⟨h.1, h.2.1, fun it hi => by
  rcases List.mem_cons.mp hi with e | hi
  · subst e
    exact ⟨hs, a, h1, h2⟩
  · exact h.2.2 it hi⟩
theorem sfr_fr {μ : Mem} {F f x : Nat} {v : Option Nat} (h : f ≠ F) : (μ.sfr F x v).fr f x = μ.fr f x := by
  show u2 μ.fr F x v f x = _
  unfold u2
  rw [if_neg h]
theorem sfr_eq {μ : Mem} {F x : Nat} {v : Option Nat} : (μ.sfr F x v).fr F x = v := by
  show u2 μ.fr F x v F x = _
  exact u2_eq
theorem Ini.arr {x q K n j F : Nat} {μ0 μ μ1 m : Mem} {is : List (Nat × (Nat → Mem → Prop))} {v : Nat → Int32} (h : Ini x μ0 is μ) (h0 : μ0.kd x ≠ 0) (hq : μ.kd q = 0) (hK : isMk K) (hK0 : K ≠ KM 0) (hj : ∀ it ∈ is, it.1 ≠ j) (hs : ∀ z, z ≠ q → SameAt μ μ1 z) (k1 : μ1.kd q = K) (k2 : μ1.ln q = n) (k3 : ∀ i, i < n → μ1.ei q i = v i) (hF : F = 291 + j) (e : m = μ1.sfr F x (some q)) : Ini x μ0 ((j, plP K n v) :: is) m := by
  subst hF e
  have hx0 : μ.kd x = KM 0 := h.1.1
  have hqx : x ≠ q := fun e => KM_nz 0 (by rw [← hx0, e, hq])
  have sx := hs x hqx
  have h1 : Ini x μ0 is (μ1.sfr (291 + j) x (some q)) := h.step h0 ⟨fun z hz hk => (hs z (fun e => hk (by rw [e, hq]))).tr9 (same_sfr hz), fun z hz => by
    by_cases c : z = q
    · subst c
      exact Or.inr (by show isMk (μ1.kd z); rw [k1]; exact hK)
    · exact Or.inl (by show μ1.kd z = 0; rw [(hs z c).1]; exact hz)⟩ sx.1 (fun f => sx.2.1 f) (fun it hi => (sfr_fr (by have := hj it hi; omega)).trans (sx.2.2.1 _))
  exact h1.add (plP_st hK0 (isMk_nz hK)) sfr_eq ⟨k1, k2, k3⟩
theorem Ini.arr0 {x q K n j F : Nat} {μ0 μ m : Mem} {is : List (Nat × (Nat → Mem → Prop))} (h : Ini x μ0 is μ) (h0 : μ0.kd x ≠ 0) (hq : μ.kd q = 0) (hK : isMk K) (hK0 : K ≠ KM 0) (hj : ∀ it ∈ is, it.1 ≠ j) (hF : F = 291 + j) (e : m = (μ.newA q K n).sfr F x (some q)) : Ini x μ0 ((j, plP K n (fun _ => 0)) :: is) m := h.arr h0 hq hK hK0 hj (fun z hz => same_newA hz) kd_newA ln_newA (fun i _ => by rw [z_ei_newA, if_pos rfl]) hF e
theorem Ini.tree {x a j F : Nat} {μ0 μ μ1 m : Mem} {is : List (Nat × (Nat → Mem → Prop))} {t : TrT} {κ : Kap} (h : Ini x μ0 is μ) (h0 : μ0.kd x ≠ 0) (ha : μ.kd a = 0) (hlo : ∀ z, μ.kd z ≠ 0 → z < a) (hg : Gr μ μ1) (hst : trSt t) (ht : t a κ a μ1) (hj : ∀ it ∈ is, it.1 ≠ j) (hF : F = 291 + j) (e : m = μ1.sfr F x (some a)) : Ini x μ0 ((j, trP x t κ) :: is) m := by
  subst hF e
  have hx0 : μ.kd x = KM 0 := h.1.1
  have hxa : x < a := hlo x (by rw [hx0]; exact KM_nz 0)
  have sx := hg.1 x (by rw [hx0]; exact KM_nz 0)
  have h1 : Ini x μ0 is (μ1.sfr (291 + j) x (some a)) := h.step h0 ⟨fun z hz hk => (hg.1 z hk).tr9 (same_sfr hz), fun z hz => hg.2 z hz⟩ sx.1 (fun f => sx.2.1 f) (fun it hi => (sfr_fr (by have := hj it hi; omega)).trans (sx.2.2.1 _))
  exact h1.add (trP_st hst) sfr_eq ⟨a, hxa, hst _ _ _ _ _ _ ht (Nat.le_refl _) (fun z hz hk => same_sfr (by omega))⟩
def κ6 : Kap := fun p => match p with
  | [] => KM 6
  | [e] => KM (51 + e)
  | _ => KTMP
def κT (t : Nat) : Kap := fun p => match p with
  | [] => KM (7 + t)
  | [a] => KM (21 + 3 * t + a)
  | _ => KTMP
def κD (i : Nat) (l : Nat → Nat → Nat → Nat) : Kap := fun p => match p with
  | [] => KM (17 + i)
  | [a] => KM (54 + 3 * i + a)
  | [a, b] => KM (63 + 9 * i + 3 * a + b)
  | [a, b, w] => l a b w
  | _ => KTMP
def κ2 (k : Nat) : Kap := fun p => match p with
  | [] => k
  | _ => KTMP
theorem ok6 : okN 18 3 (okN 17 8 (okL 11)) κ6 := ⟨by decide, isMk_KM (j := 6) (by decide), fun i hi => ⟨by show KM (51 + i) % 32 = 17; exact KM_17 (by omega), isMk_KM (by omega), fun j _ => ⟨by show KTMP % 32 = 11; decide, (show isMk KTMP from ⟨by decide, by decide⟩)⟩⟩⟩
theorem okT9 (t : Nat) (ht : t < 10) : okN 17 3 (okL 11) (κT t) := ⟨by show KM (7 + t) % 32 = 17; exact KM_17 (by omega), isMk_KM (by omega), fun i hi => ⟨by show KM (21 + 3 * t + i) % 32 = 11; exact KM_11 (by omega), isMk_KM (by omega)⟩⟩
theorem ok2 (n k : Nat) (h1 : k % 32 = 17) (h2 : isMk k) : okN 17 n (okL 11) (κ2 k) := ⟨h1, h2, fun i _ => ⟨by show KTMP % 32 = 11; decide, (show isMk KTMP from ⟨by decide, by decide⟩)⟩⟩
theorem KM_18 : ∀ j, 54 ≤ j ∧ j < 60 → KM j % 32 = 18 := fun j h => by
  have h9 : j = 54 ∨ j = 55 ∨ j = 56 ∨ j = 57 ∨ j = 58 ∨ j = 59 := by omega
  rcases h9 with rfl | rfl | rfl | rfl | rfl | rfl <;> decide
theorem KM_21 : ∀ j, 60 ≤ j ∧ j < 63 → KM j % 32 = 21 := fun j h => by
  have h9 : j = 60 ∨ j = 61 ∨ j = 62 := by omega
  rcases h9 with rfl | rfl | rfl <;> decide
theorem okP : okN 19 3 (okN 18 3 (okN 17 4 (okL 11))) (κD 0 (fun _ _ _ => KTMP)) := ⟨by decide, isMk_KM (j := 17) (by decide), fun a ha => ⟨KM_18 _ (by omega), isMk_KM (by omega), fun b hb => ⟨KM_17 (by omega), isMk_KM (by omega), fun w _ => ⟨by show KTMP % 32 = 11; decide, (show isMk KTMP from ⟨by decide, by decide⟩)⟩⟩⟩⟩
theorem okS9 : okN 19 3 (okN 18 3 (okN 17 3 (okL 11))) (κD 1 (fun a b w => KSE a b w)) := ⟨by decide, isMk_KM (j := 18) (by decide), fun a ha => ⟨KM_18 _ (by omega), isMk_KM (by omega), fun b hb => ⟨KM_17 (by omega), isMk_KM (by omega), fun w hw => ⟨by show KSE a b w % 32 = 11; unfold KSE; omega, by show isMk (KSE a b w); unfold isMk KSE; omega⟩⟩⟩⟩
theorem okB9 : okN 22 3 (okN 21 3 (okN 20 3 (okL 12))) (κD 2 (fun a b w => KTK a b w)) := ⟨by decide, isMk_KM (j := 19) (by decide), fun a ha => ⟨KM_21 _ (by omega), isMk_KM (by omega), fun b hb => ⟨KM_20 (by omega), isMk_KM (by omega), fun w hw => ⟨by show KTK a b w % 32 = 12; unfold KTK; omega, by show isMk (KTK a b w); unfold isMk KTK; omega⟩⟩⟩⟩
def ITS (x : Nat) : List (Nat × (Nat → Mem → Prop)) := [(22, trP x (trN 0 (trL 5)) (κ2 KOA)), (20, trP x (trN 60 (trL 16)) (κ2 (KM 20))), (19, trP x (trN 3 (trN 3 (trN 3 (trL 40)))) (κD 2 (fun a b w => KTK a b w))), (18, trP x (trN 3 (trN 3 (trN 3 (trL 9)))) (κD 1 (fun a b w => KSE a b w))), (17, trP x (trN 3 (trN 3 (trN 4 (trL 3)))) (κD 0 (fun _ _ _ => KTMP))), (16, trP x (trN 3 (trL 3)) (κT 9)), (15, trP x (trN 3 (trL 3)) (κT 8)), (14, trP x (trN 3 (trL 3)) (κT 7)), (13, trP x (trN 3 (trL 3)) (κT 6)), (12, trP x (trN 3 (trL 3)) (κT 5)), (11, trP x (trN 3 (trL 3)) (κT 4)), (10, trP x (trN 3 (trL 3)) (κT 3)), (9, trP x (trN 3 (trL 3)) (κT 2)), (8, trP x (trN 3 (trL 3)) (κT 1)), (7, trP x (trN 3 (trL 3)) (κT 0)), (6, trP x (trN 3 (trN 8 (trL 3))) κ6), (5, plP (KM 5) 3 (fun _ => 0)), (4, plP (KM 4) 11 (fun _ => 0)), (3, plP (KM 3) 3 (fun _ => 0)), (2, plP (KM 2) 3 (fun _ => 0)), (1, plP (KM 1) 3 (fun i => nI (10 + 10 * i)))]
abbrev dn (n a b : Nat) : Prop := a < 3 ∧ b < 3 ∧ 3 * a + b < n
def SI (n : Nat) : Sx := (fun _ => 0, fun f e => if f = 0 then nI (10 + 10 * e) else 0, fun f a b => if f = 0 then (if dn n a b then nI (10 + 10 * b) else 0) else if f = 3 then (if dn n a b then -1 else 0) else 0, fun _ => 0, fun a b => if dn n a b then none else some (fun _ => 0), fun _ _ _ => none, fun _ _ => [], fun _ => [], [], [])
def QOf (x : Nat) (μ : Mem) (j : Nat) : Nat := if j = 0 then x else if j < 21 then (μ.fr (291 + j) x).getD 0 else if j < 51 then (μ.er ((μ.fr (298 + (j - 21) / 3) x).getD 0) ((j - 21) % 3)).getD 0 else if j < 54 then (μ.er ((μ.fr 297 x).getD 0) (j - 51)).getD 0 else if j < 63 then (μ.er ((μ.fr (308 + (j - 54) / 3) x).getD 0) ((j - 54) % 3)).getD 0 else (μ.er ((μ.er ((μ.fr (308 + (j - 63) / 9) x).getD 0) ((j - 63) % 9 / 3)).getD 0) ((j - 63) % 3)).getD 0
theorem QOf_A {x j a : Nat} {μ : Mem} (h : 1 ≤ j ∧ j < 21) (hf : μ.fr (291 + j) x = some a) : QOf x μ j = a := by
  unfold QOf
  rw [if_neg (by omega), if_pos (by omega), hf]
  rfl
theorem QOf_T {x t a p q : Nat} {μ : Mem} (ht : t < 10) (ha : a < 3) (hf : μ.fr (298 + t) x = some p) (he : μ.er p a = some q) : QOf x μ (21 + 3 * t + a) = q := by
  unfold QOf
  rw [if_neg (by omega), if_neg (by omega), if_pos (by omega), show (21 + 3 * t + a - 21) / 3 = t by omega, show (21 + 3 * t + a - 21) % 3 = a by omega, hf]
  show (μ.er p a).getD 0 = q
  rw [he]
  rfl
theorem QOf_R {x e p q : Nat} {μ : Mem} (ht : e < 3) (hf : μ.fr 297 x = some p) (he : μ.er p e = some q) : QOf x μ (51 + e) = q := by
  unfold QOf
  rw [if_neg (by omega), if_neg (by omega), if_neg (by omega), if_pos (by omega), show 51 + e - 51 = e by omega, hf]
  show (μ.er p e).getD 0 = q
  rw [he]
  rfl
theorem QOf_D {x i a p q : Nat} {μ : Mem} (hi : i < 3) (ha : a < 3) (hf : μ.fr (308 + i) x = some p) (he : μ.er p a = some q) : QOf x μ (54 + 3 * i + a) = q := by
  unfold QOf
  rw [if_neg (by omega), if_neg (by omega), if_neg (by omega), if_neg (by omega), if_pos (by omega), show (54 + 3 * i + a - 54) / 3 = i by omega, show (54 + 3 * i + a - 54) % 3 = a by omega, hf]
  show (μ.er p a).getD 0 = q
  rw [he]
  rfl
theorem QOf_E {x i a b p q r : Nat} {μ : Mem} (hi : i < 3) (ha : a < 3) (hb : b < 3) (hf : μ.fr (308 + i) x = some p) (he : μ.er p a = some q) (hg : μ.er q b = some r) : QOf x μ (63 + 9 * i + 3 * a + b) = r := by
  unfold QOf
  rw [if_neg (by omega), if_neg (by omega), if_neg (by omega), if_neg (by omega), if_neg (by omega), show (63 + 9 * i + 3 * a + b - 63) / 9 = i by omega, show (63 + 9 * i + 3 * a + b - 63) % 9 / 3 = a by omega, show (63 + 9 * i + 3 * a + b - 63) % 3 = b by omega, hf]
  show (μ.er ((μ.er p a).getD 0) b).getD 0 = r
  rw [he]
  show (μ.er q b).getD 0 = r
  rw [hg]
  rfl
theorem Ini.A {x : Nat} {μ0 μ : Mem} (h : Ini x μ0 (ITS x) μ) : ∀ j, 1 ≤ j → j < 21 → ∃ a, μ.fr (291 + j) x = some a ∧ μ.kd a = KM j ∧ μ.ln a = LN j := fun j h1 h2 => by
  have h9 : j = 1 ∨ j = 2 ∨ j = 3 ∨ j = 4 ∨ j = 5 ∨ j = 6 ∨ j = 7 ∨ j = 8 ∨ j = 9 ∨ j = 10 ∨ j = 11 ∨ j = 12 ∨ j = 13 ∨ j = 14 ∨ j = 15 ∨ j = 16 ∨ j = 17 ∨ j = 18 ∨ j = 19 ∨ j = 20 := by omega
  rcases h9 with rfl | rfl | rfl | rfl | rfl | rfl | rfl | rfl | rfl | rfl | rfl | rfl | rfl | rfl | rfl | rfl | rfl | rfl | rfl | rfl
  · obtain ⟨-, a, f, k1, k2, -⟩ := h.2.2 _ (List.mem_of_getElem? (i := 20) rfl)
    exact ⟨a, f, k1, k2⟩
  · obtain ⟨-, a, f, k1, k2, -⟩ := h.2.2 _ (List.mem_of_getElem? (i := 19) rfl)
    exact ⟨a, f, k1, k2⟩
  · obtain ⟨-, a, f, k1, k2, -⟩ := h.2.2 _ (List.mem_of_getElem? (i := 18) rfl)
    exact ⟨a, f, k1, k2⟩
  · obtain ⟨-, a, f, k1, k2, -⟩ := h.2.2 _ (List.mem_of_getElem? (i := 17) rfl)
    exact ⟨a, f, k1, k2⟩
  · obtain ⟨-, a, f, k1, k2, -⟩ := h.2.2 _ (List.mem_of_getElem? (i := 16) rfl)
    exact ⟨a, f, k1, k2⟩
  · obtain ⟨-, a, f, lo, -, -, k1, -, k2, -⟩ := h.2.2 _ (List.mem_of_getElem? (i := 15) rfl)
    exact ⟨a, f, k1, k2⟩
  · obtain ⟨-, a, f, lo, -, -, k1, -, k2, -⟩ := h.2.2 _ (List.mem_of_getElem? (i := 14) rfl)
    exact ⟨a, f, k1, k2⟩
  · obtain ⟨-, a, f, lo, -, -, k1, -, k2, -⟩ := h.2.2 _ (List.mem_of_getElem? (i := 13) rfl)
    exact ⟨a, f, k1, k2⟩
  · obtain ⟨-, a, f, lo, -, -, k1, -, k2, -⟩ := h.2.2 _ (List.mem_of_getElem? (i := 12) rfl)
    exact ⟨a, f, k1, k2⟩
  · obtain ⟨-, a, f, lo, -, -, k1, -, k2, -⟩ := h.2.2 _ (List.mem_of_getElem? (i := 11) rfl)
    exact ⟨a, f, k1, k2⟩
  · obtain ⟨-, a, f, lo, -, -, k1, -, k2, -⟩ := h.2.2 _ (List.mem_of_getElem? (i := 10) rfl)
    exact ⟨a, f, k1, k2⟩
  · obtain ⟨-, a, f, lo, -, -, k1, -, k2, -⟩ := h.2.2 _ (List.mem_of_getElem? (i := 9) rfl)
    exact ⟨a, f, k1, k2⟩
  · obtain ⟨-, a, f, lo, -, -, k1, -, k2, -⟩ := h.2.2 _ (List.mem_of_getElem? (i := 8) rfl)
    exact ⟨a, f, k1, k2⟩
  · obtain ⟨-, a, f, lo, -, -, k1, -, k2, -⟩ := h.2.2 _ (List.mem_of_getElem? (i := 7) rfl)
    exact ⟨a, f, k1, k2⟩
  · obtain ⟨-, a, f, lo, -, -, k1, -, k2, -⟩ := h.2.2 _ (List.mem_of_getElem? (i := 6) rfl)
    exact ⟨a, f, k1, k2⟩
  · obtain ⟨-, a, f, lo, -, -, k1, -, k2, -⟩ := h.2.2 _ (List.mem_of_getElem? (i := 5) rfl)
    exact ⟨a, f, k1, k2⟩
  · obtain ⟨-, a, f, lo, -, -, k1, -, k2, -⟩ := h.2.2 _ (List.mem_of_getElem? (i := 4) rfl)
    exact ⟨a, f, k1, k2⟩
  · obtain ⟨-, a, f, lo, -, -, k1, -, k2, -⟩ := h.2.2 _ (List.mem_of_getElem? (i := 3) rfl)
    exact ⟨a, f, k1, k2⟩
  · obtain ⟨-, a, f, lo, -, -, k1, -, k2, -⟩ := h.2.2 _ (List.mem_of_getElem? (i := 2) rfl)
    exact ⟨a, f, k1, k2⟩
  · obtain ⟨-, a, f, lo, -, -, k1, -, k2, -⟩ := h.2.2 _ (List.mem_of_getElem? (i := 1) rfl)
    exact ⟨a, f, k1, k2⟩
theorem Ini.T {x : Nat} {μ0 μ : Mem} (h : Ini x μ0 (ITS x) μ) : ∀ t, t < 10 → ∃ p, μ.fr (298 + t) x = some p ∧ ∀ a, a < 3 → ∃ q, μ.er p a = some q ∧ μ.kd q = KM (21 + 3 * t + a) ∧ μ.ln q = 3 ∧ ∀ i, μ.ei q i = 0 := fun t h2 => by
  have h9 : t = 0 ∨ t = 1 ∨ t = 2 ∨ t = 3 ∨ t = 4 ∨ t = 5 ∨ t = 6 ∨ t = 7 ∨ t = 8 ∨ t = 9 := by omega
  rcases h9 with rfl | rfl | rfl | rfl | rfl | rfl | rfl | rfl | rfl | rfl
  · obtain ⟨-, a, f, lo, -, -, -, -, -, k3⟩ := h.2.2 _ (List.mem_of_getElem? (i := 14) rfl)
    refine ⟨a, f, fun i hi => ?_⟩
    obtain ⟨q, q1, -, q2, -, q3, q4⟩ := k3 i hi
    exact ⟨q, q1, q2, q3, q4⟩
  · obtain ⟨-, a, f, lo, -, -, -, -, -, k3⟩ := h.2.2 _ (List.mem_of_getElem? (i := 13) rfl)
    refine ⟨a, f, fun i hi => ?_⟩
    obtain ⟨q, q1, -, q2, -, q3, q4⟩ := k3 i hi
    exact ⟨q, q1, q2, q3, q4⟩
  · obtain ⟨-, a, f, lo, -, -, -, -, -, k3⟩ := h.2.2 _ (List.mem_of_getElem? (i := 12) rfl)
    refine ⟨a, f, fun i hi => ?_⟩
    obtain ⟨q, q1, -, q2, -, q3, q4⟩ := k3 i hi
    exact ⟨q, q1, q2, q3, q4⟩
  · obtain ⟨-, a, f, lo, -, -, -, -, -, k3⟩ := h.2.2 _ (List.mem_of_getElem? (i := 11) rfl)
    refine ⟨a, f, fun i hi => ?_⟩
    obtain ⟨q, q1, -, q2, -, q3, q4⟩ := k3 i hi
    exact ⟨q, q1, q2, q3, q4⟩
  · obtain ⟨-, a, f, lo, -, -, -, -, -, k3⟩ := h.2.2 _ (List.mem_of_getElem? (i := 10) rfl)
    refine ⟨a, f, fun i hi => ?_⟩
    obtain ⟨q, q1, -, q2, -, q3, q4⟩ := k3 i hi
    exact ⟨q, q1, q2, q3, q4⟩
  · obtain ⟨-, a, f, lo, -, -, -, -, -, k3⟩ := h.2.2 _ (List.mem_of_getElem? (i := 9) rfl)
    refine ⟨a, f, fun i hi => ?_⟩
    obtain ⟨q, q1, -, q2, -, q3, q4⟩ := k3 i hi
    exact ⟨q, q1, q2, q3, q4⟩
  · obtain ⟨-, a, f, lo, -, -, -, -, -, k3⟩ := h.2.2 _ (List.mem_of_getElem? (i := 8) rfl)
    refine ⟨a, f, fun i hi => ?_⟩
    obtain ⟨q, q1, -, q2, -, q3, q4⟩ := k3 i hi
    exact ⟨q, q1, q2, q3, q4⟩
  · obtain ⟨-, a, f, lo, -, -, -, -, -, k3⟩ := h.2.2 _ (List.mem_of_getElem? (i := 7) rfl)
    refine ⟨a, f, fun i hi => ?_⟩
    obtain ⟨q, q1, -, q2, -, q3, q4⟩ := k3 i hi
    exact ⟨q, q1, q2, q3, q4⟩
  · obtain ⟨-, a, f, lo, -, -, -, -, -, k3⟩ := h.2.2 _ (List.mem_of_getElem? (i := 6) rfl)
    refine ⟨a, f, fun i hi => ?_⟩
    obtain ⟨q, q1, -, q2, -, q3, q4⟩ := k3 i hi
    exact ⟨q, q1, q2, q3, q4⟩
  · obtain ⟨-, a, f, lo, -, -, -, -, -, k3⟩ := h.2.2 _ (List.mem_of_getElem? (i := 5) rfl)
    refine ⟨a, f, fun i hi => ?_⟩
    obtain ⟨q, q1, -, q2, -, q3, q4⟩ := k3 i hi
    exact ⟨q, q1, q2, q3, q4⟩
theorem Ini.R {x : Nat} {μ0 μ : Mem} (h : Ini x μ0 (ITS x) μ) : ∃ p, μ.fr 297 x = some p ∧ ∀ e, e < 3 → ∃ q, μ.er p e = some q ∧ μ.kd q = KM (51 + e) ∧ μ.ln q = 8 := by
  obtain ⟨-, a, f, lo, -, -, -, -, -, k3⟩ := h.2.2 _ (List.mem_of_getElem? (i := 15) rfl)
  refine ⟨a, f, fun i hi => ?_⟩
  obtain ⟨q, q1, -, q2, -, q3, -⟩ := k3 i hi
  exact ⟨q, q1, q2, q3⟩
theorem Ini.D {x : Nat} {μ0 μ : Mem} (h : Ini x μ0 (ITS x) μ) : ∀ i, i < 3 → ∃ p, μ.fr (308 + i) x = some p ∧ ∀ a, a < 3 → ∃ q, μ.er p a = some q ∧ μ.kd q = KM (54 + 3 * i + a) ∧ μ.ln q = 3 ∧ ∀ b, b < 3 → ∃ r, μ.er q b = some r ∧ μ.kd r = KM (63 + 9 * i + 3 * a + b) ∧ μ.ln r = LN (63 + 9 * i + 3 * a + b) ∧ ∀ w, w < 3 → (i = 1 → ∃ s, μ.er r w = some s ∧ μ.kd s = KSE a b w ∧ μ.ln s = 9 ∧ ∀ c, μ.ei s c = 0) ∧ (i = 2 → ∃ s, μ.er r w = some s ∧ μ.kd s = KTK a b w ∧ μ.ln s = 40 ∧ ∀ c, μ.ei s c = 0) := fun i hi => by
  have h9 : i = 0 ∨ i = 1 ∨ i = 2 := by omega
  rcases h9 with rfl | rfl | rfl
  · obtain ⟨-, p, f, lo, -, -, -, -, -, k3⟩ := h.2.2 _ (List.mem_of_getElem? (i := 4) rfl)
    refine ⟨p, f, fun a ha => ?_⟩
    obtain ⟨q, q1, -, q2, -, q3, q4⟩ := k3 a ha
    refine ⟨q, q1, q2, q3, fun b hb => ?_⟩
    obtain ⟨r, r1, -, r2, -, r3, r4⟩ := q4 b hb
    refine ⟨r, r1, r2, r3.trans (LN_4 (by omega)).symm, fun w hw => ⟨fun e9 => ?_, fun e9 => ?_⟩⟩
    · exact absurd e9 (by decide)
    · exact absurd e9 (by decide)
  · obtain ⟨-, p, f, lo, -, -, -, -, -, k3⟩ := h.2.2 _ (List.mem_of_getElem? (i := 3) rfl)
    refine ⟨p, f, fun a ha => ?_⟩
    obtain ⟨q, q1, -, q2, -, q3, q4⟩ := k3 a ha
    refine ⟨q, q1, q2, q3, fun b hb => ?_⟩
    obtain ⟨r, r1, -, r2, -, r3, r4⟩ := q4 b hb
    refine ⟨r, r1, r2, r3.trans (LN_3 (by omega)).symm, fun w hw => ⟨fun e9 => ?_, fun e9 => ?_⟩⟩
    · obtain ⟨s, s1, -, s2, -, s3, s4⟩ := r4 w hw
      exact ⟨s, s1, s2, s3, s4⟩
    · exact absurd e9 (by decide)
  · obtain ⟨-, p, f, lo, -, -, -, -, -, k3⟩ := h.2.2 _ (List.mem_of_getElem? (i := 2) rfl)
    refine ⟨p, f, fun a ha => ?_⟩
    obtain ⟨q, q1, -, q2, -, q3, q4⟩ := k3 a ha
    refine ⟨q, q1, q2, q3, fun b hb => ?_⟩
    obtain ⟨r, r1, -, r2, -, r3, r4⟩ := q4 b hb
    refine ⟨r, r1, r2, r3.trans (LN_3 (by omega)).symm, fun w hw => ⟨fun e9 => ?_, fun e9 => ?_⟩⟩
    · exact absurd e9 (by decide)
    · obtain ⟨s, s1, -, s2, -, s3, s4⟩ := r4 w hw
      exact ⟨s, s1, s2, s3, s4⟩
theorem Ini.mrq {x : Nat} {μ0 μ : Mem} (h : Ini x μ0 (ITS x) μ) : MRq (QOf x μ) (SI 0) (LXo (SI 0) 0) μ := by
  have q0 : QOf x μ 0 = x := rfl
  obtain ⟨b1, b2, b3, b4, b5, b6⟩ := h.1
  have kA : ∀ j, 1 ≤ j → j < 21 → μ.fr (291 + j) x = some (QOf x μ j) ∧ μ.kd (QOf x μ j) = KM j ∧ μ.ln (QOf x μ j) = LN j := fun j h1 h2 => by
    obtain ⟨a, f, k1, k2⟩ := h.A j h1 h2
    rw [QOf_A ⟨h1, h2⟩ f]
    exact ⟨f, k1, k2⟩
  have kT : ∀ t a, t < 10 → a < 3 → μ.er (QOf x μ (7 + t)) a = some (QOf x μ (21 + 3 * t + a)) ∧ μ.kd (QOf x μ (21 + 3 * t + a)) = KM (21 + 3 * t + a) ∧ μ.ln (QOf x μ (21 + 3 * t + a)) = 3 ∧ ∀ i, μ.ei (QOf x μ (21 + 3 * t + a)) i = 0 := fun t a ht ha => by
    obtain ⟨p, f, g⟩ := h.T t ht
    obtain ⟨q, q1, q2, q3, q4⟩ := g a ha
    rw [QOf_T ht ha f q1, QOf_A (j := 7 + t) ⟨by omega, by omega⟩ (by rw [show 291 + (7 + t) = 298 + t by omega]; exact f)]
    exact ⟨q1, q2, q3, q4⟩
  have kR : ∀ e, e < 3 → μ.er (QOf x μ 6) e = some (QOf x μ (51 + e)) ∧ μ.kd (QOf x μ (51 + e)) = KM (51 + e) ∧ μ.ln (QOf x μ (51 + e)) = 8 := fun e he => by
    obtain ⟨p, f, g⟩ := h.R
    obtain ⟨q, q1, q2, q3⟩ := g e he
    rw [QOf_R he f q1, QOf_A (j := 6) ⟨by decide, by decide⟩ f]
    exact ⟨q1, q2, q3⟩
  have kD : ∀ i a, i < 3 → a < 3 → μ.er (QOf x μ (17 + i)) a = some (QOf x μ (54 + 3 * i + a)) ∧ μ.kd (QOf x μ (54 + 3 * i + a)) = KM (54 + 3 * i + a) ∧ μ.ln (QOf x μ (54 + 3 * i + a)) = 3 := fun i a hi ha => by
    obtain ⟨p, f, g⟩ := h.D i hi
    obtain ⟨q, q1, q2, q3, -⟩ := g a ha
    rw [QOf_D hi ha f q1, QOf_A (j := 17 + i) ⟨by omega, by omega⟩ (by rw [show 291 + (17 + i) = 308 + i by omega]; exact f)]
    exact ⟨q1, q2, q3⟩
  have kE : ∀ i a b, i < 3 → a < 3 → b < 3 → μ.er (QOf x μ (54 + 3 * i + a)) b = some (QOf x μ (63 + 9 * i + 3 * a + b)) ∧ μ.kd (QOf x μ (63 + 9 * i + 3 * a + b)) = KM (63 + 9 * i + 3 * a + b) ∧ μ.ln (QOf x μ (63 + 9 * i + 3 * a + b)) = LN (63 + 9 * i + 3 * a + b) ∧ ∀ w, w < 3 → (i = 1 → ∃ s, μ.er (QOf x μ (63 + 9 * i + 3 * a + b)) w = some s ∧ μ.kd s = KSE a b w ∧ μ.ln s = 9 ∧ ∀ c, μ.ei s c = 0) ∧ (i = 2 → ∃ s, μ.er (QOf x μ (63 + 9 * i + 3 * a + b)) w = some s ∧ μ.kd s = KTK a b w ∧ μ.ln s = 40 ∧ ∀ c, μ.ei s c = 0) := fun i a b hi ha hb => by
    obtain ⟨p, f, g⟩ := h.D i hi
    obtain ⟨q, q1, -, -, q4⟩ := g a ha
    obtain ⟨r, r1, r2, r3, r4⟩ := q4 b hb
    rw [QOf_D hi ha f q1, QOf_E hi ha hb f q1 r1]
    exact ⟨r1, r2, r3, r4⟩
  have cs : ∀ j, j < 90 → j = 0 ∨ (1 ≤ j ∧ j < 21) ∨ (∃ t a, t < 10 ∧ a < 3 ∧ j = 21 + 3 * t + a) ∨ (∃ e, e < 3 ∧ j = 51 + e) ∨ (∃ i a, i < 3 ∧ a < 3 ∧ j = 54 + 3 * i + a) ∨ ∃ i a b, i < 3 ∧ a < 3 ∧ b < 3 ∧ j = 63 + 9 * i + 3 * a + b := fun j hj => by
    by_cases c0 : j = 0
    · exact Or.inl c0
    · by_cases c1 : j < 21
      · exact Or.inr (Or.inl ⟨by omega, c1⟩)
      · by_cases c2 : j < 51
        · exact Or.inr (Or.inr (Or.inl ⟨(j - 21) / 3, (j - 21) % 3, by omega, by omega, by omega⟩))
        · by_cases c3 : j < 54
          · exact Or.inr (Or.inr (Or.inr (Or.inl ⟨j - 51, by omega, by omega⟩)))
          · by_cases c4 : j < 63
            · exact Or.inr (Or.inr (Or.inr (Or.inr (Or.inl ⟨(j - 54) / 3, (j - 54) % 3, by omega, by omega, by omega⟩))))
            · exact Or.inr (Or.inr (Or.inr (Or.inr (Or.inr ⟨(j - 63) / 9, (j - 63) % 9 / 3, (j - 63) % 3, by omega, by omega, by omega, by omega⟩))))
  refine ⟨⟨fun j hj => ?_, fun j hj0 hj => ?_, fun i h1 h2 => (kA i h1 h2).1, fun t a ht ha => (kT t a ht ha).1, fun e he => (kR e he).1, fun i a hi ha => ⟨(kD i a hi ha).1, fun b hb => (kE i a b hi ha hb).1⟩⟩, ⟨b2, b3, b4, b5, b6⟩, ⟨fun e he => ?_, fun i hi => ?_⟩, fun t a b ht ha hb => ?_, fun e he => ⟨Nat.zero_le _, fun k r hk => ?_⟩, fun a b ha hb => ⟨Nat.zero_le _, fun k r hk => ?_⟩, fun a b w ha hb hw _ => ?_, fun a b w ha hb hw _ => ?_, ⟨Nat.zero_le _, [], List.nodup_nil, fun i p hi => ?_, ?_⟩, ⟨Nat.zero_le _, ?_⟩⟩
  · rcases cs j hj with rfl | h1 | ⟨t, a, ht, ha, rfl⟩ | ⟨e, he, rfl⟩ | ⟨i, a, hi, ha, rfl⟩ | ⟨i, a, b, hi, ha, hb, rfl⟩
    · exact b1
    · exact (kA j h1.1 h1.2).2.1
    · exact (kT t a ht ha).2.1
    · exact (kR e he).2.1
    · exact (kD i a hi ha).2.1
    · exact (kE i a b hi ha hb).2.1
  · rcases cs j hj with rfl | h1 | ⟨t, a, ht, ha, rfl⟩ | ⟨e, he, rfl⟩ | ⟨i, a, hi, ha, rfl⟩ | ⟨i, a, b, hi, ha, hb, rfl⟩
    · exact absurd hj0 (Nat.lt_irrefl _)
    · exact (kA j h1.1 h1.2).2.2
    · exact (kT t a ht ha).2.2.1.trans (LN_3 (by omega)).symm
    · exact (kR e he).2.2.trans (LN_8 (by omega)).symm
    · exact (kD i a hi ha).2.2.trans (LN_3 (by omega)).symm
    · exact (kE i a b hi ha hb).2.2.1
  · obtain ⟨-, a1, f1, -, -, v1⟩ := h.2.2 _ (List.mem_of_getElem? (i := 20) rfl)
    obtain ⟨-, a2, f2, -, -, v2⟩ := h.2.2 _ (List.mem_of_getElem? (i := 19) rfl)
    obtain ⟨-, a3, f3, -, -, v3⟩ := h.2.2 _ (List.mem_of_getElem? (i := 18) rfl)
    obtain ⟨-, a5, f5, -, -, v5⟩ := h.2.2 _ (List.mem_of_getElem? (i := 16) rfl)
    rw [QOf_A (j := 1) (by decide) f1, QOf_A (j := 2) (by decide) f2, QOf_A (j := 3) (by decide) f3, QOf_A (j := 5) (by decide) f5]
    exact ⟨v1 e he, v2 e he, v3 e he, v5 e he⟩
  · obtain ⟨-, a4, f4, -, -, v4⟩ := h.2.2 _ (List.mem_of_getElem? (i := 17) rfl)
    rw [QOf_A (j := 4) (by decide) f4]
    exact v4 i hi
  · rw [(kT t a ht ha).2.2.2 b]
    have hd : ¬ dn 0 a b := fun z => absurd z.2.2 (Nat.not_lt_zero _)
    have h9 : t = 0 ∨ t = 1 ∨ t = 2 ∨ t = 3 ∨ t = 4 ∨ t = 5 ∨ t = 6 ∨ t = 7 ∨ t = 8 ∨ t = 9 := by omega
    have hf : (SI 0).fl a b = some (fun _ => 0) := if_neg hd
    rcases h9 with rfl | rfl | rfl | rfl | rfl | rfl | rfl | rfl | rfl | rfl
    · exact (show (SI 0).lf 0 a b = 0 from if_neg hd).symm
    · rfl
    · rfl
    · show (0 : Int32) = match (SI 0).fl a b with
        | none => -1
        | some r => r 0
      rw [hf]
    · intro r hr
      rw [hf] at hr
      cases hr
      rfl
    · intro r hr
      rw [hf] at hr
      cases hr
      rfl
    · intro r hr
      rw [hf] at hr
      cases hr
      rfl
    · exact (show (SI 0).lf 3 a b = 0 from if_neg hd).symm
    · rfl
    · rfl
  · have h9 : ([] : List Row)[k]? = some r := hk
    simp at h9
  · have h9 : ([] : List Row)[k]? = some r := hk
    simp at h9
  · obtain ⟨s, s1, s2, s3, s4⟩ := ((kE 1 a b (by decide) ha hb).2.2.2 w hw).1 rfl
    exact ⟨s, s1, s2, s3, s4 0⟩
  · obtain ⟨s, s1, s2, s3, s4⟩ := ((kE 2 a b (by decide) ha hb).2.2.2 w hw).2 rfl
    exact ⟨s, s1, s2, s3, fun c hc => (s4 c).trans (BITn_0 c hc).symm⟩
  · simp at hi
  · exact ⟨rfl, fun i p r hp => by simp at hp⟩
  · obtain ⟨-, a, f, lo, -, -, k1, -, k2, -⟩ := h.2.2 _ (List.mem_of_getElem? (i := 0) rfl)
    exact ⟨a, f, k1, k2, fun k r hk => by
      have h9 : ([] : List Row)[k]? = some r := hk
      simp at h9⟩
end
