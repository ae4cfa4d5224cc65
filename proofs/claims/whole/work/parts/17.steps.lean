section
theorem KS_m {j : Nat} : KS j % 32 = if j = 0 then 9 else if j = 1 then 15 else if j = 2 then 1 else if j = 3 then 11 else if j < 7 then 2 else if j < 10 then 16 else if j < 16 then 1 else if j < 25 then 5 else 1 := by
  unfold KS
  split; omega; split; omega; split; omega; split; omega; split; omega; split; omega; split; omega; split <;> omega
theorem KS_E {e : Nat} (h : e < 3) : KS (4 + e) % 32 = 2 := by rw [KS_m]; rw [if_neg (by omega), if_neg (by omega), if_neg (by omega), if_neg (by omega), if_pos (by omega)]
theorem KS_LA {e : Nat} (h : e < 3) : KS (7 + e) % 32 = 16 := by rw [KS_m]; rw [if_neg (by omega), if_neg (by omega), if_neg (by omega), if_neg (by omega), if_neg (by omega), if_pos (by omega)]
theorem KS_RO {e : Nat} (h : e < 6) : KS (10 + e) % 32 = 1 := by rw [KS_m]; rw [if_neg (by omega), if_neg (by omega), if_neg (by omega), if_neg (by omega), if_neg (by omega), if_neg (by omega), if_pos (by omega)]
theorem KS_LK {i : Nat} (h : i < 9) : KS (16 + i) % 32 = 5 := by rw [KS_m]; rw [if_neg (by omega), if_neg (by omega), if_neg (by omega), if_neg (by omega), if_neg (by omega), if_neg (by omega), if_neg (by omega), if_pos (by omega)]
theorem KS_WT {i : Nat} : KS (25 + i) % 32 = 1 := by rw [KS_m]; rw [if_neg (by omega), if_neg (by omega), if_neg (by omega), if_neg (by omega), if_neg (by omega), if_neg (by omega), if_neg (by omega), if_neg (by omega)]
/-! frames of a side: what is not of W stays; what is of W, or new, is of W -/
def FrS (W : Nat → Prop) (μ μ' : Mem) : Prop := ∀ q, (μ.kd q ≠ 0 → ¬ W (μ.kd q) → SameAt μ μ' q) ∧ (μ.kd q = 0 ∨ W (μ.kd q) → μ'.kd q = 0 ∨ W (μ'.kd q))
theorem FrS.rf {W : Nat → Prop} {μ : Mem} : FrS W μ μ := fun q => ⟨fun _ _ => SameAt.rf, fun h => h⟩
theorem FrS.tr {W : Nat → Prop} {μ1 μ2 μ3 : Mem} (h : FrS W μ1 μ2) (g : FrS W μ2 μ3) : FrS W μ1 μ3 := fun q => ⟨fun h0 hw => by
  have s1 := (h q).1 h0 hw
  exact s1.tr ((g q).1 (by rw [s1.1]; exact h0) (by rw [s1.1]; exact hw)), fun h0 => (g q).2 ((h q).2 h0)⟩
theorem FrK.S {W W' : Nat → Prop} {μ μ' : Mem} (h : FrK W μ μ') (hw : ∀ k, W k → W' k) : FrS W' μ μ' := fun q => ⟨fun h0 hn => ((h q).1 h0).2 (fun c => hn (hw _ c)), fun h0 => by
  by_cases c : μ.kd q = 0
  · exact ((h q).2 c).imp id (hw _)
  · have e := ((h q).1 c).1
    rcases h0 with h0 | h0
    · exact absurd h0 c
    · exact Or.inr (by rw [e]; exact h0)⟩
theorem same_skd {μ : Mem} {a k q : Nat} (h : q ≠ a) : SameAt μ (μ.skd a k) q := ⟨by show u1 μ.kd a k q = _; unfold u1; rw [if_neg h], fun _ => rfl, fun _ => rfl, fun _ => rfl, rfl, rfl, rfl, rfl⟩
theorem kd_skd {μ : Mem} {a k : Nat} : (μ.skd a k).kd a = k := by show u1 μ.kd a k a = k; unfold u1; rw [if_pos rfl]
theorem FrS.skd {W : Nat → Prop} {μ : Mem} {a k : Nat} (h0 : μ.kd a ≠ 0) (h1 : W (μ.kd a)) (h2 : W k) : FrS W μ (μ.skd a k) := fun q => by
  by_cases e : q = a
  · subst e
    exact ⟨fun _ hn => absurd h1 hn, fun _ => Or.inr (by rw [kd_skd]; exact h2)⟩
  · have s := same_skd (μ := μ) (k := k) e
    exact ⟨fun _ _ => s, fun h => by rw [s.1]; exact h⟩
/-- what belongs to the class's side -/
def isC (k : Nat) : Prop := k ≠ 0 ∧ (k / 32 < 100 ∨ 1000 ≤ k / 32)
theorem isC_KS (j : Nat) (h : j < 34) : isC (KS j) := ⟨KS_ne j, Or.inl (by rw [KS_div]; omega)⟩
theorem isC_LM (ρ : Nat) : isC (LM ρ) := ⟨by unfold LM; omega, Or.inr (by unfold LM; omega)⟩
theorem isC_FM (q : Nat) : isC (FM q) := ⟨by unfold FM; omega, Or.inr (by unfold FM; omega)⟩
/-- a ghost mark may change at any time -/
theorem h_skd {Z : Zx} {k n pc : Nat} {L : List (Option Value)} {st : List Value} {μ : Mem} (a k' : Nat) (hk : k' % 32 = μ.kd a % 32) (h0 : μ.kd a ≠ 0) (kk : HW Z k n pc L st (μ.skd a k')) : HW Z k n pc L st μ := by
  obtain ⟨p, l, e, R, s, m, args, below, meth, c, G, A, nL, Q⟩ := Z
  intro H locs ls hR hS hl
  refine kk H locs ls (fun q hq => ?_) hS hl
  by_cases e : q = a
  · subst e
    obtain ⟨g1, g2⟩ := hR q h0
    refine ⟨g1, ?_⟩
    unfold cellAt at g2 ⊢
    rw [kd_skd, hk]
    exact g2
  · have s := same_skd (μ := μ) (k := k') e
    obtain ⟨g1, g2⟩ := hR q (by rw [← s.1]; exact hq)
    exact ⟨g1, g2.kept s rfl⟩
theorem cK.inj {P : Nat → Nat} {μ : Mem} (h : cK P μ) {i j : Nat} (hi : i < 34) (hj : j < 34) (hne : i ≠ j) : P i ≠ P j := fun e => KS_ap hne (by rw [← h i hi, ← h j hj, e])
theorem w2_eq {α : Type} {f : Nat → Nat → α} {a b : Nat} {v : α} : w2 f a b v a b = v := if_pos ⟨rfl, rfl⟩
theorem w3_eq {α : Type} {f : Nat → Nat → Nat → α} {a b c : Nat} {v : α} : w3 f a b c v a b c = v := if_pos ⟨rfl, rfl, rfl⟩
theorem w2_ne {α : Type} {f : Nat → Nat → α} {a b i j : Nat} {v : α} (h : ¬ (i = a ∧ j = b)) : w2 f a b v i j = f i j := if_neg h
theorem w3_ne {α : Type} {f : Nat → Nat → Nat → α} {a b c i j k : Nat} {v : α} (h : ¬ (i = a ∧ j = b ∧ k = c)) : w3 f a b c v i j k = f i j k := if_neg h
theorem u1_eq {α : Type} {f : Nat → α} {a : Nat} {v : α} : u1 f a v a = v := if_pos rfl
theorem sc_at {S : Sx} {i : Nat} {v : Int32} : (S.sSc i v).sc i = v := u1_eq
theorem ef_at {S : Sx} {f e : Nat} {v : Int32} : (S.sEf f e v).ef f e = v := w2_eq
theorem ef_ap {S : Sx} {f e i j : Nat} {v : Int32} (h : ¬ (i = f ∧ j = e)) : (S.sEf f e v).ef i j = S.ef i j := w2_ne h
theorem lf_at {S : Sx} {f a b : Nat} {v : Int32} : (S.sLf f a b v).lf f a b = v := w3_eq
theorem lf_ap {S : Sx} {f a b i j k : Nat} {v : Int32} (h : ¬ (i = f ∧ j = a ∧ k = b)) : (S.sLf f a b v).lf i j k = S.lf i j k := w3_ne h
theorem fl_ap {μ μ' : Mem} {f a g b : Nat} {v : Int64} (e : μ' = μ.sfl f a v) (h : g ≠ f ∨ b ≠ a) : μ'.fl g b = μ.fl g b := by
  rw [e, z_fl_sfl]
  rcases h with h | h
  · rw [if_neg h]
  · rw [if_neg h, ite_self]
theorem u1_ne {α : Type} {f : Nat → α} {a b : Nat} {v : α} (h : b ≠ a) : u1 f a v b = f b := if_neg h

theorem CRep.s259 {G : Gx} {P : Nat → Nat} {S : Sx} {μ : Mem} (h : CRep G P S μ) (v : Int32) : CRep G P (S.sSc 0 v) (μ.sfi 259 (P 0) v) := by
  obtain ⟨h1, h2, h3, h4, h5, h6, h7, h8, h9, h10, h11, h12, h13, h14, h15⟩ := h
  exact ⟨h1, h2, ⟨(fi_at rfl).trans sc_at.symm, h3.2.1, h3.2.2⟩, h4, h5, h6, h7, h8, h9, h10, h11, h12, h13, h14, h15⟩
theorem CRep.s260 {G : Gx} {P : Nat → Nat} {S : Sx} {μ : Mem} (h : CRep G P S μ) (v : Int32) : CRep G P (S.sSc 1 v) (μ.sfi 260 (P 0) v) := by
  obtain ⟨h1, h2, h3, h4, h5, h6, h7, h8, h9, h10, h11, h12, h13, h14, h15⟩ := h
  exact ⟨h1, h2, ⟨h3.1, (fi_at rfl).trans sc_at.symm, h3.2.2⟩, h4, h5, h6, h7, h8, h9, h10, h11, h12, h13, h14, h15⟩
theorem CRep.s261 {G : Gx} {P : Nat → Nat} {S : Sx} {μ : Mem} (h : CRep G P S μ) (v : Int32) : CRep G P (S.sSc 2 v) (μ.sfi 261 (P 0) v) := by
  obtain ⟨h1, h2, h3, h4, h5, h6, h7, h8, h9, h10, h11, h12, h13, h14, h15⟩ := h
  exact ⟨h1, h2, ⟨h3.1, h3.2.1, (fi_at rfl).trans sc_at.symm⟩, h4, h5, h6, h7, h8, h9, h10, h11, h12, h13, h14, h15⟩
theorem CRep.s37 {G : Gx} {P : Nat → Nat} {S : Sx} {μ : Mem} (h : CRep G P S μ) {e : Nat} (he : e < 3) (v : Int32) : CRep G P (S.sEf 0 e v) (μ.sfi 37 (P (4 + e)) v) := by
  obtain ⟨h1, h2, h3, h4, h5, h6, h7, h8, h9, h10, h11, h12, h13, h14, h15⟩ := h
  refine ⟨h1, h2, h3, h4, h5, h6, fun e9 he9 => ?_, h8, h9, h10, h11, h12, h13, h14, h15⟩
  obtain ⟨m1, m2⟩ := h7 e9 he9
  by_cases c : e9 = e
  · subst c
    exact ⟨(fi_at rfl).trans ef_at.symm, m2⟩
  · have hn := h1.inj (i := 4 + e9) (j := 4 + e) (by omega) (by omega) (by omega)
    exact ⟨(fi_ap rfl (Or.inr hn)).trans (m1.trans (ef_ap (fun z => c z.2)).symm), m2⟩
theorem CRep.s38 {G : Gx} {P : Nat → Nat} {S : Sx} {μ : Mem} (h : CRep G P S μ) {e : Nat} (he : e < 3) (v : Int32) : CRep G P (S.sEf 1 e v) (μ.sfi 38 (P (4 + e)) v) := by
  obtain ⟨h1, h2, h3, h4, h5, h6, h7, h8, h9, h10, h11, h12, h13, h14, h15⟩ := h
  refine ⟨h1, h2, h3, h4, h5, h6, fun e9 he9 => ?_, h8, h9, h10, h11, h12, h13, h14, h15⟩
  obtain ⟨m1, m2⟩ := h7 e9 he9
  by_cases c : e9 = e
  · subst c
    exact ⟨m1, (fi_at rfl).trans ef_at.symm⟩
  · have hn := h1.inj (i := 4 + e9) (j := 4 + e) (by omega) (by omega) (by omega)
    exact ⟨m1, (fi_ap rfl (Or.inr hn)).trans (m2.trans (ef_ap (fun z => c z.2)).symm)⟩
theorem CRep.s132 {G : Gx} {P : Nat → Nat} {S : Sx} {μ : Mem} (h : CRep G P S μ) {a b : Nat} (ha : a < 3) (hb : b < 3) (v : Int32) : CRep G P (S.sLf 0 a b v) (μ.sfi 132 (P (16 + 3 * a + b)) v) := by
  obtain ⟨h1, h2, h3, h4, h5, h6, h7, h8, h9, h10, h11, h12, h13, h14, h15⟩ := h
  refine ⟨h1, h2, h3, h4, h5, h6, h7, h8, fun a9 b9 ha9 hb9 => ?_, h10, h11, h12, h13, h14, h15⟩
  obtain ⟨m1, m2, m3, m4, m5⟩ := h9 a9 b9 ha9 hb9
  by_cases c : a9 = a ∧ b9 = b
  · obtain ⟨rfl, rfl⟩ := c
    exact ⟨(fi_at rfl).trans lf_at.symm, m2, m3, m4, m5⟩
  · have hn := h1.inj (i := 16 + 3 * a9 + b9) (j := 16 + 3 * a + b) (by omega) (by omega) (by omega)
    exact ⟨(fi_ap rfl (Or.inr hn)).trans (m1.trans (lf_ap (fun z => c z.2)).symm), m2, m3, m4, m5⟩
theorem CRep.s137 {G : Gx} {P : Nat → Nat} {S : Sx} {μ : Mem} (h : CRep G P S μ) {a b : Nat} (ha : a < 3) (hb : b < 3) (v : Int32) : CRep G P (S.sLf 1 a b v) (μ.sfi 137 (P (16 + 3 * a + b)) v) := by
  obtain ⟨h1, h2, h3, h4, h5, h6, h7, h8, h9, h10, h11, h12, h13, h14, h15⟩ := h
  refine ⟨h1, h2, h3, h4, h5, h6, h7, h8, fun a9 b9 ha9 hb9 => ?_, h10, h11, h12, h13, h14, h15⟩
  obtain ⟨m1, m2, m3, m4, m5⟩ := h9 a9 b9 ha9 hb9
  by_cases c : a9 = a ∧ b9 = b
  · obtain ⟨rfl, rfl⟩ := c
    exact ⟨m1, (fi_at rfl).trans lf_at.symm, m3, m4, m5⟩
  · have hn := h1.inj (i := 16 + 3 * a9 + b9) (j := 16 + 3 * a + b) (by omega) (by omega) (by omega)
    exact ⟨m1, (fi_ap rfl (Or.inr hn)).trans (m2.trans (lf_ap (fun z => c z.2)).symm), m3, m4, m5⟩
theorem CRep.s138 {G : Gx} {P : Nat → Nat} {S : Sx} {μ : Mem} (h : CRep G P S μ) {a b : Nat} (ha : a < 3) (hb : b < 3) (v : Int32) : CRep G P (S.sLf 2 a b v) (μ.sfi 138 (P (16 + 3 * a + b)) v) := by
  obtain ⟨h1, h2, h3, h4, h5, h6, h7, h8, h9, h10, h11, h12, h13, h14, h15⟩ := h
  refine ⟨h1, h2, h3, h4, h5, h6, h7, h8, fun a9 b9 ha9 hb9 => ?_, h10, h11, h12, h13, h14, h15⟩
  obtain ⟨m1, m2, m3, m4, m5⟩ := h9 a9 b9 ha9 hb9
  by_cases c : a9 = a ∧ b9 = b
  · obtain ⟨rfl, rfl⟩ := c
    exact ⟨m1, m2, (fi_at rfl).trans lf_at.symm, m4, m5⟩
  · have hn := h1.inj (i := 16 + 3 * a9 + b9) (j := 16 + 3 * a + b) (by omega) (by omega) (by omega)
    exact ⟨m1, m2, (fi_ap rfl (Or.inr hn)).trans (m3.trans (lf_ap (fun z => c z.2)).symm), m4, m5⟩
theorem CRep.s139 {G : Gx} {P : Nat → Nat} {S : Sx} {μ : Mem} (h : CRep G P S μ) {a b : Nat} (ha : a < 3) (hb : b < 3) (v : Int32) : CRep G P (S.sLf 3 a b v) (μ.sfi 139 (P (16 + 3 * a + b)) v) := by
  obtain ⟨h1, h2, h3, h4, h5, h6, h7, h8, h9, h10, h11, h12, h13, h14, h15⟩ := h
  refine ⟨h1, h2, h3, h4, h5, h6, h7, h8, fun a9 b9 ha9 hb9 => ?_, h10, h11, h12, h13, h14, h15⟩
  obtain ⟨m1, m2, m3, m4, m5⟩ := h9 a9 b9 ha9 hb9
  by_cases c : a9 = a ∧ b9 = b
  · obtain ⟨rfl, rfl⟩ := c
    exact ⟨m1, m2, m3, (fi_at rfl).trans lf_at.symm, m5⟩
  · have hn := h1.inj (i := 16 + 3 * a9 + b9) (j := 16 + 3 * a + b) (by omega) (by omega) (by omega)
    exact ⟨m1, m2, m3, (fi_ap rfl (Or.inr hn)).trans (m4.trans (lf_ap (fun z => c z.2)).symm), m5⟩
theorem CRep.s140 {G : Gx} {P : Nat → Nat} {S : Sx} {μ : Mem} (h : CRep G P S μ) {a b : Nat} (ha : a < 3) (hb : b < 3) (v : Int32) : CRep G P (S.sLf 4 a b v) (μ.sfi 140 (P (16 + 3 * a + b)) v) := by
  obtain ⟨h1, h2, h3, h4, h5, h6, h7, h8, h9, h10, h11, h12, h13, h14, h15⟩ := h
  refine ⟨h1, h2, h3, h4, h5, h6, h7, h8, fun a9 b9 ha9 hb9 => ?_, h10, h11, h12, h13, h14, h15⟩
  obtain ⟨m1, m2, m3, m4, m5⟩ := h9 a9 b9 ha9 hb9
  by_cases c : a9 = a ∧ b9 = b
  · obtain ⟨rfl, rfl⟩ := c
    exact ⟨m1, m2, m3, m4, (fi_at rfl).trans lf_at.symm⟩
  · have hn := h1.inj (i := 16 + 3 * a9 + b9) (j := 16 + 3 * a + b) (by omega) (by omega) (by omega)
    exact ⟨m1, m2, m3, m4, (fi_ap rfl (Or.inr hn)).trans (m5.trans (lf_ap (fun z => c z.2)).symm)⟩
theorem CRep.s136 {G : Gx} {P : Nat → Nat} {S : Sx} {μ : Mem} (h : CRep G P S μ) {a b : Nat} (ha : a < 3) (hb : b < 3) (o : Option Nat) (v : Option Row) (hv : FlAt μ o v) : CRep G P (S.sFl a b v) (μ.sfr 136 (P (16 + 3 * a + b)) o) := by
  obtain ⟨h1, h2, h3, h4, h5, h6, h7, h8, h9, h10, h11, h12, h13, h14, h15⟩ := h
  refine ⟨h1, h2, h3, h4, h5, h6, h7, h8, h9, h10, fun a9 b9 ha9 hb9 => ?_, h12, h13, h14, h15⟩
  have m1 := h11 a9 b9 ha9 hb9
  by_cases c : a9 = a ∧ b9 = b
  · obtain ⟨rfl, rfl⟩ := c
    show FlAt μ (u2 μ.fr 136 _ o 136 _) (w2 S.fl a9 b9 v a9 b9)
    rw [u2_eq, w2_eq]
    exact hv
  · have hn := h1.inj (i := 16 + 3 * a9 + b9) (j := 16 + 3 * a + b) (by omega) (by omega) (by omega)
    show FlAt μ (u2 μ.fr 136 _ o 136 _) (w2 S.fl a b v a9 b9)
    rw [u2_ne hn, w2_ne c]
    exact m1
theorem CRep.sC {G : Gx} {P : Nat → Nat} {S : Sx} {μ : Mem} (h : CRep G P S μ) {i : Nat} (hi : i < 11) (v : Int32) : CRep G P (S.sCd i v) (μ.sei (P 3) i v) := by
  obtain ⟨h1, h2, h3, h4, h5, h6, h7, h8, h9, h10, h11, h12, h13, h14, h15⟩ := h
  have f9 : FrK (fun k => k = KS 3) μ (μ.sei (P 3) i v) := FrK.sei (h1 3 (by decide))
  have n1 : ∀ j, j ≠ 3 → ¬ KS j = KS 3 := fun j hj => KS_ap hj
  have n2 : ∀ ρ, ¬ LM ρ = KS 3 := fun ρ => KS_LM (by decide)
  have n3 : ∀ q, ¬ FM q = KS 3 := fun q hq => by have := KS_div 3; rw [← hq] at this; unfold FM at this; omega
  have n4 : ∀ k, 34 < k / 32 → ¬ k = KS 3 := fun k hk e => by have := KS_div 3; rw [← e] at this; omega
  refine ⟨h1.kept f9, h2, h3, ⟨h4.1, h4.2.1, h4.2.2⟩, fun j hj => ?_, h6, h7, h8, h9, h10, h11, h12, h13, h14, h15.kept h1 f9 (n1 2 (by decide)) (n2 _) (n4 _ (by decide)) (fun q _ => n3 q)⟩
  by_cases c : j = i
  · subst c
    exact u2_eq.trans u1_eq.symm
  · show u2 μ.ei (P 3) i v (P 3) j = u1 S.cd i v j
    rw [u1_ne c]
    unfold u2
    rw [if_pos rfl, if_neg c]
    exact h5 j hj
theorem SesAt.s230 {μ : Mem} {k : Nat} {s : Nat} {r : Ses} (h : SesAt μ k (some s) (some r)) (v : Int32) : SesAt (μ.sfi 230 s v) k (some s) (some (u1 r.1 5 v, r.2)) := by
  rcases h with ⟨h, -⟩ | ⟨s9, r9, e1, e2, c1, c2, c3, c4, c5, c6, c7, c8, c9, c10, c11⟩
  · cases h
  · cases e1
    cases e2
    exact Or.inr ⟨s, _, rfl, rfl, c1, c2, c3, c4, c5, c6, c7, (fi_at rfl).trans (u1_eq (f := r.1) (a := 5) (v := v)).symm, c9, c10, c11⟩
theorem SesAt.s230_ap {μ : Mem} {k k' : Nat} {s : Nat} {o : Option Nat} {r : Option Ses} (h : SesAt μ k o r) (hs : μ.kd s = k') (hk : k ≠ k') (v : Int32) : SesAt (μ.sfi 230 s v) k o r := by
  rcases h with h | ⟨s9, r9, e1, e2, d1, d2, d3, d4, d5, d6, d7, d8, d9, d10, d11⟩
  · exact Or.inl h
  · have hne : s9 ≠ s := fun e => hk (by rw [← d1, e, hs])
    exact Or.inr ⟨s9, r9, e1, e2, d1, d2, d3, d4, d5, d6, d7, (fi_ap rfl (Or.inr hne)).trans d8, d9, d10, d11⟩
theorem SesAt.s231 {μ : Mem} {k : Nat} {s : Nat} {r : Ses} (h : SesAt μ k (some s) (some r)) (v : Int32) : SesAt (μ.sfi 231 s v) k (some s) (some (u1 r.1 8 v, r.2)) := by
  rcases h with ⟨h, -⟩ | ⟨s9, r9, e1, e2, c1, c2, c3, c4, c5, c6, c7, c8, c9, c10, c11⟩
  · cases h
  · cases e1
    cases e2
    exact Or.inr ⟨s, _, rfl, rfl, c1, c2, c3, c4, c5, c6, c7, c8, (fi_at rfl).trans (u1_eq (f := r.1) (a := 8) (v := v)).symm, c10, c11⟩
theorem SesAt.s231_ap {μ : Mem} {k k' : Nat} {s : Nat} {o : Option Nat} {r : Option Ses} (h : SesAt μ k o r) (hs : μ.kd s = k') (hk : k ≠ k') (v : Int32) : SesAt (μ.sfi 231 s v) k o r := by
  rcases h with h | ⟨s9, r9, e1, e2, d1, d2, d3, d4, d5, d6, d7, d8, d9, d10, d11⟩
  · exact Or.inl h
  · have hne : s9 ≠ s := fun e => hk (by rw [← d1, e, hs])
    exact Or.inr ⟨s9, r9, e1, e2, d1, d2, d3, d4, d5, d6, d7, d8, (fi_ap rfl (Or.inr hne)).trans d9, d10, d11⟩
theorem SesAt.s232 {μ : Mem} {k : Nat} {s : Nat} {r : Ses} (h : SesAt μ k (some s) (some r)) (v : Int32) : SesAt (μ.sfi 232 s v) k (some s) (some (u1 r.1 7 v, r.2)) := by
  rcases h with ⟨h, -⟩ | ⟨s9, r9, e1, e2, c1, c2, c3, c4, c5, c6, c7, c8, c9, c10, c11⟩
  · cases h
  · cases e1
    cases e2
    exact Or.inr ⟨s, _, rfl, rfl, c1, c2, c3, c4, c5, c6, c7, c8, c9, (fi_at rfl).trans (u1_eq (f := r.1) (a := 7) (v := v)).symm, c11⟩
theorem SesAt.s232_ap {μ : Mem} {k k' : Nat} {s : Nat} {o : Option Nat} {r : Option Ses} (h : SesAt μ k o r) (hs : μ.kd s = k') (hk : k ≠ k') (v : Int32) : SesAt (μ.sfi 232 s v) k o r := by
  rcases h with h | ⟨s9, r9, e1, e2, d1, d2, d3, d4, d5, d6, d7, d8, d9, d10, d11⟩
  · exact Or.inl h
  · have hne : s9 ≠ s := fun e => hk (by rw [← d1, e, hs])
    exact Or.inr ⟨s9, r9, e1, e2, d1, d2, d3, d4, d5, d6, d7, d8, d9, (fi_ap rfl (Or.inr hne)).trans d10, d11⟩
theorem SesAt.s233 {μ : Mem} {k : Nat} {s : Nat} {r : Ses} (h : SesAt μ k (some s) (some r)) (v : Int64) : SesAt (μ.sfl 233 s v) k (some s) (some (r.1, v)) := by
  rcases h with ⟨h, -⟩ | ⟨s9, r9, e1, e2, c1, c2, c3, c4, c5, c6, c7, c8, c9, c10, c11⟩
  · cases h
  · cases e1
    cases e2
    exact Or.inr ⟨s, _, rfl, rfl, c1, c2, c3, c4, c5, c6, c7, c8, c9, c10, fl_at rfl⟩
theorem SesAt.s233_ap {μ : Mem} {k k' : Nat} {s : Nat} {o : Option Nat} {r : Option Ses} (h : SesAt μ k o r) (hs : μ.kd s = k') (hk : k ≠ k') (v : Int64) : SesAt (μ.sfl 233 s v) k o r := by
  rcases h with h | ⟨s9, r9, e1, e2, d1, d2, d3, d4, d5, d6, d7, d8, d9, d10, d11⟩
  · exact Or.inl h
  · have hne : s9 ≠ s := fun e => hk (by rw [← d1, e, hs])
    exact Or.inr ⟨s9, r9, e1, e2, d1, d2, d3, d4, d5, d6, d7, d8, d9, d10, (fl_ap rfl (Or.inr hne)).trans d11⟩
/-- slot w of link (a, b) -/
def SL (P : Nat → Nat) (μ : Mem) (a b w : Nat) : Option Nat := if w = 0 then μ.fr 133 (P (16 + 3 * a + b)) else if w = 1 then μ.fr 134 (P (16 + 3 * a + b)) else μ.fr 135 (P (16 + 3 * a + b))
theorem cS.at {P : Nat → Nat} {μ : Mem} {ses : Nat → Nat → Nat → Option Ses} (h : cS P μ ses) {a b w : Nat} (ha : a < 3) (hb : b < 3) (hw : w < 3) : SesAt μ (KSES a b w) (SL P μ a b w) (ses a b w) := by
  obtain ⟨m0, m1, m2⟩ := h a b ha hb
  have : w = 0 ∨ w = 1 ∨ w = 2 := by omega
  rcases this with rfl | rfl | rfl
  · exact m0
  · exact m1
  · exact m2
theorem cS.of {P : Nat → Nat} {μ : Mem} {ses : Nat → Nat → Nat → Option Ses} (h : ∀ a b w, a < 3 → b < 3 → w < 3 → SesAt μ (KSES a b w) (SL P μ a b w) (ses a b w)) : cS P μ ses := fun a b ha hb => ⟨h a b 0 ha hb (by decide), h a b 1 ha hb (by decide), h a b 2 ha hb (by decide)⟩
theorem KSES_ne {a b w a' b' w' : Nat} (hb : b < 3) (hw : w < 3) (hb' : b' < 3) (hw' : w' < 3) (h : ¬ (a = a' ∧ b = b' ∧ w = w')) : KSES a b w ≠ KSES a' b' w' := fun e => by unfold KSES at e; omega
theorem CRep.s230 {G : Gx} {P : Nat → Nat} {S : Sx} {μ : Mem} (h : CRep G P S μ) {a b w s : Nat} {r : Ses} (ha : a < 3) (hb : b < 3) (hw : w < 3) (hs : SL P μ a b w = some s) (hr : S.ses a b w = some r) (v : Int32) : CRep G P (S.sSes a b w (some (u1 r.1 5 v, r.2))) (μ.sfi 230 s v) := by
  obtain ⟨h1, h2, h3, h4, h5, h6, h7, h8, h9, h10, h11, h12, h13, h14, h15⟩ := h
  refine ⟨h1, h2, h3, h4, h5, h6, h7, h8, h9, cS.of fun a9 b9 w9 ha9 hb9 hw9 => ?_, h11, h12, h13, h14, h15⟩
  have m := h10.at ha9 hb9 hw9
  have m0 := h10.at ha hb hw
  rw [hs, hr] at m0
  by_cases c : a9 = a ∧ b9 = b ∧ w9 = w
  · obtain ⟨rfl, rfl, rfl⟩ := c
    show SesAt _ _ (SL P μ a9 b9 w9) (w3 S.ses a9 b9 w9 _ a9 b9 w9)
    rw [w3_eq, hs]
    exact m0.s230 v
  · show SesAt _ _ (SL P μ a9 b9 w9) (w3 S.ses a b w _ a9 b9 w9)
    rw [w3_ne c]
    have hk : μ.kd s = KSES a b w := by
      rcases m0 with ⟨z, -⟩ | ⟨s9, r9, e1, e2, c1, -⟩
      · cases z
      · cases e1; exact c1
    exact m.s230_ap hk (KSES_ne hb9 hw9 hb hw c) v
theorem CRep.s231 {G : Gx} {P : Nat → Nat} {S : Sx} {μ : Mem} (h : CRep G P S μ) {a b w s : Nat} {r : Ses} (ha : a < 3) (hb : b < 3) (hw : w < 3) (hs : SL P μ a b w = some s) (hr : S.ses a b w = some r) (v : Int32) : CRep G P (S.sSes a b w (some (u1 r.1 8 v, r.2))) (μ.sfi 231 s v) := by
  obtain ⟨h1, h2, h3, h4, h5, h6, h7, h8, h9, h10, h11, h12, h13, h14, h15⟩ := h
  refine ⟨h1, h2, h3, h4, h5, h6, h7, h8, h9, cS.of fun a9 b9 w9 ha9 hb9 hw9 => ?_, h11, h12, h13, h14, h15⟩
  have m := h10.at ha9 hb9 hw9
  have m0 := h10.at ha hb hw
  rw [hs, hr] at m0
  by_cases c : a9 = a ∧ b9 = b ∧ w9 = w
  · obtain ⟨rfl, rfl, rfl⟩ := c
    show SesAt _ _ (SL P μ a9 b9 w9) (w3 S.ses a9 b9 w9 _ a9 b9 w9)
    rw [w3_eq, hs]
    exact m0.s231 v
  · show SesAt _ _ (SL P μ a9 b9 w9) (w3 S.ses a b w _ a9 b9 w9)
    rw [w3_ne c]
    have hk : μ.kd s = KSES a b w := by
      rcases m0 with ⟨z, -⟩ | ⟨s9, r9, e1, e2, c1, -⟩
      · cases z
      · cases e1; exact c1
    exact m.s231_ap hk (KSES_ne hb9 hw9 hb hw c) v
theorem CRep.s232 {G : Gx} {P : Nat → Nat} {S : Sx} {μ : Mem} (h : CRep G P S μ) {a b w s : Nat} {r : Ses} (ha : a < 3) (hb : b < 3) (hw : w < 3) (hs : SL P μ a b w = some s) (hr : S.ses a b w = some r) (v : Int32) : CRep G P (S.sSes a b w (some (u1 r.1 7 v, r.2))) (μ.sfi 232 s v) := by
  obtain ⟨h1, h2, h3, h4, h5, h6, h7, h8, h9, h10, h11, h12, h13, h14, h15⟩ := h
  refine ⟨h1, h2, h3, h4, h5, h6, h7, h8, h9, cS.of fun a9 b9 w9 ha9 hb9 hw9 => ?_, h11, h12, h13, h14, h15⟩
  have m := h10.at ha9 hb9 hw9
  have m0 := h10.at ha hb hw
  rw [hs, hr] at m0
  by_cases c : a9 = a ∧ b9 = b ∧ w9 = w
  · obtain ⟨rfl, rfl, rfl⟩ := c
    show SesAt _ _ (SL P μ a9 b9 w9) (w3 S.ses a9 b9 w9 _ a9 b9 w9)
    rw [w3_eq, hs]
    exact m0.s232 v
  · show SesAt _ _ (SL P μ a9 b9 w9) (w3 S.ses a b w _ a9 b9 w9)
    rw [w3_ne c]
    have hk : μ.kd s = KSES a b w := by
      rcases m0 with ⟨z, -⟩ | ⟨s9, r9, e1, e2, c1, -⟩
      · cases z
      · cases e1; exact c1
    exact m.s232_ap hk (KSES_ne hb9 hw9 hb hw c) v
theorem CRep.s233 {G : Gx} {P : Nat → Nat} {S : Sx} {μ : Mem} (h : CRep G P S μ) {a b w s : Nat} {r : Ses} (ha : a < 3) (hb : b < 3) (hw : w < 3) (hs : SL P μ a b w = some s) (hr : S.ses a b w = some r) (v : Int64) : CRep G P (S.sSes a b w (some (r.1, v))) (μ.sfl 233 s v) := by
  obtain ⟨h1, h2, h3, h4, h5, h6, h7, h8, h9, h10, h11, h12, h13, h14, h15⟩ := h
  refine ⟨h1, h2, h3, h4, h5, h6, h7, h8, h9, cS.of fun a9 b9 w9 ha9 hb9 hw9 => ?_, h11, h12, h13, h14, h15⟩
  have m := h10.at ha9 hb9 hw9
  have m0 := h10.at ha hb hw
  rw [hs, hr] at m0
  by_cases c : a9 = a ∧ b9 = b ∧ w9 = w
  · obtain ⟨rfl, rfl, rfl⟩ := c
    show SesAt _ _ (SL P μ a9 b9 w9) (w3 S.ses a9 b9 w9 _ a9 b9 w9)
    rw [w3_eq, hs]
    exact m0.s233 v
  · show SesAt _ _ (SL P μ a9 b9 w9) (w3 S.ses a b w _ a9 b9 w9)
    rw [w3_ne c]
    have hk : μ.kd s = KSES a b w := by
      rcases m0 with ⟨z, -⟩ | ⟨s9, r9, e1, e2, c1, -⟩
      · cases z
      · cases e1; exact c1
    exact m.s233_ap hk (KSES_ne hb9 hw9 hb hw c) v
end
