section
def CTNb (k f : Int32) : Bool := decide ((k = 1 ∧ (f = 3 ∨ f = 4)) ∨ (k = 2 ∧ f = 3) ∨ (k = 3 ∧ (f = 1 ∨ f = 2)) ∨ (¬ k = 1 ∧ ¬ k = 2 ∧ ¬ k = 3 ∧ 1 ≤ f ∧ f ≤ 5))
theorem CTN_iff {k f : Int32} : CTN k f ↔ CTNb k f = true := ⟨fun h => by unfold CTNb; rw [decide_eq_true_iff]; exact h, fun h => by unfold CTNb at h; rw [decide_eq_true_iff] at h; exact h⟩
theorem CTN_rng {k f : Int32} (h : CTN k f) : 0 ≤ f.toInt ∧ f.toInt < 6 := by
  rcases h with ⟨_, h | h⟩ | ⟨_, h⟩ | ⟨_, h | h⟩ | ⟨_, _, _, h1, h2⟩
  · rw [h]; decide
  · rw [h]; decide
  · rw [h]; decide
  · rw [h]; decide
  · rw [h]; decide
  · rw [Int32.le_iff_toInt_le, tl_1] at h1
    rw [Int32.le_iff_toInt_le, tl_5] at h2
    omega
def trnC (S : Sx) (x f z : Int32) : Int32 := if isL S x then (if CTNb (LTR S (cl x) 2) f = true then (if inR z (-500) 500 then (if ¬ z = 0 then (if LTR S (cl x) 15 = f then (if inR (FLDv (LTR S (cl x)) f + z - ORIG (LTR S (cl x))) (-10000) 10000 then 0 else 2) else (if LTR S (cl x) 15 = -1 then 0 else 3)) else 2) else 2) else 2) else 1
def okSent (g : Row) : Prop := g 15 = -1 → ∀ i, i < 6 → g (9 + i) = g (3 + i)
def twiC (S : Sx) (x : Int32) : Int32 := if isL S x then (if S.nt.length < 60 then 0 else 2) else 1
def mkR (p b y : Int32) : Row := fun j => if j = 0 then p else if j = 1 then b else y
theorem PRI_spec (p b : Int32) : ∀ (rs : List Row) (j : Nat), (PRI p b rs j = -1) ∨ ∃ i r, rs[i]? = some r ∧ PRI p b rs j = nI (j + i) ∧ r 0 = p ∧ r 1 = b
  | [], j => Or.inl rfl
  | r :: rs, j => by
    unfold PRI
    by_cases c : r 0 = p ∧ r 1 = b
    · rw [if_pos c]
      exact Or.inr ⟨0, r, rfl, rfl, c.1, c.2⟩
    · rw [if_neg c]
      rcases PRI_spec p b rs (j + 1) with h | ⟨i, r9, h1, h2, h3⟩
      · exact Or.inl h
      · exact Or.inr ⟨i + 1, r9, h1, by rw [h2, show j + 1 + i = j + (i + 1) by omega], h3⟩
def allC (S : Sx) (x y p b : Int32) : Int32 := if isE x ∧ isE y then (if ¬ x = y then (if inR p 0 255 then (if inR b 0 8 then (if PRI (TOPB p b) b (S.rt (cl x)) 0 = -1 ∧ 8 ≤ (S.rt (cl x)).length then 3 else 0) else 2) else 2) else 2) else 1
def ALR (rs : List Row) (p b y : Int32) : List Row := if PRI p b rs 0 = -1 then rs ++ [mkR p b y] else rs.set (cl (PRI p b rs 0)) (mkR p b y)
theorem allC_X {S : Sx} {x y p b : Int32} {X : String} {μ μ' : Mem} (h : μ = μ' ∧ ((X = xIOB ∧ ¬ (isE x ∧ isE y)) ∨ (X = xIAE ∧ isE x ∧ isE y ∧ x = y))) : PX3 xIOB xIAE xISE (allC S x y p b) μ X μ' := ⟨h.1, h.2.elim (fun z => Or.inl ⟨z.1, if_neg z.2⟩) (fun z => Or.inr (Or.inl ⟨z.1, (if_pos ⟨z.2.1, z.2.2.1⟩).trans (if_neg fun k => k z.2.2.2)⟩))⟩
theorem FrS.pt2 {W : Nat → Prop} {μ μ' : Mem} {p fa : Nat} (hk : μ'.kd = μ.kd) (hs : ∀ q, q ≠ p → q ≠ fa → SameAt μ μ' q) (hp : W (μ.kd p)) (hf : W (μ.kd fa)) : FrS W μ μ' := fun q => by
  by_cases c1 : q = p
  · subst c1
    exact ⟨fun _ hn => absurd hp hn, fun _ => Or.inr (by rw [hk]; exact hp)⟩
  · by_cases c2 : q = fa
    · subst c2
      exact ⟨fun _ hn => absurd hf hn, fun _ => Or.inr (by rw [hk]; exact hf)⟩
    · exact ⟨fun _ _ => hs q c1 c2, fun h => by rw [hk]; exact h⟩

end
