section
theorem nI_ij {a b : Nat} (ha : a < 2 ^ 31) (hb : b < 2 ^ 31) (h : nI a = nI b) : a = b := by
  have h1 := congrArg Int32.toInt h
  rw [nI_toInt ha, nI_toInt hb] at h1
  omega
theorem nI_nm1 {a : Nat} (ha : a < 2 ^ 31) : ¬ nI a = -1 := fun h => by
  have h1 := congrArg Int32.toInt h
  rw [nI_toInt ha, show (-1 : Int32).toInt = -1 from by decide] at h1
  omega
theorem SEALc_one6 {K : Nat} (h0 : 0 < K) (h1 : K < 65521) {g g' : Nat → Int} {f n : Nat} {k : Int} (hf : ¬ (g f) % 65521 = (g' f) % 65521) (hs : ∀ j, j < n → j ≠ f → g j = g' j) (hn : f < n) : ¬ SEALc K k g n = SEALc K k g' n := by
  have e1 : SEALc K k g n = SEALc K k (fun j => if j < n then g j else 0) n := by
    unfold SEALc
    rw [hzs_cong (K : Int) (g := g) (g' := fun j => if j < n then g j else 0) n 0 (fun j hj => (if_pos (show j < n by omega)).symm)]
  have e2 : SEALc K k g' n = SEALc K k (fun j => if j < n then g' j else 0) n := by
    unfold SEALc
    rw [hzs_cong (K : Int) (g := g') (g' := fun j => if j < n then g' j else 0) n 0 (fun j hj => (if_pos (show j < n by omega)).symm)]
  rw [e1, e2]
  refine SEALc_one h0 h1 (f := f) ?_ (fun j hj => ?_) hn
  · show ¬ (if f < n then g f else 0) % 65521 = (if f < n then g' f else 0) % 65521
    rw [if_pos hn, if_pos hn]
    exact hf
  · show (if j < n then g j else 0) = (if j < n then g' j else 0)
    by_cases c : j < n
    · rw [if_pos c, if_pos c]
      exact hs j c hj
    · rw [if_neg c, if_neg c]
/-- the seal of what was sent -/
def SEALO (K : Nat) (r : Row) : Int32 := nI (SEALc K (r 2).toInt (fun i => (r (9 + i)).toInt) (TPn (r 2))).toNat
/-- a letter in the net and its own key -/
def LT1 (g : Row) (K : Nat) : Prop := (0 < K ∧ K < 65521) ∧ g 16 = nI K ∧ okG g ∧ okSent g ∧ (g 15 = -1 ∨ CTNb (g 2) (g 15) = true) ∧ g (9 + TPn (g 2)) = SEALO K g
theorem CT_rng {k f : Int32} (h : CTNb k f = true) (hk : k = 1 ∨ k = 2 ∨ k = 3 ∨ k = 4) : 1 ≤ f.toInt ∧ f.toInt ≤ (TPn k : Int) ∧ TPn k < 6 := by
  unfold CTNb at h
  have h9 := of_decide_eq_true h
  rcases h9 with ⟨rfl, rfl | rfl⟩ | ⟨rfl, rfl⟩ | ⟨rfl, rfl | rfl⟩ | ⟨h1, h2, h3, h4, h5⟩
  · decide
  · decide
  · decide
  · decide
  · decide
  · have e : k = 4 := by
      rcases hk with h | h | h | h
      · exact absurd h h1
      · exact absurd h h2
      · exact absurd h h3
      · exact h
    subst e
    rw [Int32.le_iff_toInt_le] at h4 h5
    exact ⟨h4, h5, by decide⟩
theorem SEAL_nI {K : Nat} {k : Int} {g g' : Nat → Int} {n : Nat} (h : nI (SEALc K k g n).toNat = nI (SEALc K k g' n).toNat) : SEALc K k g n = SEALc K k g' n := by
  have r1 := SEALc_rng K k g n
  have r2 := SEALc_rng K k g' n
  have := nI_ij (by omega) (by omega) h
  omega
/-- a letter that is right by its own key is as it was sent -/
theorem LT1.same {g : Row} {K : Nat} (h : LT1 g K) (ht : TAGR g = SEALR K g) : ∀ i, i < 6 → g (9 + i) = g (3 + i) := by
  obtain ⟨⟨h0, h1⟩, -, ⟨hk, -, ho, hd⟩, -, hc, hs⟩ := h
  intro i hi
  refine Decidable.byContradiction fun c => ?_
  have hn : g 15 = nI i := Decidable.byContradiction fun c2 => c (ho i hi c2)
  have hct : CTNb (g 2) (nI i) = true := by
    rcases hc with h | h
    · rw [hn] at h
      exact absurd h (nI_nm1 (by omega))
    · rw [hn] at h
      exact h
  obtain ⟨c1, c2, c3⟩ := CT_rng hct hk
  rw [nI_toInt (by omega)] at c1 c2
  have hoth : ∀ j, j < 6 → j ≠ i → g (9 + j) = g (3 + j) := fun j hj hji => ho j hj (fun h => hji (nI_ij (by omega) (by omega) (h.symm.trans hn)))
  by_cases ci : i = TPn (g 2)
  · have e : SEALR K g = SEALO K g := by
      unfold SEALR SEALO SEALc
      rw [hzs_cong (K : Int) (TPn (g 2)) 0 (g := fun i => (g (3 + i)).toInt) (g' := fun i => (g (9 + i)).toInt) (fun j hj => by rw [hoth j (by omega) (by omega)])]
    rw [e, ← hs] at ht
    exact c (by rw [ci]; exact ht.symm)
  · have e : TAGR g = SEALO K g := (hoth (TPn (g 2)) c3 (fun h => ci h.symm)).symm.trans hs
    rw [e] at ht
    obtain ⟨⟨d1, d2⟩, -⟩ := hd i hi
    refine SEALc_one6 h0 h1 (g := fun i => (g (9 + i)).toInt) (g' := fun i => (g (3 + i)).toInt) (f := i) ?_ (fun j hj hji => by rw [hoth j (by omega) hji]) (by omega) (SEAL_nI ht)
    show ¬ (g (9 + i)).toInt % 65521 = (g (3 + i)).toInt % 65521
    have hne : (g (9 + i)).toInt ≠ (g (3 + i)).toInt := fun h => c (Int32.toInt_inj.mp h)
    omega
theorem LT1.dif {g : Row} {K : Nat} (h : LT1 g K) (hd : DIF g) : ¬ TAGR g = SEALR K g := fun ht => by
  have h6 := h.same ht
  obtain ⟨-, -, ⟨hk, -, -, -⟩, -, hc, -⟩ := h
  obtain ⟨d1, d2⟩ := hd
  obtain ⟨c1, c2, c3⟩ := CT_rng (hc.resolve_left d1) hk
  have e := cl_eq (x := g 15) (by omega)
  refine d2 ?_
  unfold FLDv ORIG
  rw [if_pos ⟨by omega, by omega⟩, if_neg d1]
  exact (h6 (cl (g 15)) (by omega)).symm
end
