section
theorem nIi {a : Nat} (h : a < 1000000) : (nI a).toInt = (a : Int) := nI_toInt (by omega)
theorem mix_nI (vs : List Int) : nI (MIX vs) = nI (cl (nI (MIX vs))) ∧ cl (nI (MIX vs)) < 65521 := by
  have h := MIX_lt vs
  rw [cl_of (by omega)]
  exact ⟨rfl, h⟩
theorem G1.nH {H : GhH} {R : GhR} {S : Sx} (h : G1 H R S) (hN : cl (HNUM S) < 1000000) {i a b : Nat} {s : Int32} (hi : H i = some (a, b, s)) : 0 < i ∧ i < 1000000 := ⟨(h.1 _ _ _ _ hi).1, by have := (h.1 _ _ _ _ hi).2.1; omega⟩
theorem G1.nR {H : GhH} {R : GhR} {S : Sx} (h : G1 H R S) (hN : cl (HNUM S) < 1000000) {n i a b : Nat} (hi : R n = some (i, b, a)) : 0 < n ∧ n < 1000000 ∧ 0 < i ∧ i < 1000000 := by
  obtain ⟨h1, h2, -, s, h3, -⟩ := h.2.1 _ _ _ _ hi
  have := h.nH hN h3
  exact ⟨h1, by omega, this.1, this.2⟩
/-- two sessions that name each other -/
theorem G_spa {H : GhH} {R : GhR} {S : Sx} (h : G1 H R S) (hN : cl (HNUM S) < 1000000) {e b e' b' : Nat} {r r' : Ses} (h1 : SeR R e b r ∨ SeI R e b r) (h2 : SeR R e' b' r' ∨ SeI R e' b' r') : SPA r r' := by
  intro p q
  rcases h1 with ⟨n, i, a0, a1, a2, a3, a4, a5⟩ | ⟨n, i, a0, a1, a2, a3, a4, a5⟩
  · rcases h2 with ⟨n', i', b0, b1, b2, b3, b4, b5⟩ | ⟨n', i', b0, b1, b2, b3, b4, b5⟩
    · have z1 := h.nR hN a0
      have z2 := h.nR hN b0
      rw [a2, b1] at p
      have e9 := nI_ij (by omega) (by omega) p
      obtain ⟨-, -, -, s, y, -⟩ := h.2.1 _ _ _ _ a0
      have y2 := (h.2.1 _ _ _ _ b0).2.2.1
      rw [e9, y2] at y
      cases y
    · have z1 := h.nR hN a0
      have z2 := h.nR hN b0
      rw [a1, b2] at q
      have e9 := nI_ij (by omega) (by omega) q
      subst e9
      cases a0.symm.trans b0
      rw [a3, a4, b3, b4, a5, b5]
      exact ⟨rfl, rfl, by decide⟩
  · rcases h2 with ⟨n', i', b0, b1, b2, b3, b4, b5⟩ | ⟨n', i', b0, b1, b2, b3, b4, b5⟩
    · have z1 := h.nR hN a0
      have z2 := h.nR hN b0
      rw [a2, b1] at p
      have e9 := nI_ij (by omega) (by omega) p
      subst e9
      cases a0.symm.trans b0
      rw [a3, a4, b3, b4, a5, b5]
      exact ⟨rfl, rfl, by decide⟩
    · have z1 := h.nR hN a0
      have z2 := h.nR hN b0
      rw [a2, b1] at p
      have e9 := nI_ij (by omega) (by omega) p
      obtain ⟨-, -, -, s, y, -⟩ := h.2.1 _ _ _ _ b0
      have y2 := (h.2.1 _ _ _ _ a0).2.2.1
      rw [← e9, y2] at y
      cases y
/-- data is looked at under its own key alone -/
theorem D_key {H : GhH} {R : GhR} {S : Sx} (h : G1 H R S) (hN : cl (HNUM S) < 1000000) {e b i K : Nat} {r : Ses} (hi : i < 1000000) (hK : DKo H R i K) (h1 : SeR R e b r ∨ SeI R e b r) (h0 : r.1 0 = nI i) : r.1 4 = nI K := by
  rcases h1 with ⟨n, j, a0, a1, a2, a3, a4, a5⟩ | ⟨n, j, a0, a1, a2, a3, a4, a5⟩
  · have z1 := h.nR hN a0
    rw [a1] at h0
    have e9 := nI_ij (by omega) (by omega) h0
    subst e9
    rw [a4, hK.2.1 _ _ _ a0]
  · have z1 := h.nR hN a0
    rw [a1] at h0
    have e9 := nI_ij (by omega) (by omega) h0
    subst e9
    obtain ⟨-, -, -, s, y, -⟩ := h.2.1 _ _ _ _ a0
    obtain ⟨n', y1, y2⟩ := hK.2.2 _ _ _ y
    have e8 := h.2.2 _ _ _ _ _ _ _ y1 a0
    subst e8
    rw [a4, y2]
theorem okDo.cur {g : Row} (h : okDo g) (hs : ∀ i, i < 6 → g (9 + i) = g (3 + i)) : okD g := by
  obtain ⟨h1, h2, h3⟩ := h
  rw [hs 1 (by decide)] at h1
  rw [hs 2 (by decide), hs 3 (by decide), hs 4 (by decide)] at h2
  rw [hs 2 (by decide)] at h3
  exact ⟨h1, h2, h3⟩
end
