section
/-- the ghost grows by a reply of a new number -/
theorem DKo.exR {H : GhH} {R R' : GhR} {N i K : Nat} (h : DKo H R i K) (hR : ∀ j, j ≠ N → R' j = R j) (hN : H N = none ∧ R N = none) : DKo H R' i K := by
  have hi : i ≠ N := fun e => by
    subst e
    rcases h.1 with ⟨x, q⟩ | ⟨x, q⟩
    · rw [hN.2] at q; cases q
    · rw [hN.1] at q; cases q
  refine ⟨h.1.imp (fun ⟨x, q⟩ => ⟨x, (hR i hi).trans q⟩) id, fun i9 b a q => h.2.1 i9 b a ((hR i hi).symm.trans q), fun a b s q => ?_⟩
  obtain ⟨n, y1, y2⟩ := h.2.2 a b s q
  exact ⟨n, (hR n (fun e => by rw [e, hN.2] at y1; cases y1)).trans y1, y2⟩
theorem Lgh.exR {H : GhH} {R R' : GhR} {N : Nat} {g : Row} (h : Lgh H R g) (hR : ∀ j, j ≠ N → R' j = R j) (hN : H N = none ∧ R N = none) : Lgh H R' g := by
  obtain ⟨K, kL, k1, k2, k3, k4⟩ := h
  refine ⟨K, kL, k1, fun e => ?_, k3, fun e => ?_⟩
  · obtain ⟨n, h, b, a, y1, y⟩ := k2 e
    exact ⟨n, h, b, a, (hR n (fun e => by rw [e, hN.2] at y1; cases y1)).trans y1, y⟩
  · obtain ⟨⟨i, hi, y1, y2⟩, y3⟩ := k4 e
    exact ⟨⟨i, hi, y1, y2.exR hR hN⟩, y3⟩
end
