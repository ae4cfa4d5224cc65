section
/-- the greatest stamp taken grows -/
theorem okJ.lf1 {H : GhH} {R : GhR} {d : Nat} {S : Sx} {a b : Nat} {v : Int32} (h : okJ H R d S) (hv : S.lf 1 a b ≤ v) : okJ H R d (S.sLf 1 a b v) := by
  obtain ⟨⟨g1, g2, g3⟩, f2, ⟨b1, b2, b3, b4, b5, b6, b7, b8⟩, h4⟩ := h
  refine ⟨⟨g1, fun n i b9 a9 q => ?_, g3⟩, f2, ⟨b1, b2, b3, b4, b5, b6, b7, fun a9 b9 ha hb => ?_⟩, h4⟩
  · obtain ⟨y1, y2, y3, s, y4, y5⟩ := g2 n i b9 a9 q
    refine ⟨y1, y2, y3, s, y4, ?_⟩
    show s ≤ w3 S.lf 1 a b v 1 b9 a9
    by_cases p : 1 = 1 ∧ b9 = a ∧ a9 = b
    · obtain ⟨-, rfl, rfl⟩ := p
      rw [w3_eq]
      exact Int32.le_trans y5 hv
    · rw [w3_ne p]
      exact y5
  · show -1 ≤ (w3 S.lf 1 a b v 2 a9 b9).toInt ∧ (w3 S.lf 1 a b v 2 a9 b9).toInt + d ≤ 2000000600
    rw [w3_ne (fun e => absurd e.1 (by decide))]
    exact b8 a9 b9 ha hb
end
