section
/-- a seat taken anew, or left -/
theorem G2.seat {H : GhH} {R : GhR} {S : Sx} {a b w : Nat} {v : Option Ses} (h : G2 H R S) (hv : ∀ r', v = some r' → a ≠ b ∧ (SeR R a b r' ∨ SeI R a b r') ∧ SAL r' ∧ okTk r' ∧ 0 ≤ (r'.1 5).toInt ∧ (∀ e9 b9 w9 r9, e9 < 3 → b9 < 3 → w9 < 3 → ¬ (e9 = a ∧ b9 = b ∧ w9 = w) → S.ses e9 b9 w9 = some r9 → ¬ r9.1 0 = r'.1 0) ∧ ∀ a9 b9 f, a9 < 3 → b9 < 3 → S.fl a9 b9 = some f → ¬ f 0 = r'.1 0) : G2 H R (S.sSes a b w v) := by
  obtain ⟨f1, f2, f3, f4⟩ := h
  have key : ∀ e9 b9 w9 r9, (S.sSes a b w v).ses e9 b9 w9 = some r9 → (e9 = a ∧ b9 = b ∧ w9 = w ∧ v = some r9) ∨ (¬ (e9 = a ∧ b9 = b ∧ w9 = w) ∧ S.ses e9 b9 w9 = some r9) := fun e9 b9 w9 r9 h9 => by
    have h9 : w3 S.ses a b w v e9 b9 w9 = some r9 := h9
    by_cases p : e9 = a ∧ b9 = b ∧ w9 = w
    · obtain ⟨rfl, rfl, rfl⟩ := p
      rw [w3_eq] at h9
      exact Or.inl ⟨rfl, rfl, rfl, h9⟩
    · rw [w3_ne p] at h9
      exact Or.inr ⟨p, h9⟩
  refine ⟨f1, fun e9 b9 w9 r9 he hb9 hw9 h9 => ?_, fun e9 b9 w9 e8 b8 w8 r9 r8 he hb9 hw9 he8 hb8 hw8 h9 h8 h0 => ?_, fun a9 b9 f e9 b8 w9 r9 ha9 hb9 he9 hb8 hw9 hf h9 h0 => ?_⟩
  · rcases key e9 b9 w9 r9 h9 with ⟨rfl, rfl, rfl, q⟩ | ⟨-, q⟩
    · obtain ⟨y1, y2, y3, y4, y5, -⟩ := hv _ q
      exact ⟨y1, y2, y3, y4, y5⟩
    · exact f2 _ _ _ _ he hb9 hw9 q
  · rcases key e9 b9 w9 r9 h9 with ⟨rfl, rfl, rfl, q⟩ | ⟨p, q⟩
    · rcases key e8 b8 w8 r8 h8 with ⟨rfl, rfl, rfl, q8⟩ | ⟨p8, q8⟩
      · exact ⟨rfl, rfl, rfl⟩
      · exact absurd h0.symm ((hv _ q).2.2.2.2.2.1 _ _ _ _ he8 hb8 hw8 p8 q8)
    · rcases key e8 b8 w8 r8 h8 with ⟨rfl, rfl, rfl, q8⟩ | ⟨p8, q8⟩
      · exact absurd h0 ((hv _ q8).2.2.2.2.2.1 _ _ _ _ he hb9 hw9 p q)
      · exact f3 _ _ _ _ _ _ _ _ he hb9 hw9 he8 hb8 hw8 q q8 h0
  · rcases key e9 b8 w9 r9 h9 with ⟨rfl, rfl, rfl, q⟩ | ⟨p, q⟩
    · exact (hv _ q).2.2.2.2.2.2 _ _ _ ha9 hb9 hf h0
    · exact f4 _ _ _ _ _ _ _ ha9 hb9 he9 hb8 hw9 hf q h0
end
