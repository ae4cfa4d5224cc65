section
/-- what neither hellos nor their answers look at -/
theorem okJ.lf {H : GhH} {R : GhR} {d : Nat} {S : Sx} {f a b : Nat} {v : Int32} (h : okJ H R d S) (h1 : f ≠ 1) (h2 : f ≠ 2) : okJ H R d (S.sLf f a b v) := by
  obtain ⟨⟨g1, g2, g3⟩, f2, ⟨b1, b2, b3, b4, b5, b6, b7, b8⟩, h4⟩ := h
  refine ⟨⟨g1, fun n i b9 a9 q => ?_, g3⟩, f2, ⟨b1, b2, b3, b4, b5, b6, b7, fun a9 b9 ha hb => ?_⟩, h4⟩
  · obtain ⟨y1, y2, y3, s, y4, y5⟩ := g2 n i b9 a9 q
    refine ⟨y1, y2, y3, s, y4, ?_⟩
    show s ≤ w3 S.lf f a b v 1 b9 a9
    rw [w3_ne (fun e => h1 e.1.symm)]
    exact y5
  · show -1 ≤ (w3 S.lf f a b v 2 a9 b9).toInt ∧ (w3 S.lf f a b v 2 a9 b9).toInt + d ≤ 2000000600
    rw [w3_ne (fun e => h2 e.1.symm)]
    exact b8 a9 b9 ha hb
/-- delivering counts alone -/
theorem okI.dlf {d : Nat} {S : Sx} {v : Int32} (h : okI d S) : okI d (DLF S v) := by
  obtain ⟨H, R, h1, h2, h3, h4⟩ := h
  exact ⟨H, R, h1, h2, h3, h4⟩
theorem okJ.cookie {H : GhH} {R : GhR} {d : Nat} {S : Sx} {e : Nat} {g : Row} {c : Int32} (h : okJ H R d S) (hg : 0 < (g 3).toInt ∧ (g 3).toInt < 1000000) (hc : 0 ≤ c.toInt ∧ c.toInt < 65521) : okJ H R d (COOS S e g c) := by
  refine okJ.post h ?_
  have hm := MIX_lt [3, (NAME e : Int), (TAGR g).toInt]
  refine ⟨CKEY e (TAGR g), LT1.mk (fs' := [g 3, c]) (MIX_pos _) hm (Or.inr (Or.inr (Or.inl rfl))) rfl (fun i hi => ?_) rfl (fun i hi => ?_), fun e => absurd (show (3 : Int32) = 1 from e) (by decide), fun e => absurd (show (3 : Int32) = 2 from e) (by decide), fun _ => hg.1, fun e => absurd (show (3 : Int32) = 4 from e) (by decide)⟩
  · have hi : i < 2 := hi
    have hi9 : i = 0 ∨ i = 1 := by omega
    rcases hi9 with rfl | rfl <;> rfl
  · have hi8 : i = 0 ∨ i = 1 ∨ i = 2 ∨ i = 3 ∨ i = 4 ∨ i = 5 := by omega
    rcases hi8 with rfl | rfl | rfl | rfl | rfl | rfl
    · show -2100000000 ≤ (g 3).toInt ∧ (g 3).toInt ≤ 2100000000
      omega
    · show -2100000000 ≤ c.toInt ∧ c.toInt ≤ 2100000000
      omega
    · have := SEALN_b (CKEY e (TAGR g)) 3 [g 3, c]
      show -2100000000 ≤ (SEALN (CKEY e (TAGR g)) 3 [g 3, c]).toInt ∧ (SEALN (CKEY e (TAGR g)) 3 [g 3, c]).toInt ≤ 2100000000
      omega
    · show -2100000000 ≤ (0 : Int32).toInt ∧ (0 : Int32).toInt ≤ 2100000000
      decide
    · show -2100000000 ≤ (0 : Int32).toInt ∧ (0 : Int32).toInt ≤ 2100000000
      decide
    · show -2100000000 ≤ (0 : Int32).toInt ∧ (0 : Int32).toInt ≤ 2100000000
      decide
end
