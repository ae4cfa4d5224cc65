section
theorem G3.down {d : Nat} {S : Sx} (h : G3 (d + 1) S) : G3 d S := by
  obtain ⟨b1, b2, b3, b4, b5, b6, b7, b8⟩ := h
  exact ⟨b1, ⟨b2.1, by omega⟩, by omega, b4, b5, b6, b7, fun a b ha hb => ⟨(b8 a b ha hb).1, by have := (b8 a b ha hb).2; omega⟩⟩
theorem okI.down {d : Nat} {S : Sx} (h : okI (d + 1) S) : okI d S := by
  obtain ⟨H, R, h1, h2, h3, h4⟩ := h
  exact ⟨H, R, h1, h2, h3.down, h4⟩
theorem okI_0 : okI 512 S0 := by
  refine ⟨fun _ => none, fun _ => none, ⟨fun h a b s e => (by cases e), fun n h b a e => (by cases e), fun n n' h b a b' a' e => (by cases e)⟩, ⟨fun a b f _ _ e => (by cases e), fun e b w r _ _ _ q => (by cases q), fun e b w e' b' w' r r' _ _ _ _ _ _ q => (by cases q), fun a b f e b' w r _ _ _ _ _ q => (by cases q)⟩, ⟨(by decide), (by decide), (by decide), fun i j hi hj h => ?_, fun e he => Or.inl rfl, fun e he r hr => (by cases hr), fun a b ha hb => ⟨Nat.zero_le _, fun p hp => (by cases hp)⟩, fun a b ha hb => (show -1 ≤ (0 : Int32).toInt ∧ (0 : Int32).toInt + ((512 : Nat) : Int) ≤ 2000000600 from by decide)⟩, fun g hg => (by cases hg)⟩
  have h9 : nI (10 + 10 * i) = nI (10 + 10 * j) := h
  have := nI_ij (by omega) (by omega) h9
  omega
theorem LTR_mem {S : Sx} {x : Int32} (h : isL S x) : LTR S (cl x) ∈ S.nt := by
  have h1 := cl_eq (x := x) h.1
  have h2 := h.2
  have h3 : cl x < S.nt.length := by omega
  unfold LTR
  rw [List.getElem?_eq_getElem h3]
  exact List.getElem_mem h3
theorem okI.net {d : Nat} {S : Sx} {l : List Row} (h : okI (d + 1) S) (hl : ∀ (H : GhH) (R : GhR), (∀ g ∈ S.nt, Lgh H R g) → ∀ g ∈ l, Lgh H R g) : okI d (S.sNt l) := by
  obtain ⟨H, R, h1, h2, h3, h4⟩ := h
  exact ⟨H, R, h1, h2, h3.down, hl H R h4⟩
theorem Lgh.row {H : GhH} {R : GhR} {g g' : Row} (h : Lgh H R g) (he : ∀ j, 2 ≤ j → j < 17 → g' j = g j) : Lgh H R g' := by
  obtain ⟨K, kL, k1, k2, k3, k4⟩ := h
  have e2 := he 2 (by decide) (by decide)
  refine ⟨K, kL.row he, fun e => ?_, fun e => ?_, fun e => ?_, fun e => ?_⟩
  · obtain ⟨h, a, b, s, y1, y2, y3, y4, y5, y6⟩ := k1 (e2.symm.trans e)
    exact ⟨h, a, b, s, y1, (he 3 (by decide) (by decide)).trans y2, (he 4 (by decide) (by decide)).trans y3, (he 5 (by decide) (by decide)).trans y4, (he 12 (by decide) (by decide)).trans y5, y6⟩
  · obtain ⟨n, h, b, a, y1, y2, y3, y4, y5⟩ := k2 (e2.symm.trans e)
    exact ⟨n, h, b, a, y1, (he 3 (by decide) (by decide)).trans y2, (he 4 (by decide) (by decide)).trans y3, (he 5 (by decide) (by decide)).trans y4, y5⟩
  · rw [he 3 (by decide) (by decide)]
    exact k3 (e2.symm.trans e)
  · obtain ⟨⟨i, hi, y1, y2⟩, y3⟩ := k4 (e2.symm.trans e)
    refine ⟨⟨i, hi, (he 3 (by decide) (by decide)).trans y1, y2⟩, ?_⟩
    unfold okDo
    rw [he 10 (by decide) (by decide), he 11 (by decide) (by decide), he 12 (by decide) (by decide), he 13 (by decide) (by decide)]
    exact y3
theorem Lgh.turn {H : GhH} {R : GhR} {g : Row} {f z : Int32} (h : Lgh H R g) (hf : CTNb (g 2) f = true) (hz : inR z (-500) 500) (hc9 : (g 15 = f ∧ inR (FLDv g f + z - ORIG g) (-10000) 10000) ∨ g 15 = -1) : Lgh H R (TRN g f z) := by
  obtain ⟨K, kL, k1, k2, k3, k4⟩ := h
  obtain ⟨c1, c2, c3⟩ := CT_rng hf kL.2.2.1.1
  have hcl := cl_eq (x := f) (by omega)
  have tO : ∀ j, j ≠ 15 → j ≠ 3 + cl f → TRN g f z j = g j := fun j a b => by unfold TRN; rw [u1_nq b, u1_nq a]
  have e2 := tO 2 (by decide) (by omega)
  have e3 := tO 3 (by decide) (by omega)
  have h9 := of_decide_eq_true hf
  refine ⟨K, kL.turn hf hz hc9, fun e => ?_, fun e => ?_, fun e => ?_, fun e => ?_⟩
  · rw [e2] at e
    obtain ⟨h, a, b, s, y1, y2, y3, y4, y5, y6⟩ := k1 e
    have hf2 : 3 ≤ cl f := by
      rw [e] at h9
      rcases h9 with ⟨-, rfl | rfl⟩ | ⟨q, -⟩ | ⟨q, -⟩ | ⟨q, -⟩
      · decide
      · decide
      · exact absurd q (by decide)
      · exact absurd q (by decide)
      · exact absurd rfl q
    exact ⟨h, a, b, s, y1, e3.trans y2, (tO 4 (by decide) (by omega)).trans y3, (tO 5 (by decide) (by omega)).trans y4, (tO 12 (by decide) (by omega)).trans y5, y6⟩
  · rw [e2] at e
    obtain ⟨n, h, b, a, y1, y2, y3, y4, y5⟩ := k2 e
    have hf2 : 3 ≤ cl f := by
      rw [e] at h9
      rcases h9 with ⟨q, -⟩ | ⟨-, rfl⟩ | ⟨q, -⟩ | ⟨-, q, -⟩
      · exact absurd q (by decide)
      · decide
      · exact absurd q (by decide)
      · exact absurd rfl q
    exact ⟨n, h, b, a, y1, e3.trans y2, (tO 4 (by decide) (by omega)).trans y3, (tO 5 (by decide) (by omega)).trans y4, y5⟩
  · rw [e3]
    rw [e2] at e
    exact k3 e
  · rw [e2] at e
    obtain ⟨⟨i, hi, y1, y2⟩, y3⟩ := k4 e
    refine ⟨⟨i, hi, e3.trans y1, y2⟩, ?_⟩
    unfold okDo
    rw [tO 10 (by decide) (by omega), tO 11 (by decide) (by omega), tO 12 (by decide) (by omega), tO 13 (by decide) (by omega)]
    exact y3
theorem st_lose {d : Nat} {S S' : Sx} (h : okI (d + 1) S) (hs : St_lose S S') : okI d S' := by
  obtain ⟨x, hx, rfl⟩ := hs
  exact h.net fun H R hg g hm => hg g (List.mem_of_mem_eraseIdx hm)
theorem letC_L {S : Sx} {x : Int32} (h : letC S x = 0) : isL S x := Classical.byContradiction fun z => by
  rw [show letC S x = 1 from if_neg z] at h
  exact absurd h (by decide)
theorem st_twice {d : Nat} {S S' : Sx} (h : okI (d + 1) S) (hs : St_twice S S') : okI d S' := by
  obtain ⟨x, hx, rfl⟩ := hs
  have hL : isL S x := Classical.byContradiction fun z => by
    rw [show twiC S x = 1 from if_neg z] at hx
    exact absurd hx (by decide)
  refine h.net fun H R hg g hm => ?_
  rcases List.mem_append.mp hm with hm | hm
  · exact hg g hm
  · rw [List.mem_singleton.mp hm]
    exact hg _ (LTR_mem hL)
theorem st_later {d : Nat} {S S' : Sx} (h : okI (d + 1) S) (hs : St_later S S') : okI d S' := by
  obtain ⟨x, hx, rfl⟩ := hs
  refine h.net fun H R hg g hm => ?_
  rcases List.mem_append.mp hm with hm | hm
  · exact hg g (List.mem_of_mem_eraseIdx hm)
  · rw [List.mem_singleton.mp hm]
    exact hg _ (LTR_mem (letC_L hx))
theorem st_reroute {d : Nat} {S S' : Sx} (h : okI (d + 1) S) (hs : St_reroute S S') : okI d S' := by
  obtain ⟨x, y, hx, rfl⟩ := hs
  have hL : isL S x := Classical.byContradiction fun z => by
    rw [show rerC S x y = 1 from if_neg z] at hx
    exact absurd hx (by decide)
  refine h.net fun H R hg g hm => ?_
  rcases List.mem_or_eq_of_mem_set hm with hm | rfl
  · exact hg g hm
  · exact (hg _ (LTR_mem hL)).row fun j h1 h2 => u1_nq (by omega)
theorem st_turn {d : Nat} {S S' : Sx} (h : okI (d + 1) S) (hs : St_turn S S') : okI d S' := by
  obtain ⟨x, f, z, hx, rfl⟩ := hs
  unfold trnC at hx
  by_cases hL : isL S x
  · rw [if_pos hL] at hx
    by_cases hc : CTNb (LTR S (cl x) 2) f = true
    · rw [if_pos hc] at hx
      by_cases hz : inR z (-500) 500
      · rw [if_pos hz] at hx
        by_cases hz0 : ¬ z = 0
        · rw [if_pos hz0] at hx
          refine h.net fun H R hg g hm => ?_
          rcases List.mem_or_eq_of_mem_set hm with hm | rfl
          · exact hg g hm
          · refine (hg _ (LTR_mem hL)).turn hc hz ?_
            by_cases h15 : LTR S (cl x) 15 = f
            · rw [if_pos h15] at hx
              refine Or.inl ⟨h15, Classical.byContradiction fun q => ?_⟩
              rw [if_neg q] at hx
              exact absurd hx (by decide)
            · rw [if_neg h15] at hx
              refine Or.inr (Classical.byContradiction fun q => ?_)
              rw [if_neg q] at hx
              exact absurd hx (by decide)
        · rw [if_neg hz0] at hx
          exact absurd hx (by decide)
      · rw [if_neg hz] at hx
        exact absurd hx (by decide)
    · rw [if_neg hc] at hx
      exact absurd hx (by decide)
  · rw [if_neg hL] at hx
    exact absurd hx (by decide)
end
