section
theorem DKo.ext {H H' : GhH} {R : GhR} {N i K : Nat} (h : DKo H R i K) (hH : ∀ j, j ≠ N → H' j = H j) (hN : H N = none ∧ R N = none) : DKo H' R i K := by
  have hi : i ≠ N := fun e => by
    subst e
    rcases h.1 with ⟨x, q⟩ | ⟨x, q⟩
    · rw [hN.2] at q; cases q
    · rw [hN.1] at q; cases q
  refine ⟨h.1.imp id (fun ⟨x, q⟩ => ⟨x, (hH i hi).trans q⟩), h.2.1, fun a b s q => h.2.2 a b s ((hH i hi).symm.trans q)⟩
theorem Lgh.ext {H H' : GhH} {R : GhR} {N : Nat} {g : Row} (h : Lgh H R g) (hH : ∀ j, j ≠ N → H' j = H j) (hN : H N = none ∧ R N = none) : Lgh H' R g := by
  obtain ⟨K, kL, k1, k2, k3, k4⟩ := h
  refine ⟨K, kL, fun e => ?_, k2, k3, fun e => ?_⟩
  · obtain ⟨h, a, b, s, y1, y⟩ := k1 e
    refine ⟨h, a, b, s, (hH h (fun q => ?_)).trans y1, y⟩
    rw [q, hN.1] at y1
    cases y1
  · obtain ⟨⟨i, hi, y1, y2⟩, y3⟩ := k4 e
    exact ⟨⟨i, hi, y1, y2.ext hH hN⟩, y3⟩
theorem G1.top {H : GhH} {R : GhR} {S : Sx} (h : G1 H R S) : H (cl (HNUM S)) = none ∧ R (cl (HNUM S)) = none := by
  refine ⟨?_, ?_⟩
  · cases q : H (cl (HNUM S)) with
    | none => rfl
    | some x =>
      obtain ⟨a, b, s⟩ := x
      have := (h.1 _ _ _ _ q).2.1
      omega
  · cases q : R (cl (HNUM S)) with
    | none => rfl
    | some x =>
      obtain ⟨i, b, a⟩ := x
      have := (h.2.1 _ _ _ _ q).2.1
      omega
theorem HSTA_b {S : Sx} {a b d : Nat} (hT : okT S) (h : -1 ≤ (S.lf 2 a b).toInt ∧ (S.lf 2 a b).toInt + (d + 1 : Nat) ≤ 2000000600) (hd : d ≤ 600) : 0 ≤ (HSTA S a b).toInt ∧ (HSTA S a b).toInt + d ≤ 2000000600 := by
  have o1 : (1 : Int32).toInt = 1 := by decide
  have e1 : (S.lf 2 a b + 1 : Int32).toInt = (S.lf 2 a b).toInt + 1 := (fb_addI (x := S.lf 2 a b) (y := 1) (by rw [o1]; omega) (by rw [o1]; omega)).trans (by rw [o1])
  have e4 : (4 * S.sc 0 : Int32).toInt = 4 * (S.sc 0).toInt := by
    rw [Int32.toInt_mul, show (4 : Int32).toInt = 4 from by decide]
    exact Int.bmod_eq_of_le (by omega) (by omega)
  unfold HSTA
  split
  · rw [e1]
    omega
  · rw [e4]
    omega
theorem okJ.hello {H : GhH} {R : GhR} {d : Nat} {S : Sx} {a b : Nat} (h : okJ H R (d + 1) S) (ha : a < 3) (hb : b < 3) (hab : a ≠ b) : okI d (HELS S a b) := by
  obtain ⟨h1, h2, h3, h4⟩ := h
  obtain ⟨hN, hN0, hNn⟩ := h3.hn
  obtain ⟨t1, t2⟩ := h1.top
  obtain ⟨b1, b2, b3, b4, b5, b6, b7, b8⟩ := h3
  have hst := HSTA_b (a := a) (b := b) (d := d) b1 (b8 a b ha hb) (by omega)
  have o1 : (1 : Int32).toInt = 1 := by decide
  have eN : (HNUM S + 1 : Int32).toInt = (HNUM S).toInt + 1 := (fb_addI (x := HNUM S) (y := 1) (by rw [o1]; omega) (by rw [o1]; omega)).trans (by rw [o1])
  have eN2 := cl_eq (x := HNUM S) (by omega)
  have eN3 := cl_eq (x := (HNUM S + 1 : Int32)) (by omega)
  have hHN : ∀ j, j ≠ cl (HNUM S) → (fun j => if j = cl (HNUM S) then some (a, b, HSTA S a b) else H j) j = H j := fun j hj => if_neg hj
  refine (okJ.post (S := ((S.sSc 1 (HNUM S)).sLf 2 a b (HSTA S a b)).sFl a b (some (mkF (HNUM S) (nI (HSEC S)) (HTAG S a b) (S.sc 0)))) (H := fun j => if j = cl (HNUM S) then some (a, b, HSTA S a b) else H j) (R := R) ⟨⟨fun h9 a9 b9 s9 q => ?_, fun n h9 b9 a9 q => ?_, h1.2.2⟩, ⟨fun a9 b9 f ha9 hb9 q => ?_, fun e b9 w r he hb9 hw q => h2.2.1 e b9 w r he hb9 hw q, fun e b9 w e' b' w' r r' => h2.2.2.1 e b9 w e' b' w' r r', fun a9 b9 f e b' w r ha9 hb9 he hb' hw q q' => ?_⟩, ⟨b1, ⟨?_, ?_⟩, (show S.ou.length + d ≤ 512 by omega), b4, b5, b6, b7, fun a9 b9 ha9 hb9 => ?_⟩, fun g hg => (h4 g hg).ext hHN ⟨t1, t2⟩⟩ ?_).I
  · show 0 < h9 ∧ h9 < cl (HNUM S + 1) ∧ a9 < 3 ∧ b9 < 3 ∧ a9 ≠ b9
    by_cases p : h9 = cl (HNUM S)
    · have q : (if h9 = cl (HNUM S) then some (a, b, HSTA S a b) else H h9) = some (a9, b9, s9) := q
      rw [if_pos p] at q
      cases q
      exact ⟨by omega, by omega, ha, hb, hab⟩
    · have q : (if h9 = cl (HNUM S) then some (a, b, HSTA S a b) else H h9) = some (a9, b9, s9) := q
      rw [if_neg p] at q
      have y := h1.1 _ _ _ _ q
      exact ⟨y.1, by omega, y.2.2⟩
  · obtain ⟨y1, y2, y3, s, y4, y5⟩ := h1.2.1 _ _ _ _ q
    refine ⟨y1, by show n < cl (HNUM S + 1); omega, (hHN n (by omega)).trans y3, s, (hHN h9 (fun e => ?_)).trans y4, ?_⟩
    · rw [e, t1] at y4
      cases y4
    · show s ≤ w3 S.lf 2 a b (HSTA S a b) 1 b9 a9
      rw [w3_ne (fun e => absurd e.1 (by decide))]
      exact y5
  · have q : w2 S.fl a b _ a9 b9 = some f := q
    by_cases p : a9 = a ∧ b9 = b
    · obtain ⟨rfl, rfl⟩ := p
      rw [w2_eq] at q
      cases q
      exact ⟨cl (HNUM S), HSTA S a9 b9, if_pos rfl, hNn, rfl⟩
    · rw [w2_ne p] at q
      obtain ⟨i, s, y1, y⟩ := h2.1 a9 b9 f ha9 hb9 q
      refine ⟨i, s, (hHN i (fun e => ?_)).trans y1, y⟩
      rw [e, t1] at y1
      cases y1
  · have q : w2 S.fl a b _ a9 b9 = some f := q
    have q' : S.ses e b' w = some r := q'
    by_cases p : a9 = a ∧ b9 = b
    · obtain ⟨rfl, rfl⟩ := p
      rw [w2_eq] at q
      cases q
      intro e0
      have e0 : HNUM S = r.1 0 := e0
      rcases (h2.2.1 e b' w r he hb' hw q').2.1 with ⟨n, j, a0, a1, -⟩ | ⟨n, j, a0, a1, -⟩
      · have z := h1.2.1 _ _ _ _ a0
        rw [hNn, a1] at e0
        have := nI_ij (by omega) (by omega) e0
        omega
      · have z := h1.2.1 _ _ _ _ a0
        obtain ⟨s, y1, -⟩ := z.2.2.2
        have z2 := h1.1 _ _ _ _ y1
        rw [hNn, a1] at e0
        have := nI_ij (by omega) (by omega) e0
        omega
    · rw [w2_ne p] at q
      exact h2.2.2.2 a9 b9 f e b' w r ha9 hb9 he hb' hw q q'
  · show 0 < (HNUM S + 1 : Int32).toInt
    omega
  · show (HNUM S + 1 : Int32).toInt + d ≤ 600
    omega
  · show -1 ≤ (w3 S.lf 2 a b (HSTA S a b) 2 a9 b9).toInt ∧ (w3 S.lf 2 a b (HSTA S a b) 2 a9 b9).toInt + d ≤ 2000000600
    by_cases p : 2 = 2 ∧ a9 = a ∧ b9 = b
    · obtain ⟨-, rfl, rfl⟩ := p
      rw [w3_eq]
      omega
    · rw [w3_ne p]
      have := b8 a9 b9 ha9 hb9
      omega
  · have hp := PW_lt 7 (HSEC S)
    have hm := MIX_lt [1, (PW (NAME b) (HSEC S) : Int), (PW (NAME b) (211 + 307 * a) : Int)]
    refine ⟨HKY a b (HSEC S), LT1.mk (fs' := HF4 S a b) (MIX_pos _) hm (Or.inl rfl) rfl (fun i hi => ?_) rfl (fun i hi => ?_), fun _ => ⟨cl (HNUM S), a, b, HSTA S a b, if_pos rfl, hNn, rfl, rfl, rfl, rfl⟩, fun e => absurd (show (1 : Int32) = 2 from e) (by decide), fun e => absurd (show (1 : Int32) = 3 from e) (by decide), fun e => absurd (show (1 : Int32) = 4 from e) (by decide)⟩
    · have hi : i < 4 := hi
      have hi9 : i = 0 ∨ i = 1 ∨ i = 2 ∨ i = 3 := by omega
      rcases hi9 with rfl | rfl | rfl | rfl <;> rfl
    · have hi8 : i = 0 ∨ i = 1 ∨ i = 2 ∨ i = 3 ∨ i = 4 ∨ i = 5 := by omega
      rcases hi8 with rfl | rfl | rfl | rfl | rfl | rfl
      · show -2100000000 ≤ (HNUM S).toInt ∧ (HNUM S).toInt ≤ 2100000000
        omega
      · show -2100000000 ≤ (nI (PW 7 (HSEC S))).toInt ∧ (nI (PW 7 (HSEC S))).toInt ≤ 2100000000
        rw [nIi (by omega)]
        omega
      · show -2100000000 ≤ (nI (10 * a + b)).toInt ∧ (nI (10 * a + b)).toInt ≤ 2100000000
        rw [nIi (by omega)]
        omega
      · show -2100000000 ≤ (HSTA S a b).toInt ∧ (HSTA S a b).toInt ≤ 2100000000
        omega
      · show -2100000000 ≤ (HTAG S a b).toInt ∧ (HTAG S a b).toInt ≤ 2100000000
        have := SEALN_b (HKY a b (HSEC S)) 1 (HF4 S a b)
        unfold HTAG
        omega
      · show -2100000000 ≤ (HPRO S a b (HTAG S a b)).toInt ∧ (HPRO S a b (HTAG S a b)).toInt ≤ 2100000000
        unfold HPRO
        split
        · decide
        · have := MIX_lt [2, (YCK S a b).toInt, (HTAG S a b).toInt]
          rw [nIi (by omega)]
          omega
end
