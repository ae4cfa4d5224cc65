section
theorem SAL_new (r : Row) (h8 : r 8 = 0) (h7 : r 7 = -1) (h5 : r 5 = 0) : SAL (r, 0) ∧ okTk (r, 0) ∧ 0 ≤ (r 5).toInt := by
  refine ⟨⟨(show BITC 0 = (0 : Int32) from by decide +kernel).trans h8.symm, fun q => ?_, fun _ => rfl, ?_⟩, Or.inl ⟨?_, h7⟩, ?_⟩
  · have q : 0 ≤ r 7 := q
    rw [h7] at q
    exact absurd q (by decide)
  · show r 5 ≤ 40
    rw [h5]
    decide
  · show r 8 ≤ 0
    rw [h8]
    decide
  · rw [h5]
    decide
/-- a new session of the one who answers: the number is new -/
theorem okJ.reply {H : GhH} {R : GhR} {d : Nat} {S : Sx} {e a h : Nat} {g : Row} {s : Int32} (hJ : okJ H R (d + 1) S) (he : e < 3) (ha : a < 3) (hea : e ≠ a) (hH : H h = some (a, e, s)) (g3 : g 3 = nI h) (g4 : g 4 = nI (PW 7 (SEC h))) (hs : s ≤ S.lf 1 e a) (hun : ∀ n b9 a9, ¬ R n = some (h, b9, a9)) : okI d (REPS S e a (HKT e a g) g) := by
  obtain ⟨h1, h2, h3, h4⟩ := hJ
  obtain ⟨hN, hN0, hNn⟩ := h3.hn
  obtain ⟨t1, t2⟩ := h1.top
  obtain ⟨b1, b2, b3, b4, b5, b6, b7, b8⟩ := h3
  have o1 : (1 : Int32).toInt = 1 := by decide
  have eN : (HNUM S + 1 : Int32).toInt = (HNUM S).toInt + 1 := (fb_addI (x := HNUM S) (y := 1) (by rw [o1]; omega) (by rw [o1]; omega)).trans (by rw [o1])
  have eN2 := cl_eq (x := HNUM S) (by omega)
  have eN3 := cl_eq (x := (HNUM S + 1 : Int32)) (by omega)
  have hk : HKT e a g = HKY a e (SEC h) := HKT_o g4
  have hp7 := PW_lt 7 (SEC h)
  have hK : RKY S a (HKT e a g) g = RKo h (cl (HNUM S)) e a := by
    unfold RKY RKo HSEC
    rw [hk, g4, cl_of (by omega)]
  have hRN : ∀ j, j ≠ cl (HNUM S) → (fun j => if j = cl (HNUM S) then some (h, e, a) else R j) j = R j := fun j hj => if_neg hj
  have hRe : ∀ n x, R n = some x → (fun j => if j = cl (HNUM S) then some (h, e, a) else R j) n = some x := fun n x q => (hRN n (fun q9 => by rw [q9, t2] at q; cases q)).trans q
  have hSe : ∀ e9 b9 r, (SeR R e9 b9 r ∨ SeI R e9 b9 r) → (SeR (fun j => if j = cl (HNUM S) then some (h, e, a) else R j) e9 b9 r ∨ SeI (fun j => if j = cl (HNUM S) then some (h, e, a) else R j) e9 b9 r) ∧ ∃ i, i < cl (HNUM S) ∧ r.1 0 = nI i := fun e9 b9 r q => by
    rcases q with ⟨n, j, a0, a1, a2⟩ | ⟨n, j, a0, a1, a2⟩
    · exact ⟨Or.inl ⟨n, j, hRe _ _ a0, a1, a2⟩, n, (h1.2.1 _ _ _ _ a0).2.1, a1⟩
    · obtain ⟨s9, y, -⟩ := (h1.2.1 _ _ _ _ a0).2.2.2
      exact ⟨Or.inr ⟨n, j, hRe _ _ a0, a1, a2⟩, j, (h1.1 _ _ _ _ y).2.1, a1⟩
  have hhN : h < cl (HNUM S) := (h1.1 _ _ _ _ hH).2.1
  have hG1 : ∀ S' : Sx, S'.sc 1 = HNUM S → S'.lf = S.lf → G1 H (fun j => if j = cl (HNUM S) then some (h, e, a) else R j) S' := fun S' q1 q2 => by
    have q3 : HNUM S' = HNUM S + 1 := by unfold HNUM; rw [q1]; rfl
    refine ⟨fun i a9 b9 s9 q => ?_, fun n i b9 a9 q => ?_, fun n n' i b9 a9 b8 a8 q q' => ?_⟩
    · have y := h1.1 _ _ _ _ q
      rw [q3]
      exact ⟨y.1, by omega, y.2.2⟩
    · rw [q3, q2]
      by_cases p : n = cl (HNUM S)
      · have q : (if n = cl (HNUM S) then some (h, e, a) else R n) = some (i, b9, a9) := q
        rw [if_pos p] at q
        cases q
        exact ⟨by omega, by omega, by rw [p]; exact t1, s, hH, hs⟩
      · have q : (if n = cl (HNUM S) then some (h, e, a) else R n) = some (i, b9, a9) := q
        rw [if_neg p] at q
        have y := h1.2.1 _ _ _ _ q
        exact ⟨y.1, by omega, y.2.2⟩
    · have q : (if n = cl (HNUM S) then some (h, e, a) else R n) = some (i, b9, a9) := q
      have q' : (if n' = cl (HNUM S) then some (h, e, a) else R n') = some (i, b8, a8) := q'
      by_cases p : n = cl (HNUM S)
      · by_cases p' : n' = cl (HNUM S)
        · rw [p, p']
        · rw [if_pos p] at q
          rw [if_neg p'] at q'
          cases q
          exact absurd q' (hun _ _ _)
      · by_cases p' : n' = cl (HNUM S)
        · rw [if_neg p] at q
          rw [if_pos p'] at q'
          cases q'
          exact absurd q (hun _ _ _)
        · rw [if_neg p] at q
          rw [if_neg p'] at q'
          exact h1.2.2 _ _ _ _ _ _ _ q q'
  have fresh : ∀ i x, i < cl (HNUM S) → x = nI i → ¬ x = HNUM S := fun i x q1 q2 q3 => by
    rw [q2, hNn] at q3
    have := nI_ij (by omega) (by omega) q3
    omega
  have hnew : Lgh H (fun j => if j = cl (HNUM S) then some (h, e, a) else R j) (REPR S e a (HKT e a g) g) := by
    have hm := MIX_lt [4, ((HKY a e (SEC h) : Nat) : Int), (PW (PW 7 (SEC h)) (SEC (cl (HNUM S))) : Int), (PW (NAME a) (SEC (cl (HNUM S))) : Int)]
    have hp := PW_lt 7 (HSEC S)
    refine ⟨RKo h (cl (HNUM S)) e a, ?_, fun e => absurd (show (2 : Int32) = 1 from e) (by decide), fun _ => ⟨cl (HNUM S), h, e, a, if_pos rfl, hNn, g3, rfl, rfl⟩, fun e => absurd (show (2 : Int32) = 3 from e) (by decide), fun e => absurd (show (2 : Int32) = 4 from e) (by decide)⟩
    unfold REPR
    rw [hK]
    refine LT1.mk (fs' := [HNUM S, g 3, nI (PW 7 (HSEC S))]) (MIX_pos _) hm (Or.inr (Or.inl rfl)) rfl (fun i hi => ?_) rfl (fun i hi => ?_)
    · have hi : i < 3 := hi
      have hi9 : i = 0 ∨ i = 1 ∨ i = 2 := by omega
      rcases hi9 with rfl | rfl | rfl <;> rfl
    · have hi8 : i = 0 ∨ i = 1 ∨ i = 2 ∨ i = 3 ∨ i = 4 ∨ i = 5 := by omega
      rcases hi8 with rfl | rfl | rfl | rfl | rfl | rfl
      · show -2100000000 ≤ (HNUM S).toInt ∧ (HNUM S).toInt ≤ 2100000000
        omega
      · show -2100000000 ≤ (g 3).toInt ∧ (g 3).toInt ≤ 2100000000
        rw [g3, nIi (by omega)]
        omega
      · show -2100000000 ≤ (nI (PW 7 (HSEC S))).toInt ∧ (nI (PW 7 (HSEC S))).toInt ≤ 2100000000
        rw [nIi (by omega)]
        omega
      · have := SEALN_b (RKo h (cl (HNUM S)) e a) 2 [HNUM S, g 3, nI (PW 7 (HSEC S))]
        show -2100000000 ≤ (SEALN (RKo h (cl (HNUM S)) e a) 2 [HNUM S, g 3, nI (PW 7 (HSEC S))]).toInt ∧ (SEALN (RKo h (cl (HNUM S)) e a) 2 [HNUM S, g 3, nI (PW 7 (HSEC S))]).toInt ≤ 2100000000
        omega
      · show -2100000000 ≤ (0 : Int32).toInt ∧ (0 : Int32).toInt ≤ 2100000000
        decide
      · show -2100000000 ≤ (0 : Int32).toInt ∧ (0 : Int32).toInt ≤ 2100000000
        decide
  refine ⟨H, (fun j => if j = cl (HNUM S) then some (h, e, a) else R j), hG1 _ rfl rfl, G2.seat ⟨h2.1, fun e9 b9 w9 r9 he9 hb9 hw9 q => ?_, h2.2.2.1, h2.2.2.2⟩ (fun r' q => ?_), ⟨b1, ⟨?_, ?_⟩, (show S.ou.length + d ≤ 512 by omega), b4, b5, b6, b7, fun a9 b9 ha9 hb9 => ⟨(b8 a9 b9 ha9 hb9).1, ?_⟩⟩, fun g9 hm => ?_⟩
  · have y := h2.2.1 e9 b9 w9 r9 he9 hb9 hw9 q
    exact ⟨y.1, (hSe _ _ _ y.2.1).1, y.2.2⟩
  · cases q
    refine ⟨hea, Or.inl ⟨cl (HNUM S), h, if_pos rfl, hNn, g3, ?_, ?_, rfl⟩, (SAL_new _ rfl rfl rfl).1, (SAL_new _ rfl rfl rfl).2.1, (SAL_new _ rfl rfl rfl).2.2, fun e9 b9 w9 r9 he9 hb9 hw9 _ q => ?_, fun a9 b9 f ha9 hb9 q => ?_⟩
    · show nI (MIX [5, (RKY S a (HKT e a g) g : Int), 1]) = _
      rw [hK]
    · show nI (MIX [5, (RKY S a (HKT e a g) g : Int), 0]) = _
      rw [hK]
    · obtain ⟨i, q1, q2⟩ := (hSe _ _ _ (h2.2.1 e9 b9 w9 r9 he9 hb9 hw9 q).2.1).2
      exact fresh i _ q1 q2
    · obtain ⟨i, s9, y1, y2, -⟩ := h2.1 a9 b9 f ha9 hb9 q
      exact fresh i _ (h1.1 _ _ _ _ y1).2.1 y2
  · show 0 < (HNUM S + 1 : Int32).toInt
    omega
  · show (HNUM S + 1 : Int32).toInt + d ≤ 600
    omega
  · have := (b8 a9 b9 ha9 hb9).2
    show (S.lf 2 a9 b9).toInt + d ≤ 2000000600
    omega
  · have hm9 : g9 ∈ (if S.nt.length < 60 then S.nt ++ [REPR S e a (HKT e a g) g] else S.nt) := hm
    have old : ∀ g9 ∈ S.nt, Lgh H (fun j => if j = cl (HNUM S) then some (h, e, a) else R j) g9 := fun g9 q => (h4 g9 q).exR hRN ⟨t1, t2⟩
    split at hm9
    · rcases List.mem_append.mp hm9 with q | q
      · exact old g9 q
      · rw [List.mem_singleton.mp q]
        exact hnew
    · exact old g9 hm9
end
