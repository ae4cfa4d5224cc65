section
theorem code_if {p : Prop} [Decidable p] {a c : Int32} (h : (if p then a else c) = 0) (hc : ¬ c = 0) : p ∧ a = 0 := by
  by_cases hp : p
  · rw [if_pos hp] at h
    exact ⟨hp, h⟩
  · rw [if_neg hp] at h
    exact absurd h hc
theorem endC_E {x : Int32} (h : endC x = 0) : isE x := (code_if h (by decide)).1
theorem st_pass {d : Nat} {S S' : Sx} (h : okI (d + 1) S) (hs : St_pass S S') : okI d S' := by
  obtain ⟨x, hx, rfl⟩ := hs
  unfold passC at hx
  obtain ⟨c1, hx⟩ := code_if hx (by decide)
  obtain ⟨c2, -⟩ := code_if hx (by decide)
  obtain ⟨H, R, h1, h2, h3, h4⟩ := h.down
  obtain ⟨b1, b2, b3, b4, b5, b6, b7, b8⟩ := h3
  have x1 : (1 : Int32).toInt ≤ x.toInt := c1.1
  rw [show (1 : Int32).toInt = 1 from by decide] at x1
  have x2 : x.toInt ≤ (60 : Int32).toInt := c1.2
  rw [show (60 : Int32).toInt = 60 from by decide] at x2
  have e : (S.sc 0 + x : Int32).toInt = (S.sc 0).toInt + x.toInt := fb_addI (by omega) (by omega)
  exact ⟨H, R, h1, h2, ⟨by
    show 0 ≤ (S.sc 0 + x : Int32).toInt ∧ (S.sc 0 + x : Int32).toInt ≤ 500000000
    omega, b2, b3, b4, b5, b6, b7, b8⟩, h4⟩
theorem st_move {d : Nat} {S S' : Sx} (h : okI (d + 1) S) (hs : St_move S S') : okI d S' := by
  obtain ⟨x, y, hx, rfl⟩ := hs
  unfold movC at hx
  obtain ⟨c1, hx⟩ := code_if hx (by decide)
  obtain ⟨c2, hx⟩ := code_if hx (by decide)
  obtain ⟨c3, -⟩ := code_if hx (by decide)
  obtain ⟨H, R, h1, h2, h3, h4⟩ := h.down
  obtain ⟨b1, b2, b3, b4, b5, b6, b7, b8⟩ := h3
  have hfree : ∀ j, j < 3 → j ≠ cl x → ¬ S.ef 0 j = y := fun j hj hne => by
    have hj9 : j = 0 ∨ j = 1 ∨ j = 2 := by omega
    rcases hj9 with rfl | rfl | rfl
    · exact c3.1.resolve_left hne
    · exact c3.2.1.resolve_left hne
    · exact c3.2.2.resolve_left hne
  refine ⟨H, R, h1, h2, ⟨b1, b2, b3, fun i j hi hj hij => ?_, fun e he => ?_, b6, b7, b8⟩, h4⟩
  · have hij : w2 S.ef 0 (cl x) y 0 i = w2 S.ef 0 (cl x) y 0 j := hij
    by_cases p1 : i = cl x
    · by_cases p2 : j = cl x
      · exact p1.trans p2.symm
      · rw [p1, w2_eq, w2_ne (fun q => p2 q.2)] at hij
        exact absurd hij.symm (hfree j hj p2)
    · by_cases p2 : j = cl x
      · rw [p2, w2_eq, w2_ne (fun q => p1 q.2)] at hij
        exact absurd hij (hfree i hi p1)
      · rw [w2_ne (fun q => p1 q.2), w2_ne (fun q => p2 q.2)] at hij
        exact b4 i j hi hj hij
  · show w2 S.ef 0 (cl x) y 1 e = 0 ∨ w2 S.ef 0 (cl x) y 1 e = 1
    rw [w2_ne (fun q => absurd q.1 (by decide))]
    exact b5 e he
theorem st_load {d : Nat} {S S' : Sx} (h : okI (d + 1) S) (hs : St_load S S') : okI d S' := by
  obtain ⟨x, z, hx, hz, rfl⟩ := hs
  obtain ⟨H, R, h1, h2, h3, h4⟩ := h.down
  obtain ⟨b1, b2, b3, b4, b5, b6, b7, b8⟩ := h3
  refine ⟨H, R, h1, h2, ⟨b1, b2, b3, fun i j hi hj hij => ?_, fun e he => ?_, b6, b7, b8⟩, h4⟩
  · have hij : w2 S.ef 1 (cl x) z 0 i = w2 S.ef 1 (cl x) z 0 j := hij
    rw [w2_ne (fun q => absurd q.1 (by decide)), w2_ne (fun q => absurd q.1 (by decide))] at hij
    exact b4 i j hi hj hij
  · show w2 S.ef 1 (cl x) z 1 e = 0 ∨ w2 S.ef 1 (cl x) z 1 e = 1
    by_cases p : e = cl x
    · rw [p, w2_eq]
      exact hz
    · rw [w2_ne (fun q => p q.2)]
      exact b5 e he
theorem TOPB_i : ∀ u, u < 256 → ∀ b, b < 9 → TOPB (TOPB (nI u) (nI b)) (nI b) = TOPB (nI u) (nI b) ∧ (TOPB (nI u) (nI b)) = nI (cl (TOPB (nI u) (nI b))) ∧ cl (TOPB (nI u) (nI b)) < 256 := by decide +kernel
theorem okI.rts {d : Nat} {S : Sx} {k : Nat} {l : List Row} (h : okI (d + 1) S) (hl : ∀ r ∈ l, r ∈ S.rt k ∨ (okRw r ∧ isE (r 2) ∧ ¬ r 2 = nI k)) (hk : k < 3) : okI d (S.sRt k l) := by
  obtain ⟨H, R, h1, h2, h3, h4⟩ := h.down
  obtain ⟨b1, b2, b3, b4, b5, b6, b7, b8⟩ := h3
  refine ⟨H, R, h1, h2, ⟨b1, b2, b3, b4, b5, fun e he r hr => ?_, b7, b8⟩, h4⟩
  have hr9 : r ∈ (if e = k then l else S.rt e) := hr
  by_cases p : e = k
  · rw [if_pos p] at hr9
    subst p
    exact (hl r hr9).elim (b6 e he r) id
  · rw [if_neg p] at hr9
    exact b6 e he r hr9
theorem st_forbid {d : Nat} {S S' : Sx} (h : okI (d + 1) S) (hs : St_forbid S S') : okI d S' := by
  obtain ⟨x, p, b, hx, rfl⟩ := hs
  unfold forC at hx
  obtain ⟨c1, -⟩ := code_if hx (by decide)
  exact h.rts (fun r hr => Or.inl (List.mem_of_mem_eraseIdx hr)) c1.lt
theorem st_allow {d : Nat} {S S' : Sx} (h : okI (d + 1) S) (hs : St_allow S S') : okI d S' := by
  obtain ⟨x, y, p, b, hx, rfl⟩ := hs
  unfold allC at hx
  obtain ⟨c1, hx⟩ := code_if hx (by decide)
  obtain ⟨c2, hx⟩ := code_if hx (by decide)
  obtain ⟨c3, hx⟩ := code_if hx (by decide)
  obtain ⟨c4, -⟩ := code_if hx (by decide)
  have p1 : (0 : Int32).toInt ≤ p.toInt := c3.1
  have p2 : p.toInt ≤ (255 : Int32).toInt := c3.2
  have q1 : (0 : Int32).toInt ≤ b.toInt := c4.1
  have q2 : b.toInt ≤ (8 : Int32).toInt := c4.2
  rw [show (0 : Int32).toInt = 0 from by decide] at p1 q1
  rw [show (255 : Int32).toInt = 255 from by decide] at p2
  rw [show (8 : Int32).toInt = 8 from by decide] at q2
  have ep := cl_eq (x := p) (by omega)
  have eb := cl_eq (x := b) (by omega)
  have hp : p = nI (cl p) := cl_nI (by omega)
  have hb : b = nI (cl b) := cl_nI (by omega)
  obtain ⟨t1, t2, t3⟩ := TOPB_i (cl p) (by omega) (cl b) (by omega)
  rw [← hp, ← hb] at t1 t2 t3
  have hnew : okRw (mkR (TOPB p b) b y) ∧ isE (mkR (TOPB p b) b y 2) ∧ ¬ mkR (TOPB p b) b y 2 = nI (cl x) := by
    refine ⟨⟨cl (TOPB p b), cl b, t3, by omega, t2, hb, ?_⟩, c1.2, fun q => c2 ?_⟩
    · rw [← t2, ← hb]
      exact t1
    · have q : y = nI (cl x) := q
      rw [q]
      exact c1.1.nI
  refine h.rts (fun r hr => ?_) c1.1.lt
  unfold ALR at hr
  split at hr
  · rcases List.mem_append.mp hr with hr | hr
    · exact Or.inl hr
    · rw [List.mem_singleton.mp hr]
      exact Or.inr hnew
  · rcases List.mem_or_eq_of_mem_set hr with hr | rfl
    · exact Or.inl hr
    · exact Or.inr hnew
end
