section
theorem isE_ne {x y : Int32} (hx : isE x) (hy : isE y) (h : ¬ x = y) : cl x ≠ cl y := fun e => h (by rw [hx.nI, hy.nI, e])
theorem st_greet {d : Nat} {S S' : Sx} (h : okI (d + 1) S) (hs : St_greet S S') : okI d S' := by
  obtain ⟨x, y, hx, rfl⟩ := hs
  unfold greC at hx
  obtain ⟨c1, hx⟩ := code_if hx (by decide)
  obtain ⟨c2, -⟩ := code_if hx (by decide)
  obtain ⟨H, R, h⟩ := h
  exact okJ.hello h c1.1.lt c1.2.lt (isE_ne c1.1 c1.2 c2)
theorem okJ.gufd {H : GhH} {R : GhR} {d : Nat} {S : Sx} {a b : Nat} (h : okJ H R (d + 1) S) (ha : a < 3) (hb : b < 3) (hab : a ≠ b) : okI d (GUF S a b) := by
  unfold GUF
  split
  · exact (okJ.down h).I
  · exact h.hello ha hb hab
theorem okJ.wait {H : GhH} {R : GhR} {d : Nat} {S : Sx} {a b : Nat} {l : List Row} (h : okJ H R d S) (hl : l.length ≤ 4) (hp : ∀ p ∈ l, okPk p) : okJ H R d (S.sWt a b l) := by
  obtain ⟨h1, h2, ⟨b1, b2, b3, b4, b5, b6, b7, b8⟩, h4⟩ := h
  refine ⟨h1, h2, ⟨b1, b2, b3, b4, b5, b6, fun a9 b9 ha9 hb9 => ?_, b8⟩, h4⟩
  show (w2 S.wt a b l a9 b9).length ≤ 4 ∧ ∀ p ∈ w2 S.wt a b l a9 b9, okPk p
  by_cases p : a9 = a ∧ b9 = b
  · obtain ⟨rfl, rfl⟩ := p
    rw [w2_eq]
    exact ⟨hl, hp⟩
  · rw [w2_ne p]
    exact b7 a9 b9 ha9 hb9
theorem PTW_ok {l : List Row} {r : Row} (hl : l.length ≤ 4) (hp : ∀ p ∈ l, okPk p) (hr : okPk r) : (PTW l r).length ≤ 4 ∧ ∀ p ∈ PTW l r, okPk p := by
  unfold PTW
  split
  · refine ⟨?_, fun p hm => ?_⟩
    · rw [List.length_append, List.length_eraseIdx_of_lt (by omega), List.length_singleton]
      omega
    · rcases List.mem_append.mp hm with q | q
      · exact hp p (List.mem_of_mem_eraseIdx q)
      · rw [List.mem_singleton.mp q]
        exact hr
  · refine ⟨?_, fun p hm => ?_⟩
    · rw [List.length_append, List.length_singleton]
      omega
    · rcases List.mem_append.mp hm with q | q
      · exact hp p q
      · rw [List.mem_singleton.mp q]
        exact hr
theorem okJ.sent {H : GhH} {R : GhR} {d : Nat} {S : Sx} {a b : Nat} {s0 d0 l0 : Int32} (h : okJ H R (d + 1) S) (ha : a < 3) (hb : b < 3) (hab : a ≠ b) (hp : okPk (mkP s0 d0 l0)) : okI d (SND S a b s0 d0 l0).2 := by
  unfold SND
  split
  · have q := h.2.2.1.2.2.2.2.2.2.1 a b ha hb
    have w := PTW_ok q.1 q.2 hp
    exact okJ.gufd (okJ.wait h w.1 w.2) ha hb hab
  · rename_i r hu
    obtain ⟨u1, u2⟩ := USE_5 hu
    have hd := okJ.data h ha hb u1 u2 (x := s0) (y := d0) (z := l0) (Or.inr hp)
    by_cases c : ¬ r.1 6 = 0 ∧ (20 ≤ S.sc 0 - r.1 2 ∨ 30 ≤ r.1 5 + 1)
    · rw [if_pos c]
      exact okJ.gufd hd ha hb hab
    · rw [if_neg c]
      exact (okJ.down hd).I
theorem GVN_mem (x : Int32) : ∀ (rs : List Row) (m v : Int32), GVN x rs m v = v ∨ ∃ r ∈ rs, GVN x rs m v = r 2
  | [], m, v => Or.inl rfl
  | r :: rs, m, v => by
    unfold GVN
    split
    · rcases GVN_mem x rs (r 1) (r 2) with h | ⟨r9, h, h9⟩
      · exact Or.inr ⟨r, List.mem_cons_self, h⟩
      · exact Or.inr ⟨r9, List.mem_cons_of_mem _ h, h9⟩
    · rcases GVN_mem x rs m v with h | ⟨r9, h, h9⟩
      · exact Or.inl h
      · exact Or.inr ⟨r9, List.mem_cons_of_mem _ h, h9⟩
theorem inn_of {s : Int32} (h : inR s 0 255) : okInn s := by
  have p1 : (0 : Int32).toInt ≤ s.toInt := h.1
  have p2 : s.toInt ≤ (255 : Int32).toInt := h.2
  rw [show (0 : Int32).toInt = 0 from by decide] at p1
  rw [show (255 : Int32).toInt = 255 from by decide] at p2
  have := cl_eq (x := s) (by omega)
  exact ⟨cl s, by omega, cl_nI (by omega)⟩
theorem st_send {d : Nat} {S S' : Sx} (h : okI (d + 1) S) (hs : St_send S S') : okI d S' := by
  obtain ⟨x, s0, d0, l0, hx, hg, rfl⟩ := hs
  unfold sndC at hx
  obtain ⟨c1, hx⟩ := code_if hx (by decide)
  obtain ⟨c2, hx⟩ := code_if hx (by decide)
  obtain ⟨c3, hx⟩ := code_if hx (by decide)
  obtain ⟨c4, -⟩ := code_if hx (by decide)
  obtain ⟨H, R, h⟩ := h
  have p1 : (0 : Int32).toInt ≤ l0.toInt := c4.1
  have p2 : l0.toInt ≤ (9999 : Int32).toInt := c4.2
  rw [show (0 : Int32).toInt = 0 from by decide] at p1
  rw [show (9999 : Int32).toInt = 9999 from by decide] at p2
  refine okJ.sent h c1.lt hg.lt (fun e => ?_) ⟨inn_of c2, okInn_b (inn_of c3), by show 0 ≤ l0.toInt ∧ l0.toInt ≤ 10000; omega⟩
  rcases GVN_mem d0 (S.rt (cl x)) (-1) (-1) with q | ⟨r, hr, q⟩
  · rw [q] at hg
    exact absurd hg.1 (by decide)
  · have z := (h.2.2.1.2.2.2.2.2.1 (cl x) c1.lt r hr).2.2
    exact z (q.symm.trans (hg.nI.trans (congrArg nI e.symm)))
end
