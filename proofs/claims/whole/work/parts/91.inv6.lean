section
def okJ (H : GhH) (R : GhR) (d : Nat) (S : Sx) : Prop := G1 H R S ∧ G2 H R S ∧ G3 d S ∧ ∀ g ∈ S.nt, Lgh H R g
theorem okJ.I {H : GhH} {R : GhR} {d : Nat} {S : Sx} (h : okJ H R d S) : okI d S := ⟨H, R, h⟩
theorem okJ.post {H : GhH} {R : GhR} {d : Nat} {S : Sx} {g : Row} (h : okJ H R d S) (hg : Lgh H R g) : okJ H R d (POSTS S g) := by
  obtain ⟨h1, h2, h3, h4⟩ := h
  refine ⟨h1, h2, h3, fun g9 hm => ?_⟩
  have hm9 : g9 ∈ (if S.nt.length < 60 then S.nt ++ [g] else S.nt) := hm
  split at hm9
  · rcases List.mem_append.mp hm9 with q | q
    · exact h4 g9 q
    · rw [List.mem_singleton.mp q]
      exact hg
  · exact h4 g9 hm9
/-- the same session, further on -/
def SaS (r r' : Ses) : Prop := r'.1 0 = r.1 0 ∧ r'.1 1 = r.1 1 ∧ r'.1 3 = r.1 3 ∧ r'.1 4 = r.1 4 ∧ r'.1 6 = r.1 6
theorem SaS.R {R : GhR} {e b : Nat} {r r' : Ses} (h : SaS r r') (hr : SeR R e b r) : SeR R e b r' := by
  obtain ⟨n, i, a0, a1, a2, a3, a4, a5⟩ := hr
  obtain ⟨s0, s1, s3, s4, s6⟩ := h
  exact ⟨n, i, a0, s0.trans a1, s1.trans a2, s3.trans a3, s4.trans a4, s6.trans a5⟩
theorem SaS.I {R : GhR} {e b : Nat} {r r' : Ses} (h : SaS r r') (hr : SeI R e b r) : SeI R e b r' := by
  obtain ⟨n, i, a0, a1, a2, a3, a4, a5⟩ := hr
  obtain ⟨s0, s1, s3, s4, s6⟩ := h
  exact ⟨n, i, a0, s0.trans a1, s1.trans a2, s3.trans a3, s4.trans a4, s6.trans a5⟩
theorem okJ.bump {H : GhH} {R : GhR} {d : Nat} {S : Sx} {a b w : Nat} {r r' : Ses} (h : okJ H R d S) (ha : a < 3) (hb : b < 3) (hw : w < 3) (hs : S.ses a b w = some r) (hr : SaS r r') (hS : SAL r') (hT : okTk r') (h5 : 0 ≤ (r'.1 5).toInt) : okJ H R d (S.sSes a b w (some r')) := by
  obtain ⟨h1, ⟨f1, f2, f3, f4⟩, h3, h4⟩ := h
  have key : ∀ e9 b9 w9 r9, (S.sSes a b w (some r')).ses e9 b9 w9 = some r9 → ∃ r8, S.ses e9 b9 w9 = some r8 ∧ r9.1 0 = r8.1 0 ∧ ((e9 = a ∧ b9 = b ∧ w9 = w ∧ r9 = r') ∨ r9 = r8) := fun e9 b9 w9 r9 h9 => by
    have h9 : w3 S.ses a b w (some r') e9 b9 w9 = some r9 := h9
    by_cases p : e9 = a ∧ b9 = b ∧ w9 = w
    · obtain ⟨rfl, rfl, rfl⟩ := p
      rw [w3_eq] at h9
      cases h9
      exact ⟨r, hs, hr.1, Or.inl ⟨rfl, rfl, rfl, rfl⟩⟩
    · rw [w3_ne p] at h9
      exact ⟨r9, h9, rfl, Or.inr rfl⟩
  refine ⟨h1, ⟨f1, fun e9 b9 w9 r9 he hb9 hw9 h9 => ?_, fun e9 b9 w9 e8 b8 w8 r9 r8 he hb9 hw9 he8 hb8 hw8 h9 h8 h0 => ?_, fun a9 b9 f e9 b8 w9 r9 ha9 hb9 he9 hb8 hw9 hf h9 h0 => ?_⟩, h3, h4⟩
  · obtain ⟨r8, y1, y2, y3⟩ := key e9 b9 w9 r9 h9
    rcases y3 with ⟨rfl, rfl, rfl, rfl⟩ | rfl
    · have q := f2 _ _ _ _ he hb9 hw9 hs
      exact ⟨q.1, q.2.1.imp hr.R hr.I, hS, hT, h5⟩
    · exact f2 _ _ _ _ he hb9 hw9 y1
  · obtain ⟨q1, y1, y2, -⟩ := key e9 b9 w9 r9 h9
    obtain ⟨q2, z1, z2, -⟩ := key e8 b8 w8 r8 h8
    exact f3 _ _ _ _ _ _ _ _ he hb9 hw9 he8 hb8 hw8 y1 z1 (y2.symm.trans (h0.trans z2))
  · obtain ⟨q1, y1, y2, -⟩ := key e9 b8 w9 r9 h9
    exact f4 _ _ _ _ _ _ _ ha9 hb9 he9 hb8 hw9 hf y1 (h0.trans y2)
/-- what may be carried -/
def okXyz (x y z : Int32) : Prop := (x = -1 ∧ y = -1 ∧ z = -1) ∨ (okInn x ∧ (0 ≤ y.toInt ∧ y.toInt ≤ 10000) ∧ (0 ≤ z.toInt ∧ z.toInt ≤ 10000))
theorem Se_key {H : GhH} {R : GhR} {S : Sx} (h1 : G1 H R S) (hN : cl (HNUM S) < 1000000) {a b : Nat} {r : Ses} (h : SeR R a b r ∨ SeI R a b r) : ∃ i vs, i < 1000000 ∧ r.1 1 = nI i ∧ r.1 3 = nI (MIX vs) ∧ DKo H R i (MIX vs) := by
  rcases h with ⟨n, j, a0, a1, a2, a3, a4, a5⟩ | ⟨n, j, a0, a1, a2, a3, a4, a5⟩
  · have z := h1.nR hN a0
    refine ⟨j, _, z.2.2.2, a2, a3, Or.inr (by obtain ⟨-, -, -, s, y, -⟩ := h1.2.1 _ _ _ _ a0; exact ⟨_, y⟩), fun h b9 a9 q => ?_, fun a9 b9 s q => ?_⟩
    · obtain ⟨-, -, -, s, y, -⟩ := h1.2.1 _ _ _ _ a0
      rw [(h1.2.1 _ _ _ _ q).2.2.1] at y
      cases y
    · obtain ⟨-, -, -, s, y, -⟩ := h1.2.1 _ _ _ _ a0
      cases y.symm.trans q
      exact ⟨n, a0, rfl⟩
  · have z := h1.nR hN a0
    refine ⟨n, _, z.2.1, a2, a3, Or.inl ⟨_, a0⟩, fun h b9 a9 q => ?_, fun a9 b9 s q => ?_⟩
    · cases a0.symm.trans q
      rfl
    · rw [(h1.2.1 _ _ _ _ a0).2.2.1] at q
      cases q
theorem okInn_b {x : Int32} (h : okInn x) : 0 ≤ x.toInt ∧ x.toInt ≤ 10000 := by
  obtain ⟨n, hn, rfl⟩ := h
  rw [nIi (by omega)]
  omega
theorem SEALN_b (K : Nat) (k : Int32) (fs : List Int32) : 0 ≤ (SEALN K k fs).toInt ∧ (SEALN K k fs).toInt < 65521 := by
  have := SEALc_rng K k.toInt (fun i => (fs.getD i 0).toInt) fs.length
  unfold SEALN
  rw [nI_toInt (by omega)]
  omega
theorem okJ.data {H : GhH} {R : GhR} {d : Nat} {S : Sx} {a b : Nat} {r : Ses} {x y z : Int32} (h : okJ H R d S) (ha : a < 3) (hb : b < 3) (hs : S.ses a b 1 = some r) (h5 : (r.1 5).toInt < 40) (hx : okXyz x y z) : okJ H R d (DATS S a b r x y z) := by
  obtain ⟨h1, h2, h3, h4⟩ := h
  obtain ⟨hN, hN0, hNn⟩ := h3.hn
  obtain ⟨q1, q2, q3, q4, q5⟩ := h2.2.1 a b 1 r ha hb (by decide) hs
  have o1 : (1 : Int32).toInt = 1 := by decide
  have e5 : (r.1 5 + 1 : Int32).toInt = (r.1 5).toInt + 1 := (fb_addI (x := r.1 5) (y := 1) (by rw [o1]; omega) (by rw [o1]; omega)).trans (by rw [o1])
  have hbump : okJ H R d (S.sSes a b 1 (some (u1 r.1 5 (r.1 5 + 1), r.2))) := okJ.bump ⟨h1, h2, h3, h4⟩ ha hb (by decide) hs ⟨rfl, rfl, rfl, rfl, rfl⟩ ⟨q3.1, q3.2.1, q3.2.2.1, by
    show (r.1 5 + 1 : Int32) ≤ 40
    rw [Int32.le_iff_toInt_le, e5]
    show _ ≤ (40 : Int)
    omega⟩ q4 (by
    show 0 ≤ (r.1 5 + 1 : Int32).toInt
    omega)
  refine okJ.post hbump ?_
  obtain ⟨i, vs, i1, i2, i3, i4⟩ := Se_key h1 hN q2
  have hm := MIX_lt vs
  have hcl : cl (r.1 3) = MIX vs := by rw [i3, cl_of (by omega)]
  have hi9 : (r.1 1).toInt = (i : Int) := by rw [i2, nIi i1]
  have hx3 : (-1 ≤ x.toInt ∧ x.toInt ≤ 10000) ∧ (-1 ≤ y.toInt ∧ y.toInt ≤ 10000) ∧ (-1 ≤ z.toInt ∧ z.toInt ≤ 10000) := by
    rcases hx with ⟨rfl, rfl, rfl⟩ | ⟨x1, x2, x3⟩
    · decide
    · have := okInn_b x1
      omega
  refine ⟨MIX vs, ?_, fun e => absurd (show (4 : Int32) = 1 from e) (by decide), fun e => absurd (show (4 : Int32) = 2 from e) (by decide), fun e => absurd (show (4 : Int32) = 3 from e) (by decide), fun _ => ⟨⟨i, i1, i2, i4⟩, ⟨by show 0 ≤ (r.1 5).toInt ∧ (r.1 5).toInt < 40; omega, fun e => ?_, fun e => ?_⟩⟩⟩
  · unfold DATR
    rw [i3, cl_of (by omega)]
    refine LT1.mk (fs' := [r.1 1, r.1 5, x, y, z]) (MIX_pos vs) hm (Or.inr (Or.inr (Or.inr rfl))) rfl (fun i hi => ?_) rfl (fun i hi => ?_)
    · have hi9 : i = 0 ∨ i = 1 ∨ i = 2 ∨ i = 3 ∨ i = 4 := by simp at hi; omega
      rcases hi9 with rfl | rfl | rfl | rfl | rfl <;> rfl
    · have hi8 : i = 0 ∨ i = 1 ∨ i = 2 ∨ i = 3 ∨ i = 4 ∨ i = 5 := by omega
      rcases hi8 with rfl | rfl | rfl | rfl | rfl | rfl
      · show -2100000000 ≤ (r.1 1).toInt ∧ (r.1 1).toInt ≤ 2100000000
        omega
      · show -2100000000 ≤ (r.1 5).toInt ∧ (r.1 5).toInt ≤ 2100000000
        omega
      · show -2100000000 ≤ x.toInt ∧ x.toInt ≤ 2100000000
        omega
      · show -2100000000 ≤ y.toInt ∧ y.toInt ≤ 2100000000
        omega
      · show -2100000000 ≤ z.toInt ∧ z.toInt ≤ 2100000000
        omega
      · have := SEALN_b (MIX vs) 4 [r.1 1, r.1 5, x, y, z]
        show -2100000000 ≤ (SEALN (MIX vs) 4 [r.1 1, r.1 5, x, y, z]).toInt ∧ (SEALN (MIX vs) 4 [r.1 1, r.1 5, x, y, z]).toInt ≤ 2100000000
        omega
  · have e : x = -1 := e
    rcases hx with ⟨-, x2, x3⟩ | ⟨x1, -⟩
    · exact ⟨x2, x3⟩
    · have := okInn_b x1
      rw [e] at this
      exact absurd this.1 (by decide)
  · rcases hx with ⟨x1, -⟩ | ⟨x1, -⟩
    · exact absurd x1 e
    · exact x1
theorem okJ.down {H : GhH} {R : GhR} {d : Nat} {S : Sx} (h : okJ H R (d + 1) S) : okJ H R d S := ⟨h.1, h.2.1, h.2.2.1.down, h.2.2.2⟩
theorem USE_5 {S : Sx} {a b : Nat} {r : Ses} (h : USE S a b = some r) : S.ses a b 1 = some r ∧ (r.1 5).toInt < 40 := by
  unfold USE at h
  split at h
  · cases h
  · rename_i r9 h9
    split at h
    · rename_i hc
      cases h
      exact ⟨h9, by have := Int32.lt_iff_toInt_lt.mp hc.2; exact this⟩
    · cases h
theorem st_keep {d : Nat} {S S' : Sx} (h : okI (d + 1) S) (hs : St_keep S S') : okI d S' := by
  obtain ⟨x, y, r, hx, hu, rfl⟩ := hs
  unfold pairC at hx
  obtain ⟨c1, -⟩ := code_if hx (by decide)
  obtain ⟨H, R, h⟩ := h
  obtain ⟨u1, u2⟩ := USE_5 hu
  exact (okJ.data (okJ.down h) c1.1.lt c1.2.lt u1 u2 (Or.inl ⟨rfl, rfl, rfl⟩)).I
end
