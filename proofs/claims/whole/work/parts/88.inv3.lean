section
theorem G3.hn {d : Nat} {S : Sx} (h : G3 d S) : cl (HNUM S) < 1000000 ∧ 0 < cl (HNUM S) ∧ HNUM S = nI (cl (HNUM S)) := by
  have h1 := h.2.1
  have h2 := cl_eq (x := HNUM S) (by omega)
  exact ⟨by omega, by omega, cl_nI (by omega)⟩
theorem Lgh.lt {H : GhH} {R : GhR} {S : Sx} {g : Row} (h1 : G1 H R S) (hN : cl (HNUM S) < 1000000) (h : Lgh H R g) : okLt g := by
  obtain ⟨K, -, k1, k2, -, -⟩ := h
  refine ⟨fun e => ?_, fun e => ?_⟩
  · obtain ⟨h, a, b, s, y1, y2, y3, y4, y5, y6⟩ := k1 e
    obtain ⟨-, -, ha, hb, -⟩ := h1.1 _ _ _ _ y1
    have hp := PW_lt 7 (SEC h)
    rw [y3, cl_of (by omega)]
    exact ⟨⟨a, b, ha, hb, y4⟩, rfl, hp⟩
  · obtain ⟨n, h, b, a, y1, y2, y3, y4, y5⟩ := k2 e
    have hp := PW_lt 7 (SEC n)
    rw [y4, cl_of (by omega)]
    exact ⟨rfl, hp⟩
theorem Lgh.lm {H : GhH} {R : GhR} {S : Sx} {g : Row} (h1 : G1 H R S) (h2 : G2 H R S) (hN : cl (HNUM S) < 1000000) (h : Lgh H R g) : okLM S g := by
  have hl := h.lt h1 hN
  obtain ⟨K, kL, k1, k2, k3, k4⟩ := h
  rcases kL.2.2.1.1 with e | e | e | e
  · exact Or.inl ⟨e, (hl.1 e).1, (hl.1 e).2.1⟩
  · obtain ⟨n, h, b, a, y1, y2, y3, y4, y5⟩ := k2 e
    have z := h1.nR hN y1
    refine Or.inr (Or.inl ⟨e, ?_, (hl.2 e).1⟩)
    rw [y3, nIi (by omega)]
    omega
  · exact Or.inr (Or.inr (Or.inl ⟨e, k3 e⟩))
  · refine Or.inr (Or.inr (Or.inr ⟨e, fun e9 b w r he hb hw hs h0 ht => ?_⟩))
    obtain ⟨⟨i, hi, y1, y2⟩, y3⟩ := k4 e
    have hk := D_key h1 hN hi y2 (h2.2.1 _ _ _ _ he hb hw hs).2.1 (h0.trans y1)
    have hK : cl (r.1 4) = K := by rw [hk, cl_of (by have := kL.1; omega)]
    rw [hK] at ht
    exact y3.cur (kL.same ht)
theorem okI_A {d : Nat} {S : Sx} (h : okI (d + 1) S) : okA S := by
  obtain ⟨H, R, h1, h2, h3, h4⟩ := h
  obtain ⟨hN, hN0, hNn⟩ := h3.hn
  obtain ⟨b1, b2, b3, b4, b5, b6, b7, b8⟩ := h3
  have fln : ∀ a b f, a < 3 → b < 3 → S.fl a b = some f → f 1 = nI (cl (f 1)) ∧ 0 < (f 0).toInt ∧ a ≠ b := fun a b f ha hb hf => by
    obtain ⟨h, s, y1, y2, y3⟩ := h2.1 a b f ha hb hf
    have z := h1.nH hN y1
    have := SEC_lt h
    rw [y3, y2, cl_of (by omega), nIi (by omega)]
    exact ⟨rfl, by omega, (h1.1 _ _ _ _ y1).2.2.2.2⟩
  have sek : ∀ e b w r, e < 3 → b < 3 → w < 3 → S.ses e b w = some r → (r.1 3 = nI (cl (r.1 3)) ∧ cl (r.1 3) < 65521) ∧ (r.1 4 = nI (cl (r.1 4)) ∧ cl (r.1 4) < 65521) := fun e b w r he hb hw hs => by
    rcases (h2.2.1 e b w r he hb hw hs).2.1 with ⟨n, j, a0, a1, a2, a3, a4, a5⟩ | ⟨n, j, a0, a1, a2, a3, a4, a5⟩
    · rw [a3, a4]; exact ⟨mix_nI _, mix_nI _⟩
    · rw [a3, a4]; exact ⟨mix_nI _, mix_nI _⟩
  refine ⟨b1, ⟨⟨by omega, by omega⟩, fun e he => ⟨fun b f hb hf => (fln e b f he hb hf).1, fun b w r hb hw hs => ?_, fun b hb => (b7 e b he hb).1, ?_⟩, fun g hg => (h4 g hg).lt h1 hN⟩,
    ⟨b4, ⟨by omega, by omega⟩, fun e he => ?_, fun e b f he hb hf => ⟨(fln e b f he hb hf).2.1, (fln e b f he hb hf).1⟩, by omega, fun e he r hr => (b6 e he r hr).1, fun e w he hw => ?_, fun e b b' w w' r r' he hb hb' hw hw' hs hs' h0 => ?_, fun e b w r he hb hw hs => ⟨(sek e b w r he hb hw hs).1, (sek e b w r he hb hw hs).2, (h2.2.1 e b w r he hb hw hs).2.2.2.1⟩⟩,
    fun g hg => (h4 g hg).lm h1 h2 hN, fun g hg => ?_, fun g hg => ?_, b5, fun a b w r ha hb hw hs => ?_, fun e he r hr => (b6 e he r hr).2.1, fun g hg hd => ?_, fun i hi r hr => ?_⟩
  · obtain ⟨s1, s2⟩ := sek e b w r he hb hw hs
    exact ⟨⟨_, s1.2, s1.1⟩, ⟨_, s2.2, s2.1⟩⟩
  · have : (OUT e S.ou).length ≤ S.ou.length := List.length_filter_le _ _
    omega
  · cases hf : S.fl e e with
    | none => rfl
    | some f => exact absurd rfl (fln e e f he he hf).2.2
  · cases hs : S.ses e e w with
    | none => rfl
    | some r => exact absurd rfl (h2.2.1 e e w r he he hw hs).1
  · obtain ⟨-, q1, q2⟩ := h2.2.2.1 e b w e b' w' r r' he hb hw he hb' hw' hs hs' h0
    exact ⟨q1, q2⟩
  · obtain ⟨K, kL, -⟩ := h4 g hg
    exact kL.2.2.1
  · obtain ⟨K, kL, -⟩ := h4 g hg
    exact kL.2.2.2.1
  · rcases (h2.2.1 a b w r ha hb hw hs).2.1 with ⟨n, j, a0, a1, a2, a3, a4, a5⟩ | ⟨n, j, a0, a1, a2, a3, a4, a5⟩
    · exact Or.inl a5
    · exact Or.inr a5
  · obtain ⟨K, kL, -⟩ := h4 g hg
    exact ⟨K, kL.2.1, kL.1.2, kL.dif hd⟩
  · have q := h2.2.1 _ _ _ _ (show i / 9 < 3 by omega) (show i / 3 % 3 < 3 by omega) (show i % 3 < 3 by omega) hr
    refine ⟨q.2.2.1, fun k hk r' hr' => ?_⟩
    have q' := h2.2.1 _ _ _ _ (show k / 9 < 3 by omega) (show k / 3 % 3 < 3 by omega) (show k % 3 < 3 by omega) hr'
    refine ⟨fun h0 => ?_, G_spa h1 hN q.2.1 q'.2.1⟩
    obtain ⟨z1, z2, z3⟩ := h2.2.2.1 _ _ _ _ _ _ _ _ (show i / 9 < 3 by omega) (show i / 3 % 3 < 3 by omega) (show i % 3 < 3 by omega) (show k / 9 < 3 by omega) (show k / 3 % 3 < 3 by omega) (show k % 3 < 3 by omega) hr hr' h0
    omega
end
