section
theorem FWN_u {S : Sx} {e : Nat} {n : Int32} {b b' : Nat} (h : FWN S e n b) (h' : FWN S e n b') : b = b' := by
  by_cases c : b = b'
  · exact c
  · by_cases d : b < b'
    · exact absurd h.2.1 (h'.2.2 b d)
    · exact absurd h'.2.1 (h.2.2 b' (by omega))
theorem fIs_no3 {S : Sx} {e : Nat} {n : Int32} {b : Nat} (h : ∀ b, b < 3 → ¬ fIs S e b n) (h' : FWN S e n b) : False := h b h'.1 h'.2.1
theorem ab_u {a b a' b' : Nat} {x : Int32} (ha : a < 3) (hb : b < 3) (ha' : a' < 3) (hb' : b' < 3) (h : x = nI (10 * a + b)) (h' : x = nI (10 * a' + b')) : a = a' ∧ b = b' := by
  have h9 := (nI_eq (by omega) (by omega)).mp (h.symm.trans h')
  omega
theorem TRc_u {S : Sx} {e : Nat} {g : Row} {v v' : Int32} {S9 S9' : Sx} (h : TRc S e g v S9) (h' : TRc S e g v' S9') : v = v' ∧ S9 = S9' := by
  rcases h with ⟨h1, h2, h3⟩ | ⟨b, f, h1, h2, h3⟩
  · rcases h' with ⟨k1, k2, k3⟩ | ⟨b', f', k1, k2, k3⟩
    · exact ⟨h2.trans k2.symm, h3.trans k3.symm⟩
    · exact (fIs_no3 h1 k1).elim
  · rcases h' with ⟨k1, k2, k3⟩ | ⟨b', f', k1, k2, k3⟩
    · exact (fIs_no3 k1 h1).elim
    · cases FWN_u h1 k1
      cases h2.symm.trans k2
      rcases h3 with ⟨x1, x2, x3⟩ | ⟨x1, x2, x3⟩
      · rcases k3 with ⟨y1, y2, y3⟩ | ⟨y1, y2, y3⟩
        · exact ⟨x2.trans y2.symm, x3.trans y3.symm⟩
        · exact absurd y1 x1
      · rcases k3 with ⟨y1, y2, y3⟩ | ⟨y1, y2, y3⟩
        · exact absurd x1 y1
        · exact ⟨x2.trans y2.symm, x3.trans y3.symm⟩
theorem TCc_u {S : Sx} {e : Nat} {g : Row} {v v' : Int32} {S9 S9' : Sx} (h : TCc S e g v S9) (h' : TCc S e g v' S9') : v = v' ∧ S9 = S9' := by
  rcases h with ⟨h1, h2, h3⟩ | ⟨b, f, h1, h2, h3⟩
  · rcases h' with ⟨k1, k2, k3⟩ | ⟨b', f', k1, k2, k3⟩
    · exact ⟨h2.trans k2.symm, h3.trans k3.symm⟩
    · exact (fIs_no3 h1 k1).elim
  · rcases h' with ⟨k1, k2, k3⟩ | ⟨b', f', k1, k2, k3⟩
    · exact (fIs_no3 k1 h1).elim
    · cases FWN_u h1 k1
      cases h2.symm.trans k2
      rcases h3 with ⟨x1, x2, x3⟩ | ⟨x1, x2, x3⟩
      · rcases k3 with ⟨y1, y2, y3⟩ | ⟨y1, y2, y3⟩
        · exact ⟨x2.trans y2.symm, x3.trans y3.symm⟩
        · exact absurd y1 x1
      · rcases k3 with ⟨y1, y2, y3⟩ | ⟨y1, y2, y3⟩
        · exact absurd x1 y1
        · exact ⟨x2.trans y2.symm, x3.trans y3.symm⟩
theorem LWN_u {S : Sx} {e : Nat} {n : Int32} {b b' : Nat} (h : LWN S e n b) (h' : LWN S e n b') : b = b' := by
  obtain ⟨h1, ⟨w, hw, hs⟩, h2⟩ := h
  obtain ⟨k1, ⟨w', hw', hs'⟩, k2⟩ := h'
  by_cases c : b = b'
  · exact c
  · by_cases d : b < b'
    · exact absurd hs (k2 b d w hw)
    · exact absurd hs' (h2 b' (by omega) w' hw')
theorem SWN_u {S : Sx} {e b : Nat} {n : Int32} {w w' : Nat} (h : SWN S e b n w) (h' : SWN S e b n w') : w = w' := by
  unfold SWN at h h'
  by_cases c : w = w'
  · exact c
  · by_cases d : w < w'
    · exact absurd h.2.1 (h'.2.2 w d)
    · exact absurd h'.2.1 (h.2.2 w' (by omega))
theorem TDc_u {S : Sx} {e : Nat} {g : Row} {v v' : Int32} {S9 S9' : Sx} (h : TDc S e g v S9) (h' : TDc S e g v' S9') : v = v' ∧ S9 = S9' := by
  rcases h with ⟨h1, h2, h3⟩ | ⟨b, w, r, h1, hw, hr, h3⟩
  · rcases h' with ⟨k1, k2, k3⟩ | ⟨b', w', r', k1, kw, kr, k3⟩
    · exact ⟨h2.trans k2.symm, h3.trans k3.symm⟩
    · exact absurd kw.2.1 (h1 b' k1.1 w' kw.1)
  · rcases h' with ⟨k1, k2, k3⟩ | ⟨b', w', r', k1, kw, kr, k3⟩
    · exact absurd hw.2.1 (k1 b h1.1 w hw.1)
    · cases LWN_u h1 k1
      cases SWN_u hw kw
      cases hr.symm.trans kr
      rcases h3 with ⟨x1, x2, x3⟩ | ⟨x1, x4, x2, x3⟩ | ⟨x1, x4, x5, x2, x3⟩ | ⟨x1, x4, x5, x2, x3⟩
      · rcases k3 with ⟨y1, y2, y3⟩ | ⟨y1, y4, y2, y3⟩ | ⟨y1, y4, y5, y2, y3⟩ | ⟨y1, y4, y5, y2, y3⟩
        · exact ⟨x2.trans y2.symm, x3.trans y3.symm⟩
        · exact absurd x1 y1
        · exact absurd x1 y1
        · exact absurd x1 y1
      · rcases k3 with ⟨y1, y2, y3⟩ | ⟨y1, y4, y2, y3⟩ | ⟨y1, y4, y5, y2, y3⟩ | ⟨y1, y4, y5, y2, y3⟩
        · exact absurd y1 x1
        · exact ⟨x2.trans y2.symm, x3.trans y3.symm⟩
        · exact absurd y4 x4
        · exact absurd y4 x4
      · rcases k3 with ⟨y1, y2, y3⟩ | ⟨y1, y4, y2, y3⟩ | ⟨y1, y4, y5, y2, y3⟩ | ⟨y1, y4, y5, y2, y3⟩
        · exact absurd y1 x1
        · exact absurd x4 y4
        · exact ⟨x2.trans y2.symm, x3.trans y3.symm⟩
        · exact absurd y5 x5
      · rcases k3 with ⟨y1, y2, y3⟩ | ⟨y1, y4, y2, y3⟩ | ⟨y1, y4, y5, y2, y3⟩ | ⟨y1, y4, y5, y2, y3⟩
        · exact absurd y1 x1
        · exact absurd x4 y4
        · exact absurd x5 y5
        · exact ⟨x2.trans y2.symm, x3.trans y3.symm⟩
theorem GOT_u {S : Sx} {g : Row} {v v' : Int32} {S9 S9' : Sx} (h : GOT S g v S9) (h' : GOT S g v' S9') : v = v' ∧ S9 = S9' := by
  have n12 : ∀ {p q : Int32}, g 2 = p → g 2 = q → ¬ p = q → False := fun h1 h2 h3 => h3 (h1.symm.trans h2)
  rcases h with ⟨h1, h2, h3⟩ | ⟨e, he, h1, h2⟩
  · rcases h' with ⟨k1, k2, k3⟩ | ⟨e', he', k1, k2⟩
    · exact ⟨h2.trans k2.symm, h3.trans k3.symm⟩
    · rw [h1] at k1; cases k1
  · rcases h' with ⟨k1, k2, k3⟩ | ⟨e', he', k1, k2⟩
    · rw [h1] at k1; cases k1
    · cases h1.symm.trans k1
      rcases h2 with ⟨t, a, b, ha, hb, x1, x2, x3⟩ | ⟨t, x⟩ | ⟨t, x⟩ | ⟨t1, t2, t3, x⟩
      · rcases k2 with ⟨u, a', b', ha', hb', y1, y2, y3⟩ | ⟨u, y⟩ | ⟨u, y⟩ | ⟨u1, u2, u3, y⟩
        · obtain ⟨rfl, rfl⟩ := ab_u ha hb ha' hb' x1 y1
          exact ⟨x2.trans y2.symm, x3.trans y3.symm⟩
        · exact (n12 t u (by decide)).elim
        · exact (n12 t u (by decide)).elim
        · exact absurd t u1
      · rcases k2 with ⟨u, a', b', ha', hb', y1, y2, y3⟩ | ⟨u, y⟩ | ⟨u, y⟩ | ⟨u1, u2, u3, y⟩
        · exact (n12 t u (by decide)).elim
        · exact TRc_u x y
        · exact (n12 t u (by decide)).elim
        · exact absurd t u2
      · rcases k2 with ⟨u, a', b', ha', hb', y1, y2, y3⟩ | ⟨u, y⟩ | ⟨u, y⟩ | ⟨u1, u2, u3, y⟩
        · exact (n12 t u (by decide)).elim
        · exact (n12 t u (by decide)).elim
        · exact TCc_u x y
        · exact absurd t u3
      · rcases k2 with ⟨u, a', b', ha', hb', y1, y2, y3⟩ | ⟨u, y⟩ | ⟨u, y⟩ | ⟨u1, u2, u3, y⟩
        · exact absurd u t1
        · exact absurd u t2
        · exact absurd u t3
        · exact TDc_u x y
end
