section
theorem okJ.ths {H : GhH} {R : GhR} {d : Nat} {S : Sx} {e a b : Nat} {g : Row} (h : okJ H R (d + 1) S) (he : e < 3) (ha : a < 3) (hb : b < 3) (hg : Lgh H R g) (h2 : g 2 = 1) (h5 : g 5 = nI (10 * a + b)) : okI d (THs S e a b g) := by
  obtain ⟨K, kL, k1, -⟩ := hg
  obtain ⟨i, a9, b9, s, y1, y2, y3, y4, y5, y6⟩ := k1 h2
  obtain ⟨hN, -, -⟩ := h.2.2.1.hn
  have z := h.1.1 _ _ _ _ y1
  have e5 := nI_ij (by omega) (by omega) (h5.symm.trans y4)
  obtain rfl : a = a9 := by omega
  obtain rfl : b = b9 := by omega
  unfold THs
  split
  · exact (okJ.down h).I
  · rename_i hbe
    have hbe : b = e := Classical.byContradiction hbe
    subst hbe
    split
    · have hm := MIX_lt [6, ((211 + 307 * b : Nat) : Int), (S.sc 0 / 60).toInt, (g 0).toInt]
      refine (okJ.down (okJ.cookie h ⟨?_, ?_⟩ ?_)).I
      · rw [y2, nIi (by omega)]; omega
      · rw [y2, nIi (by omega)]; omega
      · unfold CKE
        rw [nIi (by omega)]
        omega
    · split
      · exact (okJ.down h).I
      · rename_i ht
        have ht : TAGR g = SEALR (HKT b a g) g := Classical.byContradiction ht
        split
        · exact (okJ.down h).I
        · rename_i hl
          have hk : HKT b a g = K := (HKT_o y3).trans y6.symm
          have h6 : g 12 = g 6 := kL.same (by rw [← hk]; exact ht) 3 (by decide)
          have hs : s = g 6 := y5.symm.trans h6
          have hlt := Int32.not_le.mp hl
          have hJ : okJ H R (d + 1) ((S.sLf 1 b a (g 6)).sLf 0 b a (g 0)) := okJ.lf (okJ.lf1 h (Int32.le_of_lt hlt)) (by decide) (by decide)
          refine okJ.reply hJ hb ha (fun e => z.2.2.2.2 e.symm) y1 y2 y3 ?_ (fun n b9 a9 q => ?_)
          · show s ≤ w3 (w3 S.lf 1 b a (g 6)) 0 b a (g 0) 1 b a
            rw [w3_ne (fun e => absurd e.1 (by decide)), w3_eq, hs]
            exact Int32.le_refl _
          · obtain ⟨-, -, -, s9, q1, q2⟩ := h.1.2.1 _ _ _ _ q
            cases y1.symm.trans q1
            rw [hs] at q2
            exact hl q2
end
