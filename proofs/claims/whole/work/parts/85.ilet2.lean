section
theorem LT1.row {g g' : Row} {K : Nat} (h : LT1 g K) (he : ∀ j, 2 ≤ j → j < 17 → g' j = g j) : LT1 g' K := by
  obtain ⟨h0, h1, ⟨hk, h15, ho, hd⟩, hs, hc, ht⟩ := h
  have e2 := he 2 (by decide) (by decide)
  have e15 := he 15 (by decide) (by decide)
  have e3 : ∀ i, i < 6 → g' (3 + i) = g (3 + i) := fun i hi => he _ (by omega) (by omega)
  have e9 : ∀ i, i < 6 → g' (9 + i) = g (9 + i) := fun i hi => he _ (by omega) (by omega)
  have hT : TPn (g 2) < 6 := by rcases hk with h | h | h | h <;> rw [h] <;> decide
  refine ⟨h0, (he 16 (by decide) (by decide)).trans h1, ⟨by rw [e2]; exact hk, by rw [e15]; exact h15, fun i hi c => ?_, fun i hi => ?_⟩, fun c i hi => ?_, by rw [e2, e15]; exact hc, ?_⟩
  · rw [e15] at c
    rw [e3 i hi, e9 i hi]
    exact ho i hi c
  · rw [e3 i hi, e9 i hi]
    exact hd i hi
  · rw [e15] at c
    rw [e3 i hi, e9 i hi]
    exact hs c i hi
  · rw [e2, e9 _ hT, ht]
    unfold SEALO SEALc
    rw [e2, hzs_cong (K : Int) (g := fun i => (g (9 + i)).toInt) (g' := fun i => (g' (9 + i)).toInt) (TPn (g 2)) 0 (fun j hj => by rw [e9 j (by omega)])]
theorem u1_nq {f : Nat → Int32} {a b : Nat} {v : Int32} (h : b ≠ a) : u1 f a v b = f b := if_neg h
theorem u1_aq {f : Nat → Int32} {a : Nat} {v : Int32} : u1 f a v a = v := if_pos rfl
theorem LT1.turn {g : Row} {K : Nat} {f z : Int32} (h : LT1 g K) (hf : CTNb (g 2) f = true) (hz : inR z (-500) 500) (hc9 : (g 15 = f ∧ inR (FLDv g f + z - ORIG g) (-10000) 10000) ∨ g 15 = -1) : LT1 (TRN g f z) K := by
  obtain ⟨h0, h1, ⟨hk, h15, ho, hd⟩, hs, hc, ht⟩ := h
  obtain ⟨c1, c2, c3⟩ := CT_rng hf hk
  have hF : f = nI (cl f) := cl_nI (by omega)
  have hcl := cl_eq (x := f) (by omega)
  have hF6 : cl f < 6 := by omega
  have hF1 : 1 ≤ cl f := by omega
  have t15 : TRN g f z 15 = f := by unfold TRN; rw [u1_nq (by omega), u1_aq]
  have tF : TRN g f z (3 + cl f) = g (3 + cl f) + z := by unfold TRN; rw [u1_aq]
  have tO : ∀ j, j ≠ 15 → j ≠ 3 + cl f → TRN g f z j = g j := fun j a b => by unfold TRN; rw [u1_nq b, u1_nq a]
  have hT : TPn (g 2) < 6 := c3
  have z1 : (-500 : Int32).toInt ≤ z.toInt := hz.1
  have z2 : z.toInt ≤ (500 : Int32).toInt := hz.2
  rw [show (-500 : Int32).toInt = -500 from by decide] at z1
  rw [show (500 : Int32).toInt = 500 from by decide] at z2
  have hdF := hd (cl f) hF6
  have hsum : (g (3 + cl f) + z : Int32).toInt = (g (3 + cl f)).toInt + z.toInt := fb_addI (by omega) (by omega)
  have hm1 : ¬ f = -1 := fun e => by rw [e] at c1; exact absurd c1 (by decide)
  have hnew : -10000 ≤ (g (3 + cl f)).toInt + z.toInt - (g (9 + cl f)).toInt ∧ (g (3 + cl f)).toInt + z.toInt - (g (9 + cl f)).toInt ≤ 10000 := by
    rcases hc9 with ⟨a, b⟩ | a
    · have e1 : FLDv g f = g (3 + cl f) := if_pos ⟨by omega, by omega⟩
      have e2 : ORIG g = g (9 + cl f) := by unfold ORIG; rw [if_neg (fun q => hm1 (a.symm.trans q)), a]
      rw [e1, e2] at b
      have b1 : (-10000 : Int32).toInt ≤ _ := b.1
      have b2 : _ ≤ (10000 : Int32).toInt := b.2
      rw [(trn_L hdF.1 hdF.2 ⟨z1, z2⟩).2] at b1 b2
      rw [show (-10000 : Int32).toInt = -10000 from by decide] at b1
      rw [show (10000 : Int32).toInt = 10000 from by decide] at b2
      exact ⟨b1, b2⟩
    · have e := congrArg Int32.toInt (hs a (cl f) hF6)
      omega
  refine ⟨h0, (tO 16 (by decide) (by omega)).trans h1, ⟨by rw [tO 2 (by decide) (by omega)]; exact hk, Or.inr (by rw [t15]; omega), fun i hi c => ?_, fun i hi => ?_⟩, fun c => ?_, Or.inr (by rw [tO 2 (by decide) (by omega), t15]; exact hf), ?_⟩
  · rw [t15] at c
    have hi9 : i ≠ cl f := fun e => c (by rw [e]; exact hF)
    rw [tO (9 + i) (by omega) (by omega), tO (3 + i) (by omega) (by omega)]
    refine ho i hi (fun q => ?_)
    rcases hc9 with ⟨a, -⟩ | a
    · exact c (a.symm.trans q)
    · exact nI_nm1 (by omega) (q.symm.trans a)
  · rw [tO (9 + i) (by omega) (by omega)]
    by_cases e : i = cl f
    · subst e
      rw [tF, hsum]
      exact ⟨hnew, hdF.2⟩
    · rw [tO (3 + i) (by omega) (by omega)]
      exact hd i hi
  · rw [t15] at c
    exact absurd c hm1
  · rw [tO 2 (by decide) (by omega), tO (9 + TPn (g 2)) (by omega) (by omega), ht]
    unfold SEALO SEALc
    rw [tO 2 (by decide) (by omega), hzs_cong (K : Int) (g := fun i => (g (9 + i)).toInt) (g' := fun i => (TRN g f z (9 + i)).toInt) (TPn (g 2)) 0 (fun j hj => by rw [tO (9 + j) (by omega) (by omega)])]
theorem mkL_3 {fr to kind key : Int32} {fs : List Int32} {i : Nat} (hi : i < 6) : mkL fr to kind fs key (3 + i) = fs.getD i 0 := by
  unfold mkL
  rw [if_neg (by omega), if_neg (by omega), if_neg (by omega), if_pos (by omega), show 3 + i - 3 = i by omega]
theorem mkL_9 {fr to kind key : Int32} {fs : List Int32} {i : Nat} (hi : i < 6) : mkL fr to kind fs key (9 + i) = fs.getD i 0 := by
  unfold mkL
  rw [if_neg (by omega), if_neg (by omega), if_neg (by omega), if_neg (by omega), if_pos (by omega), show 9 + i - 9 = i by omega]
theorem LT1.mk {fr to kind : Int32} {fs fs' : List Int32} {K : Nat} (h0 : 0 < K) (h1 : K < 65521) (hk : kind = 1 ∨ kind = 2 ∨ kind = 3 ∨ kind = 4) (hl : TPn kind = fs'.length) (hp : ∀ i, i < fs'.length → fs.getD i 0 = fs'.getD i 0) (ht : fs.getD (TPn kind) 0 = SEALN K kind fs') (hb : ∀ i, i < 6 → -2100000000 ≤ (fs.getD i 0).toInt ∧ (fs.getD i 0).toInt ≤ 2100000000) : LT1 (mkL fr to kind fs (nI K)) K := by
  have hT : TPn kind < 6 := by rcases hk with h | h | h | h <;> rw [h] <;> decide
  refine ⟨⟨h0, h1⟩, rfl, ⟨hk, Or.inl rfl, fun i hi _ => ?_, fun i hi => ?_⟩, fun _ i hi => ?_, Or.inl rfl, ?_⟩
  · rw [mkL_3 hi, mkL_9 hi]
  · rw [mkL_3 hi, mkL_9 hi]
    exact ⟨by omega, hb i hi⟩
  · rw [mkL_3 hi, mkL_9 hi]
  · show mkL fr to kind fs (nI K) (9 + TPn kind) = _
    rw [mkL_9 hT, ht]
    unfold SEALO SEALN SEALc
    show _ = nI (((hzs (K : Int) (fun i => (mkL fr to kind fs (nI K) (9 + i)).toInt) 0 (TPn kind) + kind.toInt + 2) * K) % 65521).toNat
    rw [hl, hzs_cong (K : Int) (g := fun i => (fs'.getD i 0).toInt) (g' := fun i => (mkL fr to kind fs (nI K) (9 + i)).toInt) fs'.length 0 (fun j hj => by rw [mkL_9 (by omega), hp j (by omega)])]
end
