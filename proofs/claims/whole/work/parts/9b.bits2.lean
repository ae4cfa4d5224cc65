section
def nL (x : Int64) : Nat := x.toUInt64.toNat
theorem nL_lt (x : Int64) : nL x < 2 ^ 64 := x.toUInt64.toBitVec.isLt
theorem nL_inj {x y : Int64} (h : nL x = nL y) : x = y := Int64.toBitVec.inj (BitVec.eq_of_toNat_eq h)
theorem nL_SHX {x : Int64} {y : Int32} {k : Nat} (hk : (y.toInt64.toUInt64 &&& Int64.toUInt64 63).toNat % 64 = k) : nL (SHX x y) = nL x / 2 ^ k := by
  show (x.toUInt64 >>> (y.toInt64.toUInt64 &&& Int64.toUInt64 63)).toNat = x.toUInt64.toNat / 2 ^ k
  rw [UInt64.toNat_shiftRight, hk, Nat.shiftRight_eq_div_pow]
theorem nL_and (x y : Int64) : nL (x &&& y) = nL x &&& nL y := UInt64.toNat_and x.toUInt64 y.toUInt64
theorem nL_or (x y : Int64) : nL (x ||| y) = nL x ||| nL y := UInt64.toNat_or x.toUInt64 y.toUInt64
theorem nL_add {x y : Int64} (h : nL x + nL y < 2 ^ 64) : nL (x + y) = nL x + nL y := by
  have h1 : nL (x + y) = (nL x + nL y) % 2 ^ 64 := UInt64.toNat_add x.toUInt64 y.toUInt64
  rw [h1, Nat.mod_eq_of_lt h]
theorem nL_sub {x y : Int64} (h : nL y ≤ nL x) : nL (x - y) = nL x - nL y := by
  have h1 : nL (x - y) = (2 ^ 64 - nL y + nL x) % 2 ^ 64 := UInt64.toNat_sub x.toUInt64 y.toUInt64
  have h2 := nL_lt x
  rw [h1]
  omega
theorem low7 (y : Int64) : y.toInt32 &&& 127 = nI (nL y % 128) := by
  refine nI_of_toInt ?_
  have h1 : (y.toInt32 &&& 127).toBitVec.toNat = nL y % 128 := by
    show ((y.toBitVec.signExtend 32) &&& (127 : Int32).toBitVec).toNat = _
    rw [BitVec.toNat_and, BitVec.signExtend_eq_setWidth_of_le _ (by decide), BitVec.toNat_setWidth, show (127 : Int32).toBitVec.toNat = 2 ^ 7 - 1 from by decide, Nat.and_two_pow_sub_one_eq_mod]
    show nL y % 2 ^ 32 % 2 ^ 7 = nL y % 128
    omega
  have h2 : (y.toInt32 &&& 127).toInt = ((y.toInt32 &&& 127).toBitVec.toNat : Int) := BitVec.toInt_eq_toNat_of_lt (by rw [h1]; omega)
  rw [h2, h1]
set_option maxRecDepth 100000 in
theorem nL_m : nL 6148914691236517205 = mkB8 85 8 ∧ nL 3689348814741910323 = mkB8 51 8 ∧ nL 1085102592571150095 = mkB8 15 8 ∧ nL 0 = 0 ∧ nL 1 = 2 ^ 1 - 1 ∧ mkB8 51 8 = 3689348814741910323 := by decide +kernel
theorem nL_BT1 (x : Int64) : nL (BT1 x) = nB1 (mkB8 85 8) (nL x) := by
  have h1 : nL (SHX x 1 &&& 6148914691236517205) = (nL x / 2 &&& mkB8 85 8) := by
    have q := nL_and (SHX x 1) 6148914691236517205
    rw [nL_SHX (y := 1) (k := 1) (by decide), nL_m.1] at q
    exact q
  have h2 : nL (SHX x 1 &&& 6148914691236517205) ≤ nL x := by
    rw [h1]
    have : nL x / 2 &&& mkB8 85 8 ≤ nL x / 2 := Nat.and_le_left
    omega
  unfold BT1 nB1
  rw [nL_sub h2, h1]
theorem nL_BT2 (x : Int64) : nL (BT2 x) = nB2 (mkB8 51 8) (nL x) ∧ nL (BT2 x) ≤ 7378697629483820646 := by
  have h1 : nL (SHX x 2 &&& 3689348814741910323) = (nL x / 4 &&& mkB8 51 8) := by
    have q := nL_and (SHX x 2) 3689348814741910323
    rw [nL_SHX (y := 2) (k := 2) (by decide), nL_m.2.1] at q
    exact q
  have h2 : nL (x &&& 3689348814741910323) = (nL x &&& mkB8 51 8) := by
    have q := nL_and x 3689348814741910323
    rw [nL_m.2.1] at q
    exact q
  have q1 : nL x / 4 &&& mkB8 51 8 ≤ mkB8 51 8 := Nat.and_le_right
  have q2 : nL x &&& mkB8 51 8 ≤ mkB8 51 8 := Nat.and_le_right
  have q3 := nL_m.2.2.2.2.2
  have h3 : nL (BT2 x) = (nL x &&& mkB8 51 8) + (nL x / 4 &&& mkB8 51 8) := by
    unfold BT2
    rw [nL_add (by rw [h1, h2]; omega), h1, h2]
  refine ⟨h3, ?_⟩
  rw [h3]
  omega
theorem nL_BT3 (x : Int64) (h : nL x ≤ 7378697629483820646) : nL (BT3 x) = nB3 (mkB8 15 8) (nL x) := by
  have h1 : nL (SHX x 4) = nL x / 16 := nL_SHX (y := 4) (k := 4) (by decide)
  unfold BT3 nB3
  rw [nL_and, nL_add (by rw [h1]; omega), h1, nL_m.2.2.1]
theorem nL_BTs {x : Int64} {y : Int32} {k : Nat} (hk : (y.toInt64.toUInt64 &&& Int64.toUInt64 63).toNat % 64 = k) (h : nL x < 2 ^ 63) : nL (x + SHX x y) = nL x + nL x / 2 ^ k := by
  have h1 : nL (SHX x y) = nL x / 2 ^ k := nL_SHX hk
  have h2 : nL x / 2 ^ k ≤ nL x := Nat.div_le_self _ _
  rw [nL_add (by rw [h1]; omega), h1]
theorem POPN_le (x : Nat) : POPN x ≤ 64 := by
  have h := fun i => (pB_d _ (byB_lt x i)).2.2
  have h0 := h 0
  have h1 := h 1
  have h2 := h 2
  have h3 := h 3
  have h4 := h 4
  have h5 := h 5
  have h6 := h 6
  have h7 := h 7
  unfold POPN
  omega
theorem tlb_v {a b c d e f g h v : Nat} (ha : a ≤ 8) (hb : b ≤ 8) (hc : c ≤ 8) (hd : d ≤ 8) (he : e ≤ 8) (hf : f ≤ 8) (hg : g ≤ 8) (hh : h ≤ 8) (hv : v = a + 256 * (b + 256 * (c + 256 * (d + 256 * (e + 256 * (f + 256 * (g + 256 * h))))))) : v ≤ 578721382704613384 := by omega
theorem tlb_d3 {x : Nat} (h : x ≤ 578721382704613384) : x < 2 ^ 63 := Nat.lt_of_le_of_lt h (by decide)
theorem tlb_d4 {x y : Nat} (h : x ≤ 578721382704613384) (hy : y = x + x / 256) : y < 2 ^ 63 := by omega
theorem tlb_d5 {x y z : Nat} (h : x ≤ 578721382704613384) (hy : y = x + x / 256) (hz : z = y + y / 65536) : z < 2 ^ 63 := by omega
theorem BITC_POPN (x : Int64) : BITC x = nI (POPN (nL x)) := by
  have h8 := vB_8 (nL x) (nL_lt x)
  have hall := nB_all [byB (nL x) 0, byB (nL x) 1, byB (nL x) 2, byB (nL x) 3, byB (nL x) 4, byB (nL x) 5, byB (nL x) 6, byB (nL x) 7] (fun b hb => by
    simp only [List.mem_cons, List.not_mem_nil, or_false] at hb
    rcases hb with rfl | rfl | rfl | rfl | rfl | rfl | rfl | rfl <;> exact byB_lt _ _)
  rw [h8] at hall
  obtain ⟨k2, k2b⟩ := nL_BT2 (BT1 x)
  have k3 : nL (BT3 (BT2 (BT1 x))) = vlB (List.map puB [byB (nL x) 0, byB (nL x) 1, byB (nL x) 2, byB (nL x) 3, byB (nL x) 4, byB (nL x) 5, byB (nL x) 6, byB (nL x) 7]) := by
    rw [nL_BT3 _ k2b, k2, nL_BT1]
    exact hall
  have h := fun i => (pB_d _ (byB_lt (nL x) i)).2.2
  have k3' : nL (BT3 (BT2 (BT1 x))) = puB (byB (nL x) 0) + 256 * (puB (byB (nL x) 1) + 256 * (puB (byB (nL x) 2) + 256 * (puB (byB (nL x) 3) + 256 * (puB (byB (nL x) 4) + 256 * (puB (byB (nL x) 5) + 256 * (puB (byB (nL x) 6) + 256 * puB (byB (nL x) 7))))))) := k3
  have h0 := h 0
  have h1 := h 1
  have h2 := h 2
  have h3 := h 3
  have h4 := h 4
  have h5 := h 5
  have h6 := h 6
  have h7 := h 7
  have b3 := tlb_v h0 h1 h2 h3 h4 h5 h6 h7 k3'
  have k4 : nL (BT4 (BT3 (BT2 (BT1 x)))) = nL (BT3 (BT2 (BT1 x))) + nL (BT3 (BT2 (BT1 x))) / 256 := nL_BTs (y := 8) (k := 8) (by decide) (tlb_d3 b3)
  have b4 := tlb_d4 b3 k4
  have k5 : nL (BT5 (BT4 (BT3 (BT2 (BT1 x))))) = nL (BT4 (BT3 (BT2 (BT1 x)))) + nL (BT4 (BT3 (BT2 (BT1 x)))) / 65536 := nL_BTs (y := 16) (k := 16) (by decide) b4
  have b5 := tlb_d5 b3 k4 k5
  have k6 : nL (BT6 (BT5 (BT4 (BT3 (BT2 (BT1 x)))))) = nL (BT5 (BT4 (BT3 (BT2 (BT1 x))))) + nL (BT5 (BT4 (BT3 (BT2 (BT1 x))))) / 4294967296 := nL_BTs (y := 32) (k := 32) (by decide) b5
  unfold BITC
  rw [low7, k6, tail_B _ _ _ _ _ _ _ _ _ h0 h1 h2 h3 h4 h5 h6 h7 k3' _ _ k4 k5]
  rfl
set_option maxRecDepth 100000 in
theorem bit_of : ∀ k, k < 40 → nL ((1 : Int64) <<< ((nI k).toInt64 &&& 63)) = 2 ^ k := by decide +kernel
set_option maxRecDepth 100000 in
theorem sh_of : ∀ k, k < 64 → ((nI k).toInt64.toUInt64 &&& Int64.toUInt64 63).toNat % 64 = k := by decide +kernel
theorem div2_lt {y : Nat} (h : y / 2 = 0) : y < 2 := by omega
theorem div2_up {x a m : Nat} (h : x / 2 ^ a / 2 = 0) (ha : a ≤ m) : x / 2 ^ m / 2 = 0 := Nat.div_eq_of_lt (Nat.lt_of_le_of_lt (Nat.div_le_div_left (Nat.pow_le_pow_right (by decide) ha) (Nat.two_pow_pos a)) (div2_lt h))
theorem take_SAL {r : Ses} {c : Int32} (hS : SAL r) (hc : CTK r c) : SAL (TAKr r c) ∧ okTk (TAKr r c) := by
  obtain ⟨s1, s2, s3, s4⟩ := hS
  obtain ⟨⟨c1, c2, c3⟩, c4⟩ := hc
  obtain ⟨-, -, -, n0, n1, -⟩ := nL_m
  have hk := cl_nI c1
  have hk9 := cl_eq c1
  have hk4 : cl c < 40 := by omega
  have hbit : nL ((1 : Int64) <<< (c.toInt64 &&& 63)) = 2 ^ cl c := by
    have q := bit_of (cl c) hk4
    rw [← hk] at q
    exact q
  have hsh : nL (SHX r.2 c) = nL r.2 / 2 ^ cl c := nL_SHX (by
    have q := sh_of (cl c) (by omega)
    rw [← hk] at q
    exact q)
  have hb : nL r.2 / 2 ^ cl c % 2 = 0 := by
    have h1 : nL (SHX r.2 c &&& 1) = nL r.2 / 2 ^ cl c % 2 := by
      rw [nL_and, hsh, n1, Nat.and_two_pow_sub_one_eq_mod, Nat.pow_one]
    have h2 : ¬ nL (SHX r.2 c &&& 1) = 1 := fun e => c3 (nL_inj (y := 1) (e.trans (show 1 = nL 1 from by decide)))
    omega
  have hle := POPN_le (nL r.2)
  have o1 : (1 : Int32).toInt = 1 := by decide
  have e8 : (r.1 8).toInt = (POPN (nL r.2) : Int) := by
    rw [← s1, BITC_POPN, nI_toInt (by omega)]
  have e81 : (r.1 8 + 1 : Int32).toInt = (POPN (nL r.2) : Int) + 1 := (fb_addI (x := r.1 8) (y := 1) (by rw [o1]; omega) (by rw [o1]; omega)).trans (by rw [o1, e8])
  have old7 : 0 ≤ r.1 7 → cl (r.1 7) < 64 → 0 ≤ (r.1 7).toInt → nL r.2 / 2 ^ cl (r.1 7) / 2 = 0 := fun q q2 q3 => by
    have hz := congrArg nL (s2 q)
    rw [nL_SHX (y := 1) (k := 1) (by decide), nL_SHX (y := r.1 7) (k := cl (r.1 7)) (by
      have q4 := sh_of (cl (r.1 7)) q2
      rw [← cl_nI q3] at q4
      exact q4), n0, Nat.pow_one] at hz
    exact hz
  have hm : ∃ m, cl c ≤ m ∧ m < 64 ∧ (if r.1 7 < c then c else r.1 7) = nI m ∧ nL r.2 / 2 ^ m / 2 = 0 := by
    by_cases p : r.1 7 < c
    · rw [if_pos p]
      refine ⟨cl c, Nat.le_refl _, by omega, hk, ?_⟩
      by_cases q : 0 ≤ r.1 7
      · have q9 : 0 ≤ (r.1 7).toInt := by
          have q8 := Int32.le_iff_toInt_le.mp q
          rw [show (0 : Int32).toInt = 0 from by decide] at q8
          exact q8
        have p9 := Int32.lt_iff_toInt_lt.mp p
        have e7 := cl_eq q9
        exact div2_up (old7 q (by omega) q9) (by omega)
      · rw [s3 q, n0]
        all_goals simp
    · rw [if_neg p]
      have p9 : ¬ (r.1 7).toInt < c.toInt := fun e => p (Int32.lt_iff_toInt_lt.mpr e)
      have q9 : 0 ≤ (r.1 7).toInt := by omega
      have e7 := cl_eq q9
      have q : 0 ≤ r.1 7 := Int32.le_iff_toInt_le.mpr (by rw [show (0 : Int32).toInt = 0 from by decide]; exact q9)
      have o16 : (16 : Int32).toInt = 16 := by decide
      have h56 : (r.1 7).toInt < 56 := by
        rcases c4 with e | e
        · rw [e] at q9
          exact absurd q9 (by decide)
        · have e := Int32.lt_iff_toInt_lt.mp e
          have r9 := fb_rng (r.1 7)
          rw [fb_subI (x := r.1 7) (y := 16) (by rw [o16]; omega) (by rw [o16]; omega), o16] at e
          omega
      exact ⟨cl (r.1 7), by omega, by omega, cl_nI q9, old7 q (by omega) q9⟩
  obtain ⟨m, m1, m2, m3, m4⟩ := hm
  have hm0 : (nI m).toInt = (m : Int) := nI_toInt (by omega)
  have t7 : (TAKr r c).1 7 = nI m := m3
  refine ⟨⟨?_, fun _ => ?_, fun q => ?_, s4⟩, Or.inr ⟨fun q => ?_, fun q => ?_⟩⟩
  · show BITC (r.2 ||| ((1 : Int64) <<< (c.toInt64 &&& 63))) = r.1 8 + 1
    rw [BITC_POPN, nL_or, hbit, POPN_or _ _ (by omega) hb]
    exact (nI_of_toInt (z := POPN (nL r.2) + 1) (by rw [e81]; omega)).symm
  · rw [t7]
    have hf : nL (SHX (SHX (r.2 ||| ((1 : Int64) <<< (c.toInt64 &&& 63))) (nI m)) 1) = 0 := by
      have h1 : 2 ^ cl c / 2 ^ cl c / 2 = 0 := congrArg (fun z : Nat => z / 2) (Nat.div_self (Nat.two_pow_pos (cl c)))
      have h2 := div2_up h1 m1
      rw [nL_SHX (y := 1) (k := 1) (by decide), nL_SHX (sh_of m m2), nL_or, hbit, Nat.or_div_two_pow, Nat.or_div_two_pow, Nat.pow_one, m4, h2]
      all_goals decide
    exact nL_inj (y := 0) (hf.trans n0.symm)
  · rw [t7] at q
    refine absurd (Int32.le_iff_toInt_le.mpr ?_) q
    rw [hm0, show (0 : Int32).toInt = 0 from by decide]
    omega
  · have q : r.1 8 + 1 ≤ 0 := q
    have q := Int32.le_iff_toInt_le.mp q
    rw [e81, show (0 : Int32).toInt = 0 from by decide] at q
    omega
  · have q : (if r.1 7 < c then c else r.1 7) = -1 := q
    rw [m3] at q
    have q := congrArg Int32.toInt q
    rw [hm0, show (-1 : Int32).toInt = -1 from by decide] at q
    omega
end
