section
theorem q_small : ∀ d : Nat, d < 257 → 1 < d → 65521 % d ≠ 0 := by decide +kernel
theorem q_cop {K : Nat} (h0 : 0 < K) (h1 : K < 65521) : Nat.Coprime K 65521 := by
  have hd1 : Nat.gcd K 65521 ∣ 65521 := Nat.gcd_dvd_right K 65521
  have hd2 : Nat.gcd K 65521 ≤ K := Nat.le_of_dvd h0 (Nat.gcd_dvd_left K 65521)
  have hp : 0 < Nat.gcd K 65521 := Nat.gcd_pos_of_pos_left _ h0
  show Nat.gcd K 65521 = 1
  generalize hg : Nat.gcd K 65521 = d at hd1 hd2 hp
  obtain ⟨e, he⟩ := hd1
  by_cases c1 : d < 257
  · by_cases c2 : 1 < d
    · exact absurd (Nat.mod_eq_zero_of_dvd ⟨e, he⟩) (q_small d c1 c2)
    · omega
  · have he1 : e < 257 := by
      rcases Nat.lt_or_ge e 257 with h | h
      · exact h
      · have := Nat.mul_le_mul (show 257 ≤ d by omega) h
        omega
    by_cases c2 : 1 < e
    · exact absurd (Nat.mod_eq_zero_of_dvd ⟨d, by rw [he, Nat.mul_comm]⟩) (q_small e he1 c2)
    · have : e = 0 ∨ e = 1 := by omega
      rcases this with rfl | rfl <;> omega
theorem q_can {K : Nat} (h0 : 0 < K) (h1 : K < 65521) {a b : Int} (h : (a * K) % 65521 = (b * K) % 65521) : a % 65521 = b % 65521 := by
  have h2 : (65521 : Int) ∣ (a - b) * K := by
    rw [Int.sub_mul]
    exact Int.dvd_of_emod_eq_zero (by rw [Int.sub_emod, h, Int.sub_self]; rfl)
  have h3 : (65521 : Nat) ∣ (a - b).natAbs * K := by
    have h9 := Int.natAbs_dvd_natAbs.mpr h2
    rw [Int.natAbs_mul] at h9
    exact h9
  have h4 : (65521 : Nat) ∣ (a - b).natAbs := Nat.Coprime.dvd_of_dvd_mul_right (q_cop h0 h1).symm h3
  have h5 : (65521 : Int) ∣ (a - b) := Int.natAbs_dvd_natAbs.mp h4
  omega
/-- numbers that differ in one place differ in their sum -/
theorem hzs_one {K : Nat} (h0 : 0 < K) (h1 : K < 65521) {g g' : Nat → Int} {f : Nat} (hf : ¬ (g f) % 65521 = (g' f) % 65521) (hs : ∀ j, j ≠ f → g j = g' j) : ∀ (m i : Nat), i ≤ f → f < i + m → ¬ hzs K g i m = hzs K g' i m
  | 0, i, h2, h3 => by omega
  | m + 1, i, h2, h3 => by
    intro h
    unfold hzs at h
    have h4 := q_can h0 h1 h
    by_cases c : i = f
    · subst c
      have h5 : hzs K g (i + 1) m = hzs K g' (i + 1) m := by
        have aux : ∀ (m i9 : Nat), i < i9 → hzs K g i9 m = hzs K g' i9 m := by
          intro m
          induction m with
          | zero => intro i9 _; rfl
          | succ m ih =>
            intro i9 h9
            unfold hzs
            rw [ih (i9 + 1) (by omega), hs i9 (by omega)]
        exact aux m (i + 1) (by omega)
      rw [h5] at h4
      omega
    · have h5 := hzs_one h0 h1 hf hs m (i + 1) (by omega) (by omega)
      have r1 := hzs_rng K g m (i + 1)
      have r2 := hzs_rng K g' m (i + 1)
      rw [hs i c] at h4
      omega
theorem SEALc_one {K : Nat} (h0 : 0 < K) (h1 : K < 65521) {g g' : Nat → Int} {f n : Nat} {k : Int} (hf : ¬ (g f) % 65521 = (g' f) % 65521) (hs : ∀ j, j ≠ f → g j = g' j) (hn : f < n) : ¬ SEALc K k g n = SEALc K k g' n := by
  intro h
  unfold SEALc at h
  have h4 := q_can h0 h1 h
  have r1 := hzs_rng K g n 0
  have r2 := hzs_rng K g' n 0
  have h5 := hzs_one h0 h1 hf hs n 0 (Nat.zero_le _) (by omega)
  omega
theorem PW_pow (b x y : Nat) : PW (PW b x) y = b ^ (x * y) % 2039 := by
  unfold PW
  rw [← Nat.pow_mod, Nat.pow_mul]
/-- both ends find the same number -/
theorem PW_dh (b x y : Nat) : PW (PW b x) y = PW (PW b y) x := by rw [PW_pow, PW_pow, Nat.mul_comm]
end
