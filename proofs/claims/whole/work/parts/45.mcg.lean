section
/-- two sums of the seal: the model's from the front, the class's from the back -/
def Cg (a b : Int) : Prop := (65521 : Int) ∣ a - b
theorem Cg.em (a : Int) : Cg (a % 65521) a := by unfold Cg; omega
theorem Cg.rf (a : Int) : Cg a a := by unfold Cg; omega
theorem Cg.tr {a b c : Int} (h : Cg a b) (g : Cg b c) : Cg a c := by unfold Cg at *; omega
theorem Cg.sy {a b : Int} (h : Cg a b) : Cg b a := by unfold Cg at *; omega
theorem Cg.ad {a b c d : Int} (h : Cg a b) (g : Cg c d) : Cg (a + c) (b + d) := by unfold Cg at *; omega
theorem Cg.mr {a b : Int} (h : Cg a b) (c : Int) : Cg (a * c) (b * c) := by
  unfold Cg at *
  rw [← Int.sub_mul]
  exact Int.dvd_mul_of_dvd_left h
theorem Cg.ml {a b : Int} (h : Cg a b) (c : Int) : Cg (c * a) (c * b) := by
  rw [Int.mul_comm c a, Int.mul_comm c b]
  exact h.mr c
theorem Cg.eq {a b : Int} (h : Cg a b) (ha : 0 ≤ a ∧ a < 65521) (hb : 0 ≤ b ∧ b < 65521) : a = b := by unfold Cg at *; omega
def HZ (K : Int) : List Int → Int
  | [] => 0
  | v :: vs => ((v + 2) + HZ K vs) * K
theorem sgS_cg (K : Int) : ∀ (vs : List Int) (s p : Int), Cg (sgS K vs s p) (s + p * HZ K vs)
  | [], s, p => by
    show Cg s (s + p * 0)
    rw [Int.mul_zero, Int.add_zero]
    exact Cg.rf s
  | v :: vs, s, p => by
    show Cg (sgS K vs ((s + p * K % 65521 * ((v + 2) % 65521)) % 65521) (p * K % 65521)) (s + p * (((v + 2) + HZ K vs) * K))
    have h1 := sgS_cg K vs ((s + p * K % 65521 * ((v + 2) % 65521)) % 65521) (p * K % 65521)
    have h2 : Cg (p * K % 65521 * ((v + 2) % 65521)) (p * K * (v + 2)) := ((Cg.em (p * K)).mr _).tr ((Cg.em (v + 2)).ml _)
    have h3 : Cg ((s + p * K % 65521 * ((v + 2) % 65521)) % 65521) (s + p * K * (v + 2)) := (Cg.em _).tr ((Cg.rf s).ad h2)
    have h4 : Cg (p * K % 65521 * HZ K vs) (p * K * HZ K vs) := (Cg.em (p * K)).mr _
    have h5 := h1.tr (h3.ad h4)
    rw [show s + p * (((v + 2) + HZ K vs) * K) = s + p * K * (v + 2) + p * K * HZ K vs from by rw [Int.mul_comm ((v + 2) + HZ K vs) K, ← Int.mul_assoc, Int.mul_add, ← Int.add_assoc]]
    exact h5
theorem sgS_rng (K : Int) : ∀ (vs : List Int) (s p : Int), 0 ≤ s ∧ s < 65521 → 0 ≤ sgS K vs s p ∧ sgS K vs s p < 65521
  | [], s, p, h => h
  | v :: vs, s, p, h => sgS_rng K vs _ _ (by omega)
theorem hzs_cg (K : Int) (g : Nat → Int) : ∀ (vs : List Int) (i : Nat), (∀ j (h : j < vs.length), g (i + j) = vs[j]) → Cg (hzs K g i vs.length) (HZ K vs)
  | [], i, h => Cg.rf 0
  | v :: vs, i, h => by
    have h0 : g i = v := h 0 (Nat.zero_lt_succ _)
    have h1 := hzs_cg K g vs (i + 1) (fun j hj => by
      have h9 := h (j + 1) (Nat.succ_lt_succ hj)
      rw [show i + 1 + j = i + (j + 1) by omega]
      exact h9)
    show Cg (((hzs K g (i + 1) vs.length + g i + 2) * K) % 65521) (((v + 2) + HZ K vs) * K)
    refine (Cg.em _).tr (Cg.mr ?_ K)
    rw [h0, show v + 2 + HZ K vs = HZ K vs + v + 2 by omega]
    exact (h1.ad (Cg.rf v)).ad (Cg.rf 2)
/-- the model's seal is the class's -/
theorem sgS_SEALc (K f : Int) (g : Nat → Int) (vs : List Int) (h : ∀ j (h : j < vs.length), g j = vs[j]) : sgS K (f :: vs) 0 1 = SEALc K f g vs.length := by
  have h1 := sgS_cg K (f :: vs) 0 1
  rw [Int.one_mul, Int.zero_add] at h1
  have h2 := hzs_cg K g vs 0 (fun j hj => by rw [Nat.zero_add]; exact h j hj)
  have h3 : Cg (SEALc K f g vs.length) (HZ K (f :: vs)) := by
    show Cg (((hzs K g 0 vs.length + f + 2) * K) % 65521) (((f + 2) + HZ K vs) * K)
    refine (Cg.em _).tr (Cg.mr ?_ K)
    rw [show f + 2 + HZ K vs = HZ K vs + f + 2 by omega]
    exact (h2.ad (Cg.rf f)).ad (Cg.rf 2)
  exact (h1.tr h3.sy).eq (sgS_rng K _ 0 1 (by decide)) (SEALc_rng K f g _)
end
