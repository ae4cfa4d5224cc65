section
/-! counting bits: the JDK's way over eight bytes, each for itself -/
def vB : List Nat → Nat
  | [] => 0
  | b :: bs => b + 256 * vB bs
theorem and_byte (b y m M : Nat) (hb : b < 256) (hm : m < 256) : (b + 256 * y) &&& (m + 256 * M) = (b &&& m) + 256 * (y &&& M) := by
  have h1 : ((b + 256 * y) &&& (m + 256 * M)) % 2 ^ 8 = ((b + 256 * y) % 2 ^ 8) &&& ((m + 256 * M) % 2 ^ 8) := Nat.and_mod_two_pow
  have h2 : ((b + 256 * y) &&& (m + 256 * M)) / 2 ^ 8 = ((b + 256 * y) / 2 ^ 8) &&& ((m + 256 * M) / 2 ^ 8) := Nat.and_div_two_pow
  rw [show (b + 256 * y) % 2 ^ 8 = b from by omega, show (m + 256 * M) % 2 ^ 8 = m from by omega] at h1
  rw [show (b + 256 * y) / 2 ^ 8 = y from by omega, show (m + 256 * M) / 2 ^ 8 = M from by omega] at h2
  rw [← h1, ← h2]
  omega
def nB1 (M x : Nat) : Nat := x - (x / 2 &&& M)
def nB2 (M x : Nat) : Nat := (x &&& M) + (x / 4 &&& M)
def nB3 (M x : Nat) : Nat := (x + x / 16) &&& M
set_option maxRecDepth 100000 in
theorem nB_d1 : ∀ b, b < 256 → ∀ t, t < 2 → (b / 2 + 128 * t) &&& 85 = b / 2 &&& 85 := by decide +kernel
set_option maxRecDepth 100000 in
theorem nB_d2 : ∀ b, b < 256 → ∀ t, t < 4 → (b / 4 + 64 * t) &&& 51 = b / 4 &&& 51 := by decide +kernel
set_option maxRecDepth 100000 in
theorem nB_d3 : ∀ b, b < 69 → ∀ t, t < 5 → (b + b / 16 + 16 * t) &&& 15 = (b + b / 16) &&& 15 := by decide +kernel
theorem nB1_byte (b y M : Nat) (hb : b < 256) : nB1 (85 + 256 * M) (b + 256 * y) = nB1 85 b + 256 * nB1 M y := by
  unfold nB1
  rw [show (b + 256 * y) / 2 = (b / 2 + 128 * (y % 2)) + 256 * (y / 2) from by omega, and_byte _ _ _ _ (by omega) (by decide), nB_d1 b hb _ (by omega)]
  have h1 : b / 2 &&& 85 ≤ b / 2 := Nat.and_le_left
  have h2 : y / 2 &&& M ≤ y / 2 := Nat.and_le_left
  omega
theorem nB2_byte (b y M : Nat) (hb : b < 256) : nB2 (51 + 256 * M) (b + 256 * y) = nB2 51 b + 256 * nB2 M y := by
  unfold nB2
  rw [show (b + 256 * y) / 4 = (b / 4 + 64 * (y % 4)) + 256 * (y / 4) from by omega, and_byte _ _ _ _ (by omega) (by decide), and_byte _ _ _ _ hb (by decide), nB_d2 b hb _ (by omega)]
  omega
theorem nB3_byte (b y M : Nat) (hb : b < 69) (hy : y % 16 < 5) : nB3 (15 + 256 * M) (b + 256 * y) = nB3 15 b + 256 * nB3 M y := by
  unfold nB3
  rw [show b + 256 * y + (b + 256 * y) / 16 = (b + b / 16 + 16 * (y % 16)) + 256 * (y + y / 16) from by omega, and_byte _ _ _ _ (by omega) (by decide), nB_d3 b hb _ hy]
def mB (m : Nat) : Nat → Nat
  | 0 => 0
  | n + 1 => m + 256 * mB m n
theorem nB1_all : ∀ bs : List Nat, (∀ b ∈ bs, b < 256) → nB1 (mB 85 bs.length) (vB bs) = vB (bs.map (nB1 85))
  | [], _ => rfl
  | b :: bs, h => by
    show nB1 (85 + 256 * mB 85 bs.length) (b + 256 * vB bs) = nB1 85 b + 256 * vB (bs.map (nB1 85))
    rw [nB1_byte b _ _ (h b List.mem_cons_self), nB1_all bs (fun x hx => h x (List.mem_cons_of_mem _ hx))]
theorem nB2_all : ∀ bs : List Nat, (∀ b ∈ bs, b < 256) → nB2 (mB 51 bs.length) (vB bs) = vB (bs.map (nB2 51))
  | [], _ => rfl
  | b :: bs, h => by
    show nB2 (51 + 256 * mB 51 bs.length) (b + 256 * vB bs) = nB2 51 b + 256 * vB (bs.map (nB2 51))
    rw [nB2_byte b _ _ (h b List.mem_cons_self), nB2_all bs (fun x hx => h x (List.mem_cons_of_mem _ hx))]
theorem nB3_all : ∀ bs : List Nat, (∀ b ∈ bs, b < 69 ∧ b % 16 < 5) → nB3 (mB 15 bs.length) (vB bs) = vB (bs.map (nB3 15))
  | [], _ => rfl
  | b :: bs, h => by
    show nB3 (15 + 256 * mB 15 bs.length) (b + 256 * vB bs) = nB3 15 b + 256 * vB (bs.map (nB3 15))
    have hy : vB bs % 16 < 5 := by
      cases bs with
      | nil => decide
      | cons c cs =>
        have := h c (List.mem_cons_of_mem _ List.mem_cons_self)
        show (c + 256 * vB cs) % 16 < 5
        omega
    rw [nB3_byte b _ _ (h b List.mem_cons_self).1 hy, nB3_all bs (fun x hx => h x (List.mem_cons_of_mem _ hx))]
/-- the bits of a byte -/
def pB (b : Nat) : Nat := nB3 15 (nB2 51 (nB1 85 b))
set_option maxRecDepth 100000 in
theorem pB_d : ∀ b, b < 256 → nB1 85 b < 256 ∧ (nB2 51 (nB1 85 b) < 69 ∧ nB2 51 (nB1 85 b) % 16 < 5) ∧ pB b ≤ 8 := by decide +kernel
set_option maxRecDepth 100000 in
theorem pB_or : ∀ j, j < 8 → ∀ b, b < 256 → b / 2 ^ j % 2 = 0 → pB (b ||| 2 ^ j) = pB b + 1 := by decide +kernel
theorem nB_all (bs : List Nat) (h : ∀ b ∈ bs, b < 256) : nB3 (mB 15 bs.length) (nB2 (mB 51 bs.length) (nB1 (mB 85 bs.length) (vB bs))) = vB (bs.map pB) := by
  have h2 := nB2_all (bs.map (nB1 85)) (fun b hb => by
    obtain ⟨x, hx, rfl⟩ := List.mem_map.mp hb
    exact (pB_d x (h x hx)).1)
  have h3 := nB3_all ((bs.map (nB1 85)).map (nB2 51)) (fun b hb => by
    obtain ⟨y, hy, rfl⟩ := List.mem_map.mp hb
    obtain ⟨x, hx, rfl⟩ := List.mem_map.mp hy
    exact (pB_d x (h x hx)).2.1)
  rw [List.length_map] at h2
  rw [List.length_map, List.length_map] at h3
  rw [nB1_all bs h, h2, h3, List.map_map, List.map_map]
  rfl
def byB (x i : Nat) : Nat := x / 2 ^ (8 * i) % 2 ^ 8
theorem byB_or (x y i : Nat) : byB (x ||| y) i = byB x i ||| byB y i := by
  unfold byB
  rw [Nat.or_div_two_pow, Nat.or_mod_two_pow]
theorem byB_lt (x i : Nat) : byB x i < 256 := Nat.mod_lt _ (by decide)
def POPN (x : Nat) : Nat := pB (byB x 0) + pB (byB x 1) + pB (byB x 2) + pB (byB x 3) + pB (byB x 4) + pB (byB x 5) + pB (byB x 6) + pB (byB x 7)
theorem byB_step (x i j : Nat) (h : j = i + 1) : x / 2 ^ (8 * i) = byB x i + 256 * (x / 2 ^ (8 * j)) := by
  subst h
  unfold byB
  rw [show 8 * (i + 1) = 8 * i + 8 from by omega, Nat.pow_add, ← Nat.div_div_eq_div_mul]
  generalize x / 2 ^ (8 * i) = y
  omega
theorem vB_8 (x : Nat) (hx : x < 2 ^ 64) : vB [byB x 0, byB x 1, byB x 2, byB x 3, byB x 4, byB x 5, byB x 6, byB x 7] = x := by
  show byB x 0 + 256 * (byB x 1 + 256 * (byB x 2 + 256 * (byB x 3 + 256 * (byB x 4 + 256 * (byB x 5 + 256 * (byB x 6 + 256 * (byB x 7 + 256 * 0))))))) = x
  have h8 : x / 2 ^ (8 * 8) = 0 := Nat.div_eq_of_lt hx
  have h0 : x / 2 ^ (8 * 0) = x := Nat.div_one x
  have e0 := byB_step x 0 1 rfl
  have e1 := byB_step x 1 2 rfl
  have e2 := byB_step x 2 3 rfl
  have e3 := byB_step x 3 4 rfl
  have e4 := byB_step x 4 5 rfl
  have e5 := byB_step x 5 6 rfl
  have e6 := byB_step x 6 7 rfl
  have e7 := byB_step x 7 8 rfl
  rw [h8] at e7
  rw [← e7, ← e6, ← e5, ← e4, ← e3, ← e2, ← e1, ← e0, h0]
theorem tail_B (a b c d e f g h v : Nat) (ha : a ≤ 8) (hb : b ≤ 8) (hc : c ≤ 8) (hd : d ≤ 8) (he : e ≤ 8) (hf : f ≤ 8) (hg : g ≤ 8) (hh : h ≤ 8) (hv : v = a + 256 * (b + 256 * (c + 256 * (d + 256 * (e + 256 * (f + 256 * (g + 256 * h))))))) :
    ∀ v4 v5, v4 = v + v / 256 → v5 = v4 + v4 / 65536 → (v5 + v5 / 4294967296) % 128 = a + b + c + d + e + f + g + h := fun v4 v5 h4 h5 => by
  have e1 : v / 256 = b + 256 * (c + 256 * (d + 256 * (e + 256 * (f + 256 * (g + 256 * h))))) := by omega
  have w4 : v4 = (a + b) + 256 * (b + c) + 65536 * ((c + d) + 256 * (d + e) + 65536 * (e + f) + 16777216 * (f + g) + 4294967296 * (g + h) + 1099511627776 * h) := by omega
  have e2 : v4 / 65536 = (c + d) + 256 * (d + e) + 65536 * (e + f) + 16777216 * (f + g) + 4294967296 * (g + h) + 1099511627776 * h := by omega
  have w5 : v5 = (a + b + c + d) + 256 * (b + c + d + e) + 65536 * (c + d + e + f) + 16777216 * (d + e + f + g) + 4294967296 * ((e + f + g + h) + 256 * (f + g + h) + 65536 * (g + h) + 16777216 * h) := by omega
  have e3 : v5 / 4294967296 = (e + f + g + h) + 256 * (f + g + h) + 65536 * (g + h) + 16777216 * h := by omega
  have w6 : v5 + v5 / 4294967296 = (a + b + c + d + e + f + g + h) + 256 * ((b + c + d + e) + 256 * (c + d + e + f) + 65536 * (d + e + f + g) + 16777216 * ((e + f + g + h) + 256 * (f + g + h) + 65536 * (g + h) + 16777216 * h) + (f + g + h) + 256 * (g + h) + 65536 * h) := by omega
  omega
/-- a power of two, by bytes -/
theorem POPN_or (x c : Nat) (hc : c < 64) (hb : x / 2 ^ c % 2 = 0) : POPN (x ||| 2 ^ c) = POPN x + 1 := by
  have hi : ∀ i j, j < 8 → c = 8 * i + j → pB (byB x i ||| 2 ^ j) = pB (byB x i) + 1 := fun i j hj e => by
    refine pB_or j hj _ (byB_lt x i) ?_
    unfold byB
    rw [e, Nat.pow_add, ← Nat.div_div_eq_div_mul] at hb
    have hj8 : j = 0 ∨ j = 1 ∨ j = 2 ∨ j = 3 ∨ j = 4 ∨ j = 5 ∨ j = 6 ∨ j = 7 := by omega
    generalize x / 2 ^ (8 * i) = y at hb ⊢
    rcases hj8 with rfl | rfl | rfl | rfl | rfl | rfl | rfl | rfl <;> omega
  have key : ∀ c, c < 64 → ∀ k, k < 8 → byB (2 ^ c) k = if k = c / 8 then 2 ^ (c % 8) else 0 := by decide +kernel
  have k0 := key c hc
  have up := hi (c / 8) (c % 8) (by omega) (by omega)
  have e9 : ∀ k, k < 8 → pB (byB (x ||| 2 ^ c) k) = pB (byB x k) + (if k = c / 8 then 1 else 0) := fun k hk => by
    rw [byB_or, k0 k hk]
    by_cases p : k = c / 8
    · rw [if_pos p, if_pos p, p]
      exact up
    · rw [if_neg p, if_neg p, Nat.or_zero, Nat.add_zero]
  unfold POPN
  rw [e9 0 (by decide), e9 1 (by decide), e9 2 (by decide), e9 3 (by decide), e9 4 (by decide), e9 5 (by decide), e9 6 (by decide), e9 7 (by decide)]
  have h8 : c / 8 < 8 := by omega
  generalize c / 8 = q at h8 ⊢
  have hq : q = 0 ∨ q = 1 ∨ q = 2 ∨ q = 3 ∨ q = 4 ∨ q = 5 ∨ q = 6 ∨ q = 7 := by omega
  rcases hq with rfl | rfl | rfl | rfl | rfl | rfl | rfl | rfl <;> first | (simp; done) | (simp; omega) | omega
end
