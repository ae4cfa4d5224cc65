section
/-! counting bits: the JDK's way over eight bytes, each for itself -/
def vlB : List Nat → Nat
  | [] => 0
  | b :: bs => b + 256 * vlB bs
theorem and_byte (b y m M : Nat) (hb : b < 256) (hm : m < 256) : (b + 256 * y) &&& (m + 256 * M) = (b &&& m) + 256 * (y &&& M) := by
  have h1 : ((b + 256 * y) &&& (m + 256 * M)) % 2 ^ 8 = ((b + 256 * y) % 2 ^ 8) &&& ((m + 256 * M) % 2 ^ 8) := Nat.and_mod_two_pow
  have h2 : ((b + 256 * y) &&& (m + 256 * M)) / 2 ^ 8 = ((b + 256 * y) / 2 ^ 8) &&& ((m + 256 * M) / 2 ^ 8) := Nat.and_div_two_pow
  rw [show (b + 256 * y) % 2 ^ 8 = b from by omega, show (m + 256 * M) % 2 ^ 8 = m from by omega] at h1
  rw [show (b + 256 * y) / 2 ^ 8 = y from by omega, show (m + 256 * M) / 2 ^ 8 = M from by omega] at h2
  rw [← h1, ← h2]
  omega
/-- a check of all numbers below n -/
def ckB (f : Nat → Bool) : Nat → Bool
  | 0 => true
  | n + 1 => f n && ckB f n
theorem ckB_all {f : Nat → Bool} : ∀ {n : Nat}, ckB f n = true → ∀ k, k < n → f k = true
  | 0, _, k, hk => absurd hk (Nat.not_lt_zero k)
  | n + 1, h, k, hk => by
    have h : (f n && ckB f n) = true := h
    rw [Bool.and_eq_true] at h
    by_cases q : k = n
    · rw [q]
      exact h.1
    · exact ckB_all h.2 k (by omega)
def nB1 (M x : Nat) : Nat := x - (x / 2 &&& M)
def nB2 (M x : Nat) : Nat := (x &&& M) + (x / 4 &&& M)
def nB3 (M x : Nat) : Nat := (x + x / 16) &&& M
set_option maxRecDepth 100000 in
theorem nB_c1 : ckB (fun b => ckB (fun s => ((b / 2 + 128 * s) &&& 85) == (b / 2 &&& 85)) 2) 256 = true := by decide +kernel
set_option maxRecDepth 100000 in
theorem nB_c2 : ckB (fun b => ckB (fun s => ((b / 4 + 64 * s) &&& 51) == (b / 4 &&& 51)) 4) 256 = true := by decide +kernel
set_option maxRecDepth 100000 in
theorem nB_c3 : ckB (fun b => ckB (fun s => ((b + b / 16 + 16 * s) &&& 15) == ((b + b / 16) &&& 15)) 5) 69 = true := by decide +kernel
theorem nB_d1 (b : Nat) (hb : b < 256) (s : Nat) (hs : s < 2) : (b / 2 + 128 * s) &&& 85 = b / 2 &&& 85 := eq_of_beq (ckB_all (ckB_all nB_c1 b hb) s hs)
theorem nB_d2 (b : Nat) (hb : b < 256) (s : Nat) (hs : s < 4) : (b / 4 + 64 * s) &&& 51 = b / 4 &&& 51 := eq_of_beq (ckB_all (ckB_all nB_c2 b hb) s hs)
theorem nB_d3 (b : Nat) (hb : b < 69) (s : Nat) (hs : s < 5) : (b + b / 16 + 16 * s) &&& 15 = (b + b / 16) &&& 15 := eq_of_beq (ckB_all (ckB_all nB_c3 b hb) s hs)
theorem nB1_byte (b y M : Nat) (hb : b < 256) : nB1 (85 + 256 * M) (b + 256 * y) = nB1 85 b + 256 * nB1 M y := by
  unfold nB1
  rw [show (b + 256 * y) / 2 = (b / 2 + 128 * (y % 2)) + 256 * (y / 2) from by omega, and_byte _ _ _ _ (by omega) (by decide), nB_d1 b hb _ (by omega)]
  have h1 : b / 2 &&& 85 ≤ b / 2 := Nat.and_le_left
  have h2 : y / 2 &&& M ≤ y / 2 := Nat.and_le_left
  omega
theorem nB2_byte (b y M : Nat) (hb : b < 256) : nB2 (51 + 256 * M) (b + 256 * y) = nB2 51 b + 256 * nB2 M y := by
  unfold nB2
  rw [show (b + 256 * y) / 4 = (b / 4 + 64 * (y % 4)) + 256 * (y / 4) from by omega, and_byte b y 51 M hb (by decide), and_byte _ _ _ _ (by omega) (by decide), nB_d2 b hb _ (by omega)]
  omega
theorem nB3_byte (b y M : Nat) (hb : b < 69) (hy : y % 16 < 5) : nB3 (15 + 256 * M) (b + 256 * y) = nB3 15 b + 256 * nB3 M y := by
  unfold nB3
  rw [show b + 256 * y + (b + 256 * y) / 16 = (b + b / 16 + 16 * (y % 16)) + 256 * (y + y / 16) from by omega, and_byte _ _ _ _ (by omega) (by decide), nB_d3 b hb _ hy]
def mkB8 (m : Nat) : Nat → Nat
  | 0 => 0
  | n + 1 => m + 256 * mkB8 m n
theorem nB1_all : ∀ bs : List Nat, (∀ b ∈ bs, b < 256) → nB1 (mkB8 85 bs.length) (vlB bs) = vlB (bs.map (nB1 85))
  | [], _ => rfl
  | b :: bs, h => by
    show nB1 (85 + 256 * mkB8 85 bs.length) (b + 256 * vlB bs) = nB1 85 b + 256 * vlB (bs.map (nB1 85))
    rw [nB1_byte b _ _ (h b List.mem_cons_self), nB1_all bs (fun x hx => h x (List.mem_cons_of_mem _ hx))]
theorem nB2_all : ∀ bs : List Nat, (∀ b ∈ bs, b < 256) → nB2 (mkB8 51 bs.length) (vlB bs) = vlB (bs.map (nB2 51))
  | [], _ => rfl
  | b :: bs, h => by
    show nB2 (51 + 256 * mkB8 51 bs.length) (b + 256 * vlB bs) = nB2 51 b + 256 * vlB (bs.map (nB2 51))
    rw [nB2_byte b _ _ (h b List.mem_cons_self), nB2_all bs (fun x hx => h x (List.mem_cons_of_mem _ hx))]
theorem nB3_all : ∀ bs : List Nat, (∀ b ∈ bs, b < 69 ∧ b % 16 < 5) → nB3 (mkB8 15 bs.length) (vlB bs) = vlB (bs.map (nB3 15))
  | [], _ => rfl
  | b :: bs, h => by
    show nB3 (15 + 256 * mkB8 15 bs.length) (b + 256 * vlB bs) = nB3 15 b + 256 * vlB (bs.map (nB3 15))
    have hy : vlB bs % 16 < 5 := by
      cases bs with
      | nil => decide
      | cons c cs =>
        have := h c (List.mem_cons_of_mem _ List.mem_cons_self)
        show (c + 256 * vlB cs) % 16 < 5
        omega
    rw [nB3_byte b _ _ (h b List.mem_cons_self).1 hy, nB3_all bs (fun x hx => h x (List.mem_cons_of_mem _ hx))]
/-- the bits of a byte -/
def puB (b : Nat) : Nat := nB3 15 (nB2 51 (nB1 85 b))
set_option maxRecDepth 100000 in
theorem pB_c : ckB (fun b => Nat.blt (nB1 85 b) 256 && (Nat.blt (nB2 51 (nB1 85 b)) 69 && (Nat.blt (nB2 51 (nB1 85 b) % 16) 5 && Nat.ble (puB b) 8))) 256 = true := by decide +kernel
theorem pB_d (b : Nat) (hb : b < 256) : nB1 85 b < 256 ∧ (nB2 51 (nB1 85 b) < 69 ∧ nB2 51 (nB1 85 b) % 16 < 5) ∧ puB b ≤ 8 := by
  have h := ckB_all pB_c b hb
  rw [Bool.and_eq_true, Bool.and_eq_true, Bool.and_eq_true] at h
  exact ⟨Nat.le_of_ble_eq_true h.1, ⟨Nat.le_of_ble_eq_true h.2.1, Nat.le_of_ble_eq_true h.2.2.1⟩, Nat.le_of_ble_eq_true h.2.2.2⟩
set_option maxRecDepth 100000 in
theorem pB_c2 : ckB (fun j => ckB (fun b => b / 2 ^ j % 2 == 1 || puB (b ||| 2 ^ j) == puB b + 1) 256) 8 = true := by decide +kernel
theorem pB_or (j : Nat) (hj : j < 8) (b : Nat) (hb : b < 256) (h : b / 2 ^ j % 2 = 0) : puB (b ||| 2 ^ j) = puB b + 1 := by
  have q := ckB_all (ckB_all pB_c2 j hj) b hb
  rw [Bool.or_eq_true] at q
  rcases q with q | q
  · have q := eq_of_beq q
    rw [h] at q
    exact absurd q (by decide)
  · exact eq_of_beq q
theorem nB_all (bs : List Nat) (h : ∀ b ∈ bs, b < 256) : nB3 (mkB8 15 bs.length) (nB2 (mkB8 51 bs.length) (nB1 (mkB8 85 bs.length) (vlB bs))) = vlB (bs.map puB) := by
  have h2 := nB2_all (bs.map (nB1 85)) (fun b hb => by
    obtain ⟨x, hx, rfl⟩ := List.mem_map.mp hb
    exact (pB_d x (h x hx)).1)
  have h3 := nB3_all ((bs.map (nB1 85)).map (nB2 51)) (fun b hb => by
    obtain ⟨y, hy, rfl⟩ := List.mem_map.mp hb
    obtain ⟨x, hx, rfl⟩ := List.mem_map.mp hy
    exact (pB_d x (h x hx)).2.1)
  rw [List.length_map] at h2
  rw [List.length_map, List.length_map] at h3
  rw [nB1_all bs h, h2, h3, List.map_map, List.map_map]
  rfl
def byB (x i : Nat) : Nat := x / 2 ^ (8 * i) % 2 ^ 8
theorem byB_or (x y i : Nat) : byB (x ||| y) i = byB x i ||| byB y i := by
  unfold byB
  rw [Nat.or_div_two_pow, Nat.or_mod_two_pow]
theorem byB_lt (x i : Nat) : byB x i < 256 := Nat.mod_lt _ (by decide)
def POPN (x : Nat) : Nat := puB (byB x 0) + puB (byB x 1) + puB (byB x 2) + puB (byB x 3) + puB (byB x 4) + puB (byB x 5) + puB (byB x 6) + puB (byB x 7)
theorem byB_step (x i j : Nat) (h : j = i + 1) : x / 2 ^ (8 * i) = byB x i + 256 * (x / 2 ^ (8 * j)) := by
  subst h
  unfold byB
  rw [show 8 * (i + 1) = 8 * i + 8 from by omega, Nat.pow_add, ← Nat.div_div_eq_div_mul]
  generalize x / 2 ^ (8 * i) = y
  omega
theorem vB_8 (x : Nat) (hx : x < 2 ^ 64) : vlB [byB x 0, byB x 1, byB x 2, byB x 3, byB x 4, byB x 5, byB x 6, byB x 7] = x := by
  show byB x 0 + 256 * (byB x 1 + 256 * (byB x 2 + 256 * (byB x 3 + 256 * (byB x 4 + 256 * (byB x 5 + 256 * (byB x 6 + 256 * (byB x 7 + 256 * 0))))))) = x
  have h8 : x / 2 ^ (8 * 8) = 0 := Nat.div_eq_of_lt hx
  have h0 : x / 2 ^ (8 * 0) = x := Nat.div_one x
  have e0 := byB_step x 0 1 rfl
  have e1 := byB_step x 1 2 rfl
  have e2 := byB_step x 2 3 rfl
  have e3 := byB_step x 3 4 rfl
  have e4 := byB_step x 4 5 rfl
  have e5 := byB_step x 5 6 rfl
  have e6 := byB_step x 6 7 rfl
  have e7 := byB_step x 7 8 rfl
  rw [h8] at e7
  rw [← e7, ← e6, ← e5, ← e4, ← e3, ← e2, ← e1, ← e0, h0]
theorem tlb_q {k q r v : Nat} (hk : 0 < k) (hr : r < k) (h : v = r + k * q) : v / k = q := by
  rw [h, Nat.add_mul_div_left _ _ hk, Nat.div_eq_of_lt hr, Nat.zero_add]
theorem tlb_1 {a b c d e f g h y1 y2 v4 : Nat} (h1 : y1 = b + 256 * (c + 256 * (d + 256 * (e + 256 * (f + 256 * (g + 256 * h)))))) (h2 : y2 = (c + d) + 256 * (d + e) + 65536 * (e + f) + 16777216 * (f + g) + 4294967296 * (g + h) + 1099511627776 * h) (h4 : v4 = a + 256 * y1 + y1) : v4 = (a + b + 256 * (b + c)) + 65536 * y2 := by omega
theorem tlb_2 {a b c d e f g h y2 y3 v5 : Nat} (h2 : y2 = (c + d) + 256 * (d + e) + 65536 * (e + f) + 16777216 * (f + g) + 4294967296 * (g + h) + 1099511627776 * h) (h3 : y3 = (e + f + g + h) + 256 * (f + g + h) + 65536 * (g + h) + 16777216 * h) (h5 : v5 = (a + b + 256 * (b + c)) + 65536 * y2 + y2) : v5 = (a + b + c + d + 256 * (b + c + d + e) + 65536 * (c + d + e + f) + 16777216 * (d + e + f + g)) + 4294967296 * y3 := by omega
theorem tlb_3 {a b c d e f g h y3 v5 : Nat} (h3 : y3 = (e + f + g + h) + 256 * (f + g + h) + 65536 * (g + h) + 16777216 * h) (h5 : v5 = (a + b + c + d + 256 * (b + c + d + e) + 65536 * (c + d + e + f) + 16777216 * (d + e + f + g)) + 4294967296 * y3) : v5 + y3 = (a + b + c + d + e + f + g + h) + 128 * (2 * (b + c + d + e) + 512 * (c + d + e + f) + 131072 * (d + e + f + g) + 33554432 * y3 + 2 * (f + g + h) + 512 * (g + h) + 131072 * h) := by omega
theorem tlb_b1 (a b c : Nat) (ha : a ≤ 8) (hb : b ≤ 8) (hc : c ≤ 8) : a + b + 256 * (b + c) < 65536 := by omega
theorem tlb_b2 (a b c d e f g : Nat) (ha : a ≤ 8) (hb : b ≤ 8) (hc : c ≤ 8) (hd : d ≤ 8) (he : e ≤ 8) (hf : f ≤ 8) (hg : g ≤ 8) : a + b + c + d + 256 * (b + c + d + e) + 65536 * (c + d + e + f) + 16777216 * (d + e + f + g) < 4294967296 := by omega
theorem tlb_b0 (a : Nat) (ha : a ≤ 8) : a < 256 := by omega
theorem tlb_s (a b c d e f g h : Nat) (ha : a ≤ 8) (hb : b ≤ 8) (hc : c ≤ 8) (hd : d ≤ 8) (he : e ≤ 8) (hf : f ≤ 8) (hg : g ≤ 8) (hh : h ≤ 8) : a + b + c + d + e + f + g + h < 128 := by omega
theorem tlb_m (s z : Nat) (h : s < 128) : (s + 128 * z) % 128 = s := by rw [Nat.add_mul_mod_self_left, Nat.mod_eq_of_lt h]
theorem tail_B (a b c d e f g h v : Nat) (ha : a ≤ 8) (hb : b ≤ 8) (hc : c ≤ 8) (hd : d ≤ 8) (he : e ≤ 8) (hf : f ≤ 8) (hg : g ≤ 8) (hh : h ≤ 8) (hv : v = a + 256 * (b + 256 * (c + 256 * (d + 256 * (e + 256 * (f + 256 * (g + 256 * h))))))) :
    ∀ v4 v5, v4 = v + v / 256 → v5 = v4 + v4 / 65536 → (v5 + v5 / 4294967296) % 128 = a + b + c + d + e + f + g + h := fun v4 v5 h4 h5 => by
  obtain ⟨y1, h1⟩ : ∃ y, y = b + 256 * (c + 256 * (d + 256 * (e + 256 * (f + 256 * (g + 256 * h))))) := ⟨_, rfl⟩
  obtain ⟨y2, h2⟩ : ∃ y, y = (c + d) + 256 * (d + e) + 65536 * (e + f) + 16777216 * (f + g) + 4294967296 * (g + h) + 1099511627776 * h := ⟨_, rfl⟩
  obtain ⟨y3, h3⟩ : ∃ y, y = (e + f + g + h) + 256 * (f + g + h) + 65536 * (g + h) + 16777216 * h := ⟨_, rfl⟩
  rw [← h1] at hv
  have e1 : v / 256 = y1 := tlb_q (Nat.succ_pos 255) (tlb_b0 a ha) hv
  rw [e1, hv] at h4
  have w4 := tlb_1 h1 h2 h4
  have e2 : v4 / 65536 = y2 := tlb_q (Nat.succ_pos 65535) (tlb_b1 a b c ha hb hc) w4
  rw [e2, w4] at h5
  have w5 := tlb_2 h2 h3 h5
  have e3 : v5 / 4294967296 = y3 := tlb_q (Nat.succ_pos 4294967295) (tlb_b2 a b c d e f g ha hb hc hd he hf hg) w5
  rw [e3, tlb_3 h3 w5]
  exact tlb_m _ _ (tlb_s a b c d e f g h ha hb hc hd he hf hg hh)
set_option maxRecDepth 100000 in
theorem byB_c : ckB (fun c => ckB (fun k => byB (2 ^ c) k == if k = c / 8 then 2 ^ (c % 8) else 0) 8) 64 = true := by decide +kernel
/-- a power of two, by bytes -/
theorem POPN_or (x c : Nat) (hc : c < 64) (hb : x / 2 ^ c % 2 = 0) : POPN (x ||| 2 ^ c) = POPN x + 1 := by
  have hi : ∀ i j, j < 8 → c = 8 * i + j → puB (byB x i ||| 2 ^ j) = puB (byB x i) + 1 := fun i j hj e => by
    refine pB_or j hj _ (byB_lt x i) ?_
    unfold byB
    rw [e, Nat.pow_add, ← Nat.div_div_eq_div_mul] at hb
    have hj8 : j = 0 ∨ j = 1 ∨ j = 2 ∨ j = 3 ∨ j = 4 ∨ j = 5 ∨ j = 6 ∨ j = 7 := by omega
    generalize x / 2 ^ (8 * i) = y at hb ⊢
    rcases hj8 with rfl | rfl | rfl | rfl | rfl | rfl | rfl | rfl <;> omega
  have k0 : ∀ k, k < 8 → byB (2 ^ c) k = if k = c / 8 then 2 ^ (c % 8) else 0 := fun k hk => eq_of_beq (ckB_all (ckB_all byB_c c hc) k hk)
  have up := hi (c / 8) (c % 8) (by omega) (by omega)
  have e9 : ∀ k, k < 8 → puB (byB (x ||| 2 ^ c) k) = puB (byB x k) + (if k = c / 8 then 1 else 0) := fun k hk => by
    rw [byB_or, k0 k hk]
    by_cases p : k = c / 8
    · rw [if_pos p, if_pos p, p]
      exact up
    · rw [if_neg p, if_neg p, Nat.or_zero, Nat.add_zero]
  unfold POPN
  rw [e9 0 (by decide), e9 1 (by decide), e9 2 (by decide), e9 3 (by decide), e9 4 (by decide), e9 5 (by decide), e9 6 (by decide), e9 7 (by decide)]
  have h8 : c / 8 < 8 := by omega
  generalize c / 8 = q at h8 ⊢
  have hq : q = 0 ∨ q = 1 ∨ q = 2 ∨ q = 3 ∨ q = 4 ∨ q = 5 ∨ q = 6 ∨ q = 7 := by omega
  rcases hq with rfl | rfl | rfl | rfl | rfl | rfl | rfl | rfl <;> first | (simp; done) | (simp; omega) | omega
end
