section
/-! plain facts on numbers and arrays, to paste: each family by itself; over the kit's rows on nI and upd -/
/-! ===== order of ints, in all its forms, and through longs ===== -/
theorem fa_lt (a b : Int32) : a < b ↔ a.toInt < b.toInt := Int32.lt_iff_toInt_lt
theorem fa_le (a b : Int32) : a ≤ b ↔ a.toInt ≤ b.toInt := Int32.le_iff_toInt_le
theorem fa_eq (a b : Int32) : a = b ↔ a.toInt = b.toInt := Int32.toInt_inj.symm
theorem fa_lt64 (a b : Int64) : a < b ↔ a.toInt < b.toInt := Int64.lt_iff_toInt_lt
theorem fa_le64 (a b : Int64) : a ≤ b ↔ a.toInt ≤ b.toInt := Int64.le_iff_toInt_le
theorem fa_eq64 (a b : Int64) : a = b ↔ a.toInt = b.toInt := Int64.toInt_inj.symm
/-- a comparison of two ints taken as longs -/
theorem fa_wide_lt (a b : Int32) : a.toInt64 < b.toInt64 ↔ a < b := by rw [fa_lt64, fa_lt, Int32.toInt_toInt64, Int32.toInt_toInt64]
theorem fa_wide_le (a b : Int32) : a.toInt64 ≤ b.toInt64 ↔ a ≤ b := by rw [fa_le64, fa_le, Int32.toInt_toInt64, Int32.toInt_toInt64]
theorem fa_wide_eq (a b : Int32) : a.toInt64 = b.toInt64 ↔ a = b := by rw [fa_eq64, fa_eq, Int32.toInt_toInt64, Int32.toInt_toInt64]
/-- one strict comparison gives all the others -/
theorem fa_of_lt {a b : Int32} (h : a < b) : a ≤ b ∧ ¬ b ≤ a ∧ ¬ b < a ∧ a ≠ b ∧ b ≠ a := by
  rw [fa_lt] at h
  refine ⟨?_, ?_, ?_, ?_, ?_⟩
  · rw [fa_le]; omega
  · rw [fa_le]; omega
  · rw [fa_lt]; omega
  · intro e; rw [fa_eq] at e; omega
  · intro e; rw [fa_eq] at e; omega
theorem fa_of_nlt {a b : Int32} (h : ¬ a < b) : b ≤ a := by
  rw [fa_lt] at h
  rw [fa_le]
  omega
theorem fa_of_nle {a b : Int32} (h : ¬ a ≤ b) : b < a := by
  rw [fa_le] at h
  rw [fa_lt]
  omega
theorem fa_le_ne {a b : Int32} (h : a ≤ b) (h2 : a ≠ b) : a < b := by
  rw [fa_le] at h
  rw [fa_lt]
  have h3 : a.toInt ≠ b.toInt := fun e => h2 ((fa_eq a b).mpr e)
  omega
theorem fa_three (a b : Int32) : a < b ∨ a = b ∨ b < a := by
  rw [fa_lt, fa_lt, fa_eq]
  omega
theorem fa_trans {a b c : Int32} (h : a < b) (h2 : b ≤ c) : a < c := by
  rw [fa_lt] at *
  rw [fa_le] at h2
  omega
/-! ===== small literals as numbers ===== -/
theorem fa_lit (n : Nat) : (OfNat.ofNat n : Int32) = nI n := rfl
theorem fa_litL (n : Nat) : (OfNat.ofNat n : Int64) = lN n := rfl
/-! ===== bits of a number: 'or', masks, one bit ===== -/
theorem fa_and (a b : Nat) : nI a &&& nI b = nI (a &&& b) := by
  apply Int32.toBitVec_inj.1
  show BitVec.ofNat 32 a &&& BitVec.ofNat 32 b = BitVec.ofNat 32 (a &&& b)
  apply BitVec.eq_of_getLsbD_eq
  intro i hi
  simp [hi]
theorem fa_or (a b : Nat) : nI a ||| nI b = nI (a ||| b) := by
  apply Int32.toBitVec_inj.1
  show BitVec.ofNat 32 a ||| BitVec.ofNat 32 b = BitVec.ofNat 32 (a ||| b)
  apply BitVec.eq_of_getLsbD_eq
  intro i hi
  simp [hi]
/-- a remainder by a power of two, as a mask -/
theorem fa_mask (n k : Nat) : nI n &&& nI (2 ^ k - 1) = nI (n % 2 ^ k) := by rw [fa_and, Nat.and_two_pow_sub_one_eq_mod]
/-- 'or' of a high part and a low one that don't meet is their sum -/
theorem fa_or_sum {a k : Nat} (b : Nat) (h : a < 2 ^ k) : nI (2 ^ k * b) ||| nI a = nI (2 ^ k * b + a) := by rw [fa_or, Nat.two_pow_add_eq_or_of_lt h]
/-- one bit, by 'and' with a power of two -/
theorem fa_bit {n j : Nat} (hj : j < 31) : nI n &&& nI (2 ^ j) = 0 ↔ n.testBit j = false := by
  have h2 : (2 : Nat) ^ j < 2 ^ 31 := Nat.pow_lt_pow_right (by decide) hj
  have hle : n &&& 2 ^ j ≤ 2 ^ j := Nat.and_le_right
  have e : n &&& 2 ^ j = 0 ↔ n.testBit j = false := by
    constructor
    · intro h
      have h1 : (n &&& 2 ^ j).testBit j = false := by rw [h]; simp
      rw [Nat.testBit_and] at h1
      first | simpa using h1 | simpa [Nat.testBit_two_pow_self] using h1 | simpa [Nat.testBit_two_pow] using h1
    · intro h
      apply Nat.eq_of_testBit_eq
      intro i
      rw [Nat.testBit_and]
      by_cases hi : j = i
      · subst hi; simp [h]
      · first | (simp [Nat.testBit_two_pow, hi]; done) | (simp [Nat.testBit_two_pow_of_ne hi]; done)
  rw [fa_and]
  constructor
  · intro h
    apply e.mp
    rcases Nat.eq_zero_or_pos (n &&& 2 ^ j) with z | z
    · exact z
    · exact absurd h (nI_ne0 z (Nat.lt_of_le_of_lt hle h2))
  · intro h
    rw [e.mpr h]; exact nI_0
/-- a remainder by a power of two of a number that isn't negative, as Java divides -/
theorem fa_rem {a k : Nat} (ha : a < 2 ^ 31) (hk : k < 31) : nI a - nI a / nI (2 ^ k) * nI (2 ^ k) = nI (a % 2 ^ k) := pk_rem ha (Nat.two_pow_pos k) (Nat.pow_lt_pow_right (by decide) hk)
/-! ===== cuts to a byte, a short ===== -/
theorem fa_byte_xor (x y : Int32) : (x ^^^ y).toInt8 = x.toInt8 ^^^ y.toInt8 := by
  apply Int8.toBitVec_inj.1
  apply BitVec.eq_of_getLsbD_eq
  intro i hi
  first | (simp [hi]; done) | (simp [hi, BitVec.getLsbD_setWidth, BitVec.getLsbD_signExtend]; done)
theorem fa_short_xor (x y : Int32) : (x ^^^ y).toInt16 = x.toInt16 ^^^ y.toInt16 := by
  apply Int16.toBitVec_inj.1
  apply BitVec.eq_of_getLsbD_eq
  intro i hi
  first | (simp [hi]; done) | (simp [hi, BitVec.getLsbD_setWidth, BitVec.getLsbD_signExtend]; done)
/-- the cut to a byte sees the low byte alone -/
theorem fa_byte_low (x : Int32) : (x &&& 255).toInt8 = x.toInt8 := by
  apply Int8.toBitVec_inj.1
  apply BitVec.eq_of_getLsbD_eq
  intro i hi
  have h2 : (255 : Int32).toBitVec.getLsbD i = true := by
    have : ∀ j : Fin 8, (255 : Int32).toBitVec.getLsbD j.val = true := by decide +kernel
    exact this ⟨i, hi⟩
  have h4 : (x &&& 255).toBitVec.getLsbD i = x.toBitVec.getLsbD i := by
    show (x.toBitVec &&& (255 : Int32).toBitVec).getLsbD i = _
    rw [BitVec.getLsbD_and, h2, Bool.and_true]
  have h3 : i < 32 := by omega
  first
    | (show (((x &&& 255).toBitVec).signExtend 8).getLsbD i = (x.toBitVec.signExtend 8).getLsbD i; rw [BitVec.getLsbD_signExtend, BitVec.getLsbD_signExtend, if_pos h3, if_pos h3, h4])
    | (show (((x &&& 255).toBitVec).setWidth 8).getLsbD i = (x.toBitVec.setWidth 8).getLsbD i; rw [BitVec.getLsbD_setWidth, BitVec.getLsbD_setWidth, h4])
    | (simp [hi, h3, h4]; done)
theorem fa_short_low (x : Int32) : (x &&& 65535).toInt16 = x.toInt16 := by
  apply Int16.toBitVec_inj.1
  apply BitVec.eq_of_getLsbD_eq
  intro i hi
  have h2 : (65535 : Int32).toBitVec.getLsbD i = true := by
    have : ∀ j : Fin 16, (65535 : Int32).toBitVec.getLsbD j.val = true := by decide +kernel
    exact this ⟨i, hi⟩
  have h4 : (x &&& 65535).toBitVec.getLsbD i = x.toBitVec.getLsbD i := by
    show (x.toBitVec &&& (65535 : Int32).toBitVec).getLsbD i = _
    rw [BitVec.getLsbD_and, h2, Bool.and_true]
  have h3 : i < 32 := by omega
  first
    | (show (((x &&& 65535).toBitVec).signExtend 16).getLsbD i = (x.toBitVec.signExtend 16).getLsbD i; rw [BitVec.getLsbD_signExtend, BitVec.getLsbD_signExtend, if_pos h3, if_pos h3, h4])
    | (show (((x &&& 65535).toBitVec).setWidth 16).getLsbD i = (x.toBitVec.setWidth 16).getLsbD i; rw [BitVec.getLsbD_setWidth, BitVec.getLsbD_setWidth, h4])
    | (simp [hi, h3, h4]; done)
/-- a small number is its own byte, its own short -/
theorem fa_byte_small {n : Nat} (h : n < 128) : (nI n).toInt8.toInt32 = nI n := by
  have : ∀ j : Fin 128, (nI j.val).toInt8.toInt32 = nI j.val := by decide +kernel
  exact this ⟨n, h⟩
/-! ===== absolute difference ===== -/
theorem fa_absdiff {a b : Nat} (ha : a < 2 ^ 31) (hb : b < 2 ^ 31) : (if nI a < nI b then nI b - nI a else nI a - nI b) = nI (if a < b then b - a else a - b) := by
  by_cases h : a < b
  · rw [if_pos (nI_lt h hb), if_pos h]
    exact pk_sub (Nat.le_of_lt h)
  · rw [if_neg (nI_nlt (Nat.le_of_not_lt h) ha), if_neg h]
    exact pk_sub (Nat.le_of_not_lt h)
/-! ===== an array behind i stores, a conditional store, a row copied ===== -/
/-- f where k < i, what stood there else -/
def fa_fill {α : Type} (f g : Nat → α) (i : Nat) : Nat → α := fun k => if k < i then f k else g k
theorem fa_fill_0 {α : Type} (f g : Nat → α) : fa_fill f g 0 = g := funext fun k => if_neg (Nat.not_lt_zero k)
theorem fa_fill_in {α : Type} {f g : Nat → α} {i k : Nat} (h : k < i) : fa_fill f g i k = f k := if_pos h
theorem fa_fill_out {α : Type} {f g : Nat → α} {i k : Nat} (h : i ≤ k) : fa_fill f g i k = g k := if_neg (Nat.not_lt.mpr h)
theorem fa_fill_succ (f g : Nat → Int32) (i : Nat) : upd (fa_fill f g i) i (f i) = fa_fill f g (i + 1) := by
  funext k
  by_cases e : k = i
  · subst e
    rw [pk_us]
    exact (if_pos (Nat.lt_succ_self k)).symm
  · rw [pk_un e]
    by_cases h : k < i
    · rw [fa_fill_in h, fa_fill_in (Nat.lt_succ_of_lt h)]
    · rw [fa_fill_out (Nat.le_of_not_lt h), fa_fill_out (by omega)]
/-- a store that changes nothing -/
theorem fa_upd_same {f : Nat → Int32} {i : Nat} {x : Int32} (h : f i = x) : upd f i x = f := by
  funext k
  by_cases e : k = i
  · subst e
    rw [pk_us, h]
  · rw [pk_un e]
/-- a store under a condition, told as one -/
theorem fa_upd_if (c : Prop) [Decidable c] (f : Nat → Int32) (i : Nat) (x : Int32) : (if c then upd f i x else f) = upd f i (if c then x else f i) := by
  by_cases h : c
  · rw [if_pos h, if_pos h]
  · rw [if_neg h, if_neg h, fa_upd_same rfl]
/-- two stores at one place, at two -/
theorem fa_upd_twice (f : Nat → Int32) (i : Nat) (x y : Int32) : upd (upd f i x) i y = upd f i y := by
  funext k
  by_cases e : k = i
  · subst e
    rw [pk_us, pk_us]
  · rw [pk_un e, pk_un e, pk_un e]
theorem fa_upd_swap (f : Nat → Int32) {i j : Nat} (h : i ≠ j) (x y : Int32) : upd (upd f i x) j y = upd (upd f j y) i x := by
  funext k
  by_cases e : k = i
  · subst e
    rw [pk_un h, pk_us, pk_us]
  · by_cases e2 : k = j
    · subst e2
      rw [pk_us, pk_un e, pk_us]
    · rw [pk_un e2, pk_un e, pk_un e, pk_un e2]
/-! ===== the first index with a property; a count ===== -/
/-- the first k < n with p k, n if there is none -/
def fa_first (p : Nat → Bool) : Nat → Nat
  | 0 => 0
  | n + 1 => if fa_first p n < n then fa_first p n else if p n then n else n + 1
theorem fa_first_le (p : Nat → Bool) : ∀ n, fa_first p n ≤ n
  | 0 => Nat.le_refl 0
  | n + 1 => by
    have ih := fa_first_le p n
    unfold fa_first
    split
    · omega
    · split
      · omega
      · omega
theorem fa_first_no (p : Nat → Bool) : ∀ n k, k < fa_first p n → p k = false
  | 0, k, h => absurd h (Nat.not_lt_zero k)
  | n + 1, k, h => by
    have ih := fa_first_no p n
    have hl := fa_first_le p n
    unfold fa_first at h
    split at h
    · exact ih k h
    · rename_i h1
      split at h
      · exact ih k (by omega)
      · rename_i h2
        by_cases e : k = n
        · subst e
          exact Bool.eq_false_iff.mpr h2
        · exact ih k (by omega)
theorem fa_first_yes (p : Nat → Bool) : ∀ n, fa_first p n < n → p (fa_first p n) = true
  | 0, h => absurd h (Nat.not_lt_zero _)
  | n + 1, h => by
    have ih := fa_first_yes p n
    have hl := fa_first_le p n
    unfold fa_first at h ⊢
    split at h
    · rename_i h1
      rw [if_pos h1]
      exact ih h1
    · rename_i h1
      rw [if_neg h1]
      split at h
      · rename_i h2
        rw [if_pos h2]
        exact h2
      · omega
/-- how many k < n have p k -/
def fa_cnt (p : Nat → Bool) : Nat → Nat
  | 0 => 0
  | n + 1 => fa_cnt p n + if p n then 1 else 0
theorem fa_cnt_le (p : Nat → Bool) : ∀ n, fa_cnt p n ≤ n
  | 0 => Nat.le_refl 0
  | n + 1 => by
    have ih := fa_cnt_le p n
    unfold fa_cnt
    split
    · omega
    · omega
theorem fa_cnt_yes {p : Nat → Bool} {n : Nat} (h : p n = true) : fa_cnt p (n + 1) = fa_cnt p n + 1 := by rw [fa_cnt, if_pos h]
theorem fa_cnt_no {p : Nat → Bool} {n : Nat} (h : p n = false) : fa_cnt p (n + 1) = fa_cnt p n := by rw [fa_cnt, if_neg (by rw [h]; decide)]; rfl
theorem fa_cnt_cong {p q : Nat → Bool} : ∀ {n : Nat}, (∀ k, k < n → p k = q k) → fa_cnt p n = fa_cnt q n
  | 0, _ => rfl
  | n + 1, h => by rw [fa_cnt, fa_cnt, fa_cnt_cong (fun k hk => h k (Nat.lt_succ_of_lt hk)), h n (Nat.lt_succ_self n)]
/-! ===== an answer carried into a post; a branch on a boolean answer ===== -/
theorem fa_post {α : Type} {P : α → Prop} {x y : α} (h : x = y) (hp : P y) : P x := h ▸ hp
theorem fa_post2 {α β : Type} {P : α → β → Prop} {x y : α} {u v : β} (h : x = y) (h2 : u = v) (hp : P y v) : P x u := h ▸ h2 ▸ hp
theorem fa_bool {r : Int32} {b : Bool} (h : r = if b then 1 else 0) : (r = 0 ↔ b = false) ∧ (¬ r = 0 ↔ b = true) := by
  subst h
  cases b
  · exact ⟨⟨fun _ => rfl, fun _ => rfl⟩, ⟨fun h => absurd rfl h, fun h => absurd h (by decide)⟩⟩
  · exact ⟨⟨fun h => absurd h (by decide), fun h => absurd h (by decide)⟩, ⟨fun _ => rfl, fun _ => by decide⟩⟩
/-- a boolean's narrowing changes nothing -/
theorem fa_bool_and {r : Int32} (h : r = 0 ∨ r = 1) : r &&& 1 = r := by
  rcases h with rfl | rfl
  · decide
  · decide
theorem fa_bool_prop {c : Prop} [Decidable c] {r : Int32} (h : r = if c then 1 else 0) : (r = 0 ↔ ¬ c) ∧ (¬ r = 0 ↔ c) := by
  subst h
  by_cases hc : c
  · rw [if_pos hc]
    exact ⟨⟨fun h => absurd h (by decide), fun h => absurd hc h⟩, ⟨fun _ => hc, fun _ => by decide⟩⟩
  · rw [if_neg hc]
    exact ⟨⟨fun _ => hc, fun _ => rfl⟩, ⟨fun h => absurd rfl h, fun h => absurd h hc⟩⟩

/-! plain facts to paste, each family by itself; over the kit's nI, lN and upd -/
/-! ===== drawers: more things than places ===== -/
theorem fb_holes : ∀ (m n : Nat) (f : Nat → Nat), (∀ i, i < n → f i < m) → (∀ i j, i < j → j < n → f i ≠ f j) → n ≤ m := by
  intro m
  induction m with
  | zero =>
    intro n f h1 _
    rcases Nat.eq_zero_or_pos n with h | h
    · omega
    · exact absurd (h1 0 h) (Nat.not_lt_zero _)
  | succ m ih =>
    intro n f h1 h2
    by_cases hx : ∃ i, i < n ∧ f i = m
    · obtain ⟨a, ha, hfa⟩ := hx
      have hg := ih (n - 1) (fun i => if i < a then f i else f (i + 1)) (by
        intro i hi
        by_cases q : i < a
        · simp only [if_pos q]
          have b1 := h1 i (by omega)
          have b2 := h2 i a q ha
          omega
        · simp only [if_neg q]
          have b1 := h1 (i + 1) (by omega)
          have b2 := h2 a (i + 1) (by omega) (by omega)
          omega) (by
        intro i j hij hj
        by_cases q : i < a
        · by_cases r : j < a
          · simp only [if_pos q, if_pos r]
            exact h2 i j hij (by omega)
          · simp only [if_pos q, if_neg r]
            exact h2 i (j + 1) (by omega) (by omega)
        · have r : ¬ j < a := by omega
          simp only [if_neg q, if_neg r]
          exact h2 (i + 1) (j + 1) (by omega) (by omega))
      omega
    · have hg := ih n f (fun i hi => by
        have b1 := h1 i hi
        have b2 : f i ≠ m := fun e => hx ⟨i, hi, e⟩
        omega) h2
      omega
/-- two of them in one place -/
theorem fb_twice {m n : Nat} {f : Nat → Nat} (h : ∀ i, i < n → f i < m) (hm : m < n) : ∃ i j, i < j ∧ j < n ∧ f i = f j := by
  refine Classical.byContradiction fun hx => ?_
  have := fb_holes m n f h (fun i j hij hj e => hx ⟨i, j, hij, hj, e⟩)
  omega
/-- as many as places, none twice: each place is taken -/
theorem fb_onto {n : Nat} {f : Nat → Nat} (h : ∀ i, i < n → f i < n) (h2 : ∀ i j, i < j → j < n → f i ≠ f j) {y : Nat} (hy : y < n) : ∃ i, i < n ∧ f i = y := by
  refine Classical.byContradiction fun hx => ?_
  have hne : ∀ i, i < n → f i ≠ y := fun i hi e => hx ⟨i, hi, e⟩
  have := fb_holes (n - 1) n (fun i => if f i < y then f i else f i - 1) (by
    intro i hi
    have b1 := h i hi
    have b2 := hne i hi
    by_cases q : f i < y
    · simp only [if_pos q]; omega
    · simp only [if_neg q]; omega) (by
    intro i j hij hj
    have b1 := hne i (by omega)
    have b2 := hne j hj
    have b3 := h2 i j hij hj
    by_cases q : f i < y
    · by_cases r : f j < y
      · simp only [if_pos q, if_pos r]; exact b3
      · simp only [if_pos q, if_neg r]; omega
    · by_cases r : f j < y
      · simp only [if_neg q, if_pos r]; omega
      · simp only [if_neg q, if_neg r]; omega)
  omega
/-! ===== how many places have a property ===== -/
def fb_ct (p : Nat → Bool) : Nat → Nat
  | 0 => 0
  | n + 1 => fb_ct p n + (if p n then 1 else 0)
theorem fb_ct_succ (p : Nat → Bool) (n : Nat) : fb_ct p (n + 1) = fb_ct p n + (if p n then 1 else 0) := rfl
theorem fb_ct_le (p : Nat → Bool) : ∀ n, fb_ct p n ≤ n
  | 0 => Nat.le_refl _
  | n + 1 => by
    have h := fb_ct_le p n
    rw [fb_ct_succ]
    split <;> omega
theorem fb_ct_step (p : Nat → Bool) (m : Nat) : ∀ n, fb_ct p m ≤ fb_ct p (m + n)
  | 0 => Nat.le_refl _
  | n + 1 => by
    have h := fb_ct_step p m n
    show fb_ct p m ≤ fb_ct p (m + n + 1)
    rw [fb_ct_succ]
    omega
theorem fb_ct_mono (p : Nat → Bool) {m n : Nat} (h : m ≤ n) : fb_ct p m ≤ fb_ct p n := by
  have := fb_ct_step p m (n - m)
  rwa [Nat.add_sub_cancel' h] at this
theorem fb_ct_cong {p q : Nat → Bool} : ∀ {n : Nat}, (∀ k, k < n → p k = q k) → fb_ct p n = fb_ct q n
  | 0, _ => rfl
  | n + 1, h => by
    rw [fb_ct_succ, fb_ct_succ, fb_ct_cong (fun k hk => h k (by omega)), h n (by omega)]
/-- one place changed -/
theorem fb_ct_out (p : Nat → Bool) (b : Bool) {i n : Nat} (h : n ≤ i) : fb_ct (fun k => if k = i then b else p k) n = fb_ct p n :=
  fb_ct_cong fun k hk => if_neg (by omega)
theorem fb_ct_upd (p : Nat → Bool) (b : Bool) {i : Nat} : ∀ {n : Nat}, i < n → fb_ct (fun k => if k = i then b else p k) n + (if p i then 1 else 0) = fb_ct p n + (if b then 1 else 0)
  | 0, h => absurd h (Nat.not_lt_zero i)
  | n + 1, h => by
    rw [fb_ct_succ, fb_ct_succ]
    rcases Nat.lt_or_ge i n with q | q
    · have := fb_ct_upd p b q
      have e : (if n = i then b else p n) = p n := if_neg (by omega)
      rw [e]
      omega
    · have e : i = n := by omega
      subst e
      rw [fb_ct_out p b (Nat.le_refl _)]
      simp only [if_true]
      omega
theorem fb_ct_sub {p q : Nat → Bool} : ∀ {n : Nat}, (∀ k, k < n → p k = true → q k = true) → fb_ct p n ≤ fb_ct q n
  | 0, _ => Nat.le_refl _
  | n + 1, h => by
    have h1 := fb_ct_sub (n := n) (p := p) (q := q) (fun k hk => h k (by omega))
    have h2 := h n (by omega)
    rw [fb_ct_succ, fb_ct_succ]
    cases hp : p n <;> cases hq : q n <;> simp_all <;> omega
theorem fb_ct_or {p q : Nat → Bool} : ∀ {n : Nat}, (∀ k, k < n → ¬ (p k = true ∧ q k = true)) → fb_ct (fun k => p k || q k) n = fb_ct p n + fb_ct q n
  | 0, _ => rfl
  | n + 1, h => by
    have h1 := fb_ct_or (n := n) (p := p) (q := q) (fun k hk => h k (by omega))
    have h2 := h n (by omega)
    rw [fb_ct_succ, fb_ct_succ, fb_ct_succ, h1]
    cases hp : p n <;> cases hq : q n <;> simp_all <;> omega
theorem fb_ct_not (p : Nat → Bool) : ∀ n, fb_ct p n + fb_ct (fun k => !p k) n = n
  | 0 => rfl
  | n + 1 => by
    have h := fb_ct_not p n
    rw [fb_ct_succ, fb_ct_succ]
    cases p n <;> simp <;> omega
theorem fb_ct_split (p : Nat → Bool) (m : Nat) : ∀ n, fb_ct p (m + n) = fb_ct p m + fb_ct (fun k => p (m + k)) n
  | 0 => rfl
  | n + 1 => by
    have h := fb_ct_split p m n
    show fb_ct p (m + n + 1) = _
    rw [fb_ct_succ, fb_ct_succ, h, Nat.add_assoc]
theorem fb_ct_zero {p : Nat → Bool} : ∀ {n : Nat}, fb_ct p n = 0 ↔ ∀ k, k < n → p k = false
  | 0 => ⟨fun _ k hk => absurd hk (Nat.not_lt_zero k), fun _ => rfl⟩
  | n + 1 => by
    have h := fb_ct_zero (p := p) (n := n)
    rw [fb_ct_succ]
    constructor
    · intro e k hk
      have e1 : fb_ct p n = 0 := by omega
      rcases Nat.lt_or_ge k n with q | q
      · exact h.mp e1 k q
      · have ek : k = n := by omega
        subst ek
        cases hp : p k
        · rfl
        · simp [hp] at e
    · intro a
      rw [h.mpr (fun k hk => a k (by omega)), a n (by omega)]
      rfl
theorem fb_ct_pos {p : Nat → Bool} {n : Nat} : 0 < fb_ct p n ↔ ∃ k, k < n ∧ p k = true := by
  constructor
  · intro h
    refine Classical.byContradiction fun hx => ?_
    have := fb_ct_zero.mpr (fun k hk => by
      cases hp : p k
      · rfl
      · exact absurd ⟨k, hk, hp⟩ hx : ∀ k, k < n → p k = false)
    omega
  · rintro ⟨k, hk, hp⟩
    rcases Nat.eq_zero_or_pos (fb_ct p n) with e | e
    · have := fb_ct_zero.mp e k hk
      rw [this] at hp
      cases hp
    · exact e
theorem fb_ct_all {p : Nat → Bool} {n : Nat} : fb_ct p n = n ↔ ∀ k, k < n → p k = true := by
  have h := fb_ct_not p n
  constructor
  · intro e k hk
    have z : fb_ct (fun k => !p k) n = 0 := by omega
    have := fb_ct_zero.mp z k hk
    cases hp : p k
    · simp [hp] at this
    · rfl
  · intro a
    have z : fb_ct (fun k => !p k) n = 0 := fb_ct_zero.mpr (fun k hk => by simp [a k hk])
    omega
/-- the k-th place with the property -/
theorem fb_ct_kth {p : Nat → Bool} {k : Nat} : ∀ {n : Nat}, k < fb_ct p n → ∃ i, i < n ∧ p i = true ∧ fb_ct p i = k
  | 0, h => absurd h (Nat.not_lt_zero k)
  | n + 1, h => by
    rcases Nat.lt_or_ge k (fb_ct p n) with q | q
    · obtain ⟨i, h1, h2⟩ := fb_ct_kth q
      exact ⟨i, by omega, h2⟩
    · rw [fb_ct_succ] at h
      cases hp : p n
      · simp [hp] at h; omega
      · simp [hp] at h
        exact ⟨n, by omega, hp, by omega⟩
theorem fb_ct_kth_one {p : Nat → Bool} {i j : Nat} (hi : p i = true) (hj : p j = true) (e : fb_ct p i = fb_ct p j) : i = j := by
  have key : ∀ a b : Nat, a < b → p a = true → fb_ct p a < fb_ct p b := by
    intro a b hab ha
    have h := fb_ct_mono p (show a + 1 ≤ b from hab)
    rw [fb_ct_succ, ha] at h
    simp at h
    omega
  rcases Nat.lt_trichotomy i j with q | q | q
  · have := key i j q hi; omega
  · exact q
  · have := key j i q hj; omega
/-! ===== sums over a range: one place changed, parts, bounds ===== -/
def fb_sm (f : Nat → Nat) : Nat → Nat
  | 0 => 0
  | n + 1 => fb_sm f n + f n
theorem fb_sm_succ (f : Nat → Nat) (n : Nat) : fb_sm f (n + 1) = fb_sm f n + f n := rfl
theorem fb_sm_cong {f g : Nat → Nat} : ∀ {n : Nat}, (∀ k, k < n → f k = g k) → fb_sm f n = fb_sm g n
  | 0, _ => rfl
  | n + 1, h => by rw [fb_sm_succ, fb_sm_succ, fb_sm_cong (fun k hk => h k (by omega)), h n (by omega)]
theorem fb_sm_out (f : Nat → Nat) (v : Nat) {i n : Nat} (h : n ≤ i) : fb_sm (fun k => if k = i then v else f k) n = fb_sm f n :=
  fb_sm_cong fun k hk => if_neg (by omega)
theorem fb_sm_upd (f : Nat → Nat) (v : Nat) {i : Nat} : ∀ {n : Nat}, i < n → fb_sm (fun k => if k = i then v else f k) n + f i = fb_sm f n + v
  | 0, h => absurd h (Nat.not_lt_zero i)
  | n + 1, h => by
    rw [fb_sm_succ, fb_sm_succ]
    rcases Nat.lt_or_ge i n with q | q
    · have := fb_sm_upd f v q
      have e : (if n = i then v else f n) = f n := if_neg (by omega)
      rw [e]
      omega
    · have e : i = n := by omega
      subst e
      rw [fb_sm_out f v (Nat.le_refl _)]
      simp only [if_true]
      omega
theorem fb_sm_add (f g : Nat → Nat) : ∀ n, fb_sm (fun k => f k + g k) n = fb_sm f n + fb_sm g n
  | 0 => rfl
  | n + 1 => by
    have h := fb_sm_add f g n
    rw [fb_sm_succ, fb_sm_succ, fb_sm_succ, h]
    omega
theorem fb_sm_le {f g : Nat → Nat} : ∀ {n : Nat}, (∀ k, k < n → f k ≤ g k) → fb_sm f n ≤ fb_sm g n
  | 0, _ => Nat.le_refl _
  | n + 1, h => by
    have h1 := fb_sm_le (n := n) (f := f) (g := g) (fun k hk => h k (by omega))
    have h2 := h n (by omega)
    rw [fb_sm_succ, fb_sm_succ]
    omega
theorem fb_sm_const (c : Nat) : ∀ n, fb_sm (fun _ => c) n = n * c
  | 0 => by rw [Nat.zero_mul]; rfl
  | n + 1 => by rw [fb_sm_succ, fb_sm_const c n, Nat.succ_mul]
theorem fb_sm_bound {f : Nat → Nat} {c n : Nat} (h : ∀ k, k < n → f k ≤ c) : fb_sm f n ≤ n * c := by
  rw [← fb_sm_const c n]
  exact fb_sm_le h
theorem fb_sm_mono (f : Nat → Nat) (m : Nat) : ∀ n, fb_sm f m ≤ fb_sm f (m + n)
  | 0 => Nat.le_refl _
  | n + 1 => by
    have h := fb_sm_mono f m n
    show fb_sm f m ≤ fb_sm f (m + n + 1)
    rw [fb_sm_succ]
    omega
theorem fb_sm_part (f : Nat → Nat) {i n : Nat} (h : i < n) : fb_sm f i + f i ≤ fb_sm f n := by
  have := fb_sm_mono f (i + 1) (n - (i + 1))
  rw [fb_sm_succ, show i + 1 + (n - (i + 1)) = n by omega] at this
  exact this
theorem fb_sm_split (f : Nat → Nat) (m : Nat) : ∀ n, fb_sm f (m + n) = fb_sm f m + fb_sm (fun k => f (m + k)) n
  | 0 => rfl
  | n + 1 => by
    have h := fb_sm_split f m n
    show fb_sm f (m + n + 1) = _
    rw [fb_sm_succ, fb_sm_succ, h, Nat.add_assoc]
theorem fb_sm_zero {f : Nat → Nat} {n : Nat} (h : fb_sm f n = 0) : ∀ k, k < n → f k = 0 := fun k hk => by
  have := fb_sm_part f hk
  omega
/-- the same over whole numbers -/
def fb_si (f : Nat → Int) : Nat → Int
  | 0 => 0
  | n + 1 => fb_si f n + f n
theorem fb_si_succ (f : Nat → Int) (n : Nat) : fb_si f (n + 1) = fb_si f n + f n := rfl
theorem fb_si_cong {f g : Nat → Int} : ∀ {n : Nat}, (∀ k, k < n → f k = g k) → fb_si f n = fb_si g n
  | 0, _ => rfl
  | n + 1, h => by rw [fb_si_succ, fb_si_succ, fb_si_cong (fun k hk => h k (by omega)), h n (by omega)]
theorem fb_si_out (f : Nat → Int) (v : Int) {i n : Nat} (h : n ≤ i) : fb_si (fun k => if k = i then v else f k) n = fb_si f n :=
  fb_si_cong fun k hk => if_neg (by omega)
theorem fb_si_upd (f : Nat → Int) (v : Int) {i : Nat} : ∀ {n : Nat}, i < n → fb_si (fun k => if k = i then v else f k) n = fb_si f n - f i + v
  | 0, h => absurd h (Nat.not_lt_zero i)
  | n + 1, h => by
    rw [fb_si_succ, fb_si_succ]
    rcases Nat.lt_or_ge i n with q | q
    · have := fb_si_upd f v q
      have e : (if n = i then v else f n) = f n := if_neg (by omega)
      rw [e]
      omega
    · have e : i = n := by omega
      subst e
      rw [fb_si_out f v (Nat.le_refl _)]
      simp only [if_true]
      omega
theorem fb_si_add (f g : Nat → Int) : ∀ n, fb_si (fun k => f k + g k) n = fb_si f n + fb_si g n
  | 0 => rfl
  | n + 1 => by
    have h := fb_si_add f g n
    rw [fb_si_succ, fb_si_succ, fb_si_succ, h]
    omega
theorem fb_si_sub (f g : Nat → Int) : ∀ n, fb_si (fun k => f k - g k) n = fb_si f n - fb_si g n
  | 0 => rfl
  | n + 1 => by
    have h := fb_si_sub f g n
    rw [fb_si_succ, fb_si_succ, fb_si_succ, h]
    omega
theorem fb_si_mul (c : Int) (f : Nat → Int) : ∀ n, fb_si (fun k => c * f k) n = c * fb_si f n
  | 0 => (Int.mul_zero c).symm
  | n + 1 => by
    have h := fb_si_mul c f n
    rw [fb_si_succ, fb_si_succ, h, Int.mul_add]
theorem fb_si_split (f : Nat → Int) (m : Nat) : ∀ n, fb_si f (m + n) = fb_si f m + fb_si (fun k => f (m + k)) n
  | 0 => (Int.add_zero _).symm
  | n + 1 => by
    have h := fb_si_split f m n
    show fb_si f (m + n + 1) = _
    rw [fb_si_succ, fb_si_succ, h, Int.add_assoc]
theorem fb_si_nat (f : Nat → Nat) : ∀ n, fb_si (fun k => (f k : Int)) n = (fb_sm f n : Int)
  | 0 => rfl
  | n + 1 => by
    have h := fb_si_nat f n
    rw [fb_si_succ, fb_sm_succ, h]
    omega
theorem fb_si_bound {f : Nat → Int} {c : Int} (hc : 0 ≤ c) : ∀ {n : Nat}, (∀ k, k < n → -c ≤ f k ∧ f k ≤ c) → -(n * c) ≤ fb_si f n ∧ fb_si f n ≤ n * c
  | 0, _ => by simp [fb_si]
  | n + 1, h => by
    have h1 := fb_si_bound (n := n) (f := f) hc (fun k hk => h k (by omega))
    have h2 := h n (by omega)
    have e : ((n + 1 : Nat) : Int) * c = n * c + c := by rw [Int.natCast_add, Int.add_mul]; simp
    rw [fb_si_succ, e]
    omega
/-! ===== bits of a long that isn't negative ===== -/
theorem fb_andL (a b : Nat) : lN a &&& lN b = lN (a &&& b) := by
  apply Int64.toBitVec_inj.1
  show BitVec.ofNat 64 a &&& BitVec.ofNat 64 b = BitVec.ofNat 64 (a &&& b)
  apply BitVec.eq_of_getLsbD_eq
  intro i hi
  simp [hi]
theorem fb_orL (a b : Nat) : lN a ||| lN b = lN (a ||| b) := by
  apply Int64.toBitVec_inj.1
  show BitVec.ofNat 64 a ||| BitVec.ofNat 64 b = BitVec.ofNat 64 (a ||| b)
  apply BitVec.eq_of_getLsbD_eq
  intro i hi
  simp [hi]
theorem fb_xorL (a b : Nat) : lN a ^^^ lN b = lN (a ^^^ b) := by
  apply Int64.toBitVec_inj.1
  show BitVec.ofNat 64 a ^^^ BitVec.ofNat 64 b = BitVec.ofNat 64 (a ^^^ b)
  apply BitVec.eq_of_getLsbD_eq
  intro i hi
  simp [hi]
theorem fb_xorI (a b : Nat) : nI a ^^^ nI b = nI (a ^^^ b) := by
  apply Int32.toBitVec_inj.1
  show BitVec.ofNat 32 a ^^^ BitVec.ofNat 32 b = BitVec.ofNat 32 (a ^^^ b)
  apply BitVec.eq_of_getLsbD_eq
  intro i hi
  simp [hi]
theorem fb_maskL (n k : Nat) : lN n &&& lN (2 ^ k - 1) = lN (n % 2 ^ k) := by rw [fb_andL, Nat.and_two_pow_sub_one_eq_mod]
theorem fb_or_sumL {a k : Nat} (b : Nat) (h : a < 2 ^ k) : lN (2 ^ k * b) ||| lN a = lN (2 ^ k * b + a) := by rw [fb_orL, Nat.two_pow_add_eq_or_of_lt h]
theorem fb_lN_inj {a b : Nat} (ha : a < 2 ^ 63) (hb : b < 2 ^ 63) : lN a = lN b ↔ a = b := by
  constructor
  · intro h
    have h1 : (BitVec.ofNat 64 a).toNat = (BitVec.ofNat 64 b).toNat := congrArg (fun x : Int64 => x.toBitVec.toNat) h
    rw [BitVec.toNat_ofNat, BitVec.toNat_ofNat, Nat.mod_eq_of_lt (by omega), Nat.mod_eq_of_lt (by omega)] at h1
    exact h1
  · rintro rfl; rfl
theorem fb_bit_nat (n j : Nat) : n &&& 2 ^ j = 0 ↔ n.testBit j = false := by
  constructor
  · intro h
    have h1 : (n &&& 2 ^ j).testBit j = false := by rw [h]; simp
    rw [Nat.testBit_and] at h1
    simpa using h1
  · intro h
    apply Nat.eq_of_testBit_eq
    intro i
    rw [Nat.testBit_and]
    by_cases hi : j = i
    · subst hi; simp [h]
    · first | (simp [Nat.testBit_two_pow, hi]; done) | (simp [Nat.testBit_two_pow_of_ne hi]; done)
/-- one bit of a long -/
theorem fb_bitL {n j : Nat} (hj : j < 63) : lN n &&& lN (2 ^ j) = 0 ↔ n.testBit j = false := by
  have h2 : (2 : Nat) ^ j < 2 ^ 63 := Nat.pow_lt_pow_right (by decide) hj
  have hle : n &&& 2 ^ j ≤ 2 ^ j := Nat.and_le_right
  rw [fb_andL, ← fb_bit_nat, show (0 : Int64) = lN 0 from rfl]
  exact fb_lN_inj (by omega) (by decide)
/-- a bit set, a bit taken off -/
theorem fb_bit_set (n j i : Nat) : (n ||| 2 ^ j).testBit i = (n.testBit i || decide (i = j)) := by
  rw [Nat.testBit_or]
  by_cases h : j = i
  · subst h; simp
  · have h2 : ¬ i = j := fun e => h e.symm
    first | (simp [Nat.testBit_two_pow, h, h2]; done) | (simp [Nat.testBit_two_pow_of_ne h, h2]; done)
theorem fb_bit_flip (n j i : Nat) : (n ^^^ 2 ^ j).testBit i = (n.testBit i ^^ decide (i = j)) := by
  rw [Nat.testBit_xor]
  by_cases h : j = i
  · subst h; simp
  · have h2 : ¬ i = j := fun e => h e.symm
    first | (simp [Nat.testBit_two_pow, h, h2]; done) | (simp [Nat.testBit_two_pow_of_ne h, h2]; done)
/-! ===== a stretch of an array written over by a function ===== -/
def fb_put {α : Type} (f g : Nat → α) (a n : Nat) : Nat → α := fun k => if a ≤ k ∧ k < a + n then g (k - a) else f k
theorem fb_put_0 {α : Type} (f g : Nat → α) (a : Nat) : fb_put f g a 0 = f := funext fun k => if_neg (by omega)
theorem fb_put_in {α : Type} {f g : Nat → α} {a n k : Nat} (h1 : a ≤ k) (h2 : k < a + n) : fb_put f g a n k = g (k - a) := if_pos ⟨h1, h2⟩
theorem fb_put_out {α : Type} {f g : Nat → α} {a n k : Nat} (h : k < a ∨ a + n ≤ k) : fb_put f g a n k = f k := if_neg (by omega)
theorem fb_put_succ (f g : Nat → Int32) (a n : Nat) : upd (fb_put f g a n) (a + n) (g n) = fb_put f g a (n + 1) := by
  funext k
  by_cases h : k = a + n
  · subst h
    simp [upd, fb_put]
  · by_cases h1 : a ≤ k ∧ k < a + n
    · have h2 : a ≤ k ∧ k < a + (n + 1) := by omega
      simp only [upd, fb_put, if_neg h, if_pos h1, if_pos h2]
    · have h2 : ¬ (a ≤ k ∧ k < a + (n + 1)) := by omega
      simp only [upd, fb_put, if_neg h, if_neg h1, if_neg h2]
/-- .. from the far end down -/
theorem fb_put_down (f g : Nat → Int32) {a n m : Nat} (h : m < n) : upd (fb_put f (fun k => g (k + (m + 1))) (a + (m + 1)) (n - (m + 1))) (a + m) (g m) = fb_put f (fun k => g (k + m)) (a + m) (n - m) := by
  funext k
  by_cases h0 : k = a + m
  · subst h0
    simp only [upd, if_true]
    rw [fb_put_in (by omega) (by omega)]
    exact congrArg g (by omega)
  · simp only [upd, if_neg h0]
    by_cases h1 : a + (m + 1) ≤ k ∧ k < a + (m + 1) + (n - (m + 1))
    · rw [fb_put_in h1.1 h1.2, fb_put_in (by omega) (by omega)]
      exact congrArg g (by omega)
    · rw [fb_put_out (by omega), fb_put_out (by omega)]
theorem fb_put_cong {α : Type} {f f2 g g2 : Nat → α} {a n : Nat} (hf : ∀ k, (k < a ∨ a + n ≤ k) → f k = f2 k) (hg : ∀ k, k < n → g k = g2 k) : fb_put f g a n = fb_put f2 g2 a n := by
  funext k
  by_cases h : a ≤ k ∧ k < a + n
  · rw [fb_put_in h.1 h.2, fb_put_in h.1 h.2, hg _ (by omega)]
  · rw [fb_put_out (by omega), fb_put_out (by omega), hf _ (by omega)]
/-! ===== the least, the first, the best so far; that there is one alone ===== -/
theorem fb_first {p : Nat → Prop} [DecidablePred p] : ∀ {n : Nat}, (∃ i, i < n ∧ p i) → ∃ i, i < n ∧ p i ∧ ∀ j, j < i → ¬ p j
  | 0, h => by obtain ⟨i, hi, -⟩ := h; exact absurd hi (Nat.not_lt_zero i)
  | n + 1, h => by
    by_cases q : ∃ i, i < n ∧ p i
    · obtain ⟨i, h1, h2⟩ := fb_first q
      exact ⟨i, by omega, h2⟩
    · obtain ⟨i, h1, h2⟩ := h
      have e : i = n := by
        rcases Nat.lt_or_ge i n with r | r
        · exact absurd ⟨i, r, h2⟩ q
        · omega
      subst e
      exact ⟨i, by omega, h2, fun j hj hp => q ⟨j, hj, hp⟩⟩
theorem fb_first_one {p : Nat → Prop} {i j : Nat} (hi : p i) (hi2 : ∀ k, k < i → ¬ p k) (hj : p j) (hj2 : ∀ k, k < j → ¬ p k) : i = j := by
  rcases Nat.lt_trichotomy i j with q | q | q
  · exact absurd hi (hj2 i q)
  · exact q
  · exact absurd hj (hi2 j q)
theorem fb_last {p : Nat → Prop} [DecidablePred p] : ∀ {n : Nat}, (∃ i, i < n ∧ p i) → ∃ i, i < n ∧ p i ∧ ∀ j, i < j → j < n → ¬ p j
  | 0, h => by obtain ⟨i, hi, -⟩ := h; exact absurd hi (Nat.not_lt_zero i)
  | n + 1, h => by
    by_cases q : p n
    · exact ⟨n, by omega, q, fun j h1 h2 => by omega⟩
    · obtain ⟨i, h1, h2⟩ := h
      have hi : i < n := by
        rcases Nat.lt_or_ge i n with r | r
        · exact r
        · have e : i = n := by omega
          subst e
          exact absurd h2 q
      obtain ⟨i2, a1, a2, a3⟩ := fb_last (n := n) ⟨i, hi, h2⟩
      refine ⟨i2, by omega, a2, fun j b1 b2 => ?_⟩
      rcases Nat.lt_or_ge j n with r | r
      · exact a3 j b1 r
      · have e : j = n := by omega
        subst e
        exact q
/-- the first greatest -/
theorem fb_best (f : Nat → Int) : ∀ {n : Nat}, 0 < n → ∃ i, i < n ∧ (∀ j, j < n → f j ≤ f i) ∧ ∀ j, j < i → f j < f i
  | 0, h => absurd h (Nat.lt_irrefl 0)
  | 1, _ => ⟨0, by omega, fun j hj => by have e : j = 0 := by omega
                                         subst e; exact Int.le_refl _, fun j hj => absurd hj (Nat.not_lt_zero j)⟩
  | n + 2, _ => by
    obtain ⟨i, h1, h2, h3⟩ := fb_best f (n := n + 1) (by omega)
    by_cases q : f i < f (n + 1)
    · refine ⟨n + 1, by omega, fun j hj => ?_, fun j hj => ?_⟩
      · rcases Nat.lt_or_ge j (n + 1) with r | r
        · have := h2 j r; omega
        · have e : j = n + 1 := by omega
          subst e; exact Int.le_refl _
      · have := h2 j hj; omega
    · refine ⟨i, by omega, fun j hj => ?_, h3⟩
      rcases Nat.lt_or_ge j (n + 1) with r | r
      · exact h2 j r
      · have e : j = n + 1 := by omega
        subst e; omega
theorem fb_best_one {f : Nat → Int} {n i j : Nat} (hi : i < n) (hi2 : ∀ k, k < n → f k ≤ f i) (hi3 : ∀ k, k < i → f k < f i) (hj : j < n) (hj2 : ∀ k, k < n → f k ≤ f j) (hj3 : ∀ k, k < j → f k < f j) : i = j := by
  rcases Nat.lt_trichotomy i j with q | q | q
  · have a := hj3 i q
    have b := hi2 j hj
    omega
  · exact q
  · have a := hi3 j q
    have b := hj2 i hi
    omega
/-- the first least -/
theorem fb_low (f : Nat → Int) {n : Nat} (h : 0 < n) : ∃ i, i < n ∧ (∀ j, j < n → f i ≤ f j) ∧ ∀ j, j < i → f i < f j := by
  obtain ⟨i, h1, h2, h3⟩ := fb_best (fun k => -f k) h
  exact ⟨i, h1, fun j hj => by have := h2 j hj; omega, fun j hj => by have := h3 j hj; omega⟩
/-! ===== signed ints as whole numbers, within bounds ===== -/
theorem fb_rng (x : Int32) : -2147483648 ≤ x.toInt ∧ x.toInt < 2147483648 := by
  have h1 := Int32.le_toInt x
  have h2 := Int32.toInt_lt x
  omega
theorem fb_bmod {z : Int} (h1 : -2147483648 ≤ z) (h2 : z < 2147483648) : z.bmod (2 ^ 32) = z := by
  rw [Int.bmod_eq_of_le (by omega) (by omega)]
theorem fb_addI {x y : Int32} (h1 : -2147483648 ≤ x.toInt + y.toInt) (h2 : x.toInt + y.toInt < 2147483648) : (x + y).toInt = x.toInt + y.toInt := by
  rw [Int32.toInt_add, fb_bmod h1 h2]
theorem fb_subI {x y : Int32} (h1 : -2147483648 ≤ x.toInt - y.toInt) (h2 : x.toInt - y.toInt < 2147483648) : (x - y).toInt = x.toInt - y.toInt := by
  rw [Int32.toInt_sub, fb_bmod h1 h2]
theorem fb_mulI {x y : Int32} (h1 : -2147483648 ≤ x.toInt * y.toInt) (h2 : x.toInt * y.toInt < 2147483648) : (x * y).toInt = x.toInt * y.toInt := by
  rw [Int32.toInt_mul, fb_bmod h1 h2]
theorem fb_negI {x : Int32} (h : x.toInt ≠ -2147483648) : (-x).toInt = -x.toInt := by
  have := fb_rng x
  rw [Int32.toInt_neg, fb_bmod (by omega) (by omega)]
theorem fb_ofI {z : Int} (h1 : -2147483648 ≤ z) (h2 : z < 2147483648) : (Int32.ofInt z).toInt = z := by
  rw [Int32.toInt_ofInt, fb_bmod h1 h2]
theorem fb_asI (x : Int32) : Int32.ofInt x.toInt = x := Int32.ofInt_toInt x
theorem fb_rngL (x : Int64) : -9223372036854775808 ≤ x.toInt ∧ x.toInt < 9223372036854775808 := by
  have h1 := Int64.le_toInt x
  have h2 := Int64.toInt_lt x
  omega
theorem fb_bmodL {z : Int} (h1 : -9223372036854775808 ≤ z) (h2 : z < 9223372036854775808) : z.bmod (2 ^ 64) = z := by
  rw [Int.bmod_eq_of_le (by omega) (by omega)]
theorem fb_addL {x y : Int64} (h1 : -9223372036854775808 ≤ x.toInt + y.toInt) (h2 : x.toInt + y.toInt < 9223372036854775808) : (x + y).toInt = x.toInt + y.toInt := by
  rw [Int64.toInt_add, fb_bmodL h1 h2]
theorem fb_subL {x y : Int64} (h1 : -9223372036854775808 ≤ x.toInt - y.toInt) (h2 : x.toInt - y.toInt < 9223372036854775808) : (x - y).toInt = x.toInt - y.toInt := by
  rw [Int64.toInt_sub, fb_bmodL h1 h2]
theorem fb_mulL {x y : Int64} (h1 : -9223372036854775808 ≤ x.toInt * y.toInt) (h2 : x.toInt * y.toInt < 9223372036854775808) : (x * y).toInt = x.toInt * y.toInt := by
  rw [Int64.toInt_mul, fb_bmodL h1 h2]
/-! ===== cuts of what is narrow already ===== -/
theorem fb_byte {x : Int32} (h1 : -128 ≤ x.toInt) (h2 : x.toInt < 128) : x.toInt8.toInt32 = x := by
  apply Int32.toInt_inj.1
  rw [Int8.toInt_toInt32, Int32.toInt_toInt8, Int.bmod_eq_of_le (by omega) (by omega)]
theorem fb_short {x : Int32} (h1 : -32768 ≤ x.toInt) (h2 : x.toInt < 32768) : x.toInt16.toInt32 = x := by
  apply Int32.toInt_inj.1
  rw [Int16.toInt_toInt32, Int32.toInt_toInt16, Int.bmod_eq_of_le (by omega) (by omega)]
theorem fb_byte_rng (x : Int32) : -128 ≤ x.toInt8.toInt32.toInt ∧ x.toInt8.toInt32.toInt < 128 := by
  rw [Int8.toInt_toInt32]
  have h1 := Int8.le_toInt x.toInt8
  have h2 := Int8.toInt_lt x.toInt8
  omega
theorem fb_short_rng (x : Int32) : -32768 ≤ x.toInt16.toInt32.toInt ∧ x.toInt16.toInt32.toInt < 32768 := by
  rw [Int16.toInt_toInt32]
  have h1 := Int16.le_toInt x.toInt16
  have h2 := Int16.toInt_lt x.toInt16
  omega
theorem fb_byte_twice (x : Int32) : x.toInt8.toInt32.toInt8.toInt32 = x.toInt8.toInt32 := fb_byte (fb_byte_rng x).1 (fb_byte_rng x).2
theorem fb_short_twice (x : Int32) : x.toInt16.toInt32.toInt16.toInt32 = x.toInt16.toInt32 := fb_short (fb_short_rng x).1 (fb_short_rng x).2
theorem fb_char {n : Nat} (h : n < 65536) : (nI n).toUInt32.toUInt16.toUInt32.toInt32 = nI n := by
  apply Int32.toBitVec_inj.1
  apply BitVec.eq_of_toNat_eq
  have e1 : (nI n).toBitVec.toNat = n := by
    show (BitVec.ofNat 32 n).toNat = n
    rw [BitVec.toNat_ofNat, Nat.mod_eq_of_lt (by omega)]
  have e2 : ((nI n).toUInt32.toUInt16.toUInt32).toNat = n := by
    rw [UInt16.toNat_toUInt32, UInt32.toNat_toUInt16]
    show (nI n).toBitVec.toNat % 2 ^ 16 = n
    rw [e1, Nat.mod_eq_of_lt (by omega)]
  rw [e1]
  exact e2


theorem rf_cat {r : Option Nat} : (va_rf r).category = 1 := by cases r <;> rfl
theorem lrem_eq (x y : Int64) : x - (x / y) * y = x % y := by
  apply Int64.toInt_inj.mp
  have h1 := Int64.le_toInt (x % y)
  have h2 := Int64.toInt_lt (x % y)
  rw [Int64.toInt_sub, Int64.toInt_mul, Int64.toInt_div, Int.bmod_mul_bmod, Int.sub_bmod_bmod, Int.mul_comm (x.toInt.tdiv y.toInt), ← Int.tmod_def, ← Int64.toInt_mod]
  exact Int.bmod_eq_of_le_mul_two (by omega) (by omega)
theorem irem_eq (x y : Int32) : x - (x / y) * y = x % y := irem_eq_mod x y
theorem lx_ge (x y : Int64) (hy : 0 < y.toInt) : 0 ≤ (x ^^^ y) ↔ 0 ≤ x.toInt := by
  rw [Int64.le_iff_toInt_le]
  show (0 : Int) ≤ (x ^^^ y).toBitVec.toInt ↔ 0 ≤ x.toBitVec.toInt
  have hy2 : 0 < y.toBitVec.toInt := hy
  have e1 := BitVec.msb_eq_toInt (x := (x ^^^ y).toBitVec)
  have e2 := BitVec.msb_eq_toInt (x := x.toBitVec)
  have e3 := BitVec.msb_eq_toInt (x := y.toBitVec)
  have e4 : (x ^^^ y).toBitVec.msb = (x.toBitVec.msb ^^ y.toBitVec.msb) := by rw [Int64.toBitVec_xor, BitVec.msb_xor]
  rw [e4, e2, e3] at e1
  have e5 : decide (y.toBitVec.toInt < 0) = false := by rw [decide_eq_false_iff_not]; omega
  rw [e5, Bool.xor_false] at e1
  by_cases c : x.toBitVec.toInt < 0
  · rw [decide_eq_true c] at e1
    have := of_decide_eq_true e1.symm
    omega
  · rw [decide_eq_false c] at e1
    have := of_decide_eq_false e1.symm
    omega
theorem s_l : ∀ n, n < 32 → ((nI n &&& 31).toBitVec.smod 32).toNat = n := by decide +kernel
def mxN (m : Nat) (v : Int) : Nat := ((31 * (m : Int) + v + 2) % 65521).toNat
theorem mxN_lt (m : Nat) (v : Int) : mxN m v < 65521 := by unfold mxN; omega
theorem mxN_int (m : Nat) (v : Int) : (mxN m v : Int) = (31 * (m : Int) + v + 2) % 65521 := by unfold mxN; omega
def nz1 (m : Nat) : Nat := if m = 0 then 1 else m
def MIX (vs : List Int) : Nat := nz1 (vs.foldl mxN 17)
theorem mxF_lt : ∀ (vs : List Int) (m : Nat), m < 65521 → vs.foldl mxN m < 65521
  | [], m, h => h
  | v :: vs, m, h => mxF_lt vs (mxN m v) (mxN_lt m v)
theorem MIX_lt (vs : List Int) : MIX vs < 65521 := by
  unfold MIX nz1
  split
  · decide
  · exact mxF_lt vs 17 (by decide)
theorem MIX_pos (vs : List Int) : 0 < MIX vs := by
  unfold MIX nz1
  split <;> omega
theorem l_toI {r : Int64} {z : Nat} (h : r.toInt = (z : Int)) (hz : z < 2 ^ 31) : r.toInt32 = nI z := by
  have : r = lN z := Int64.toInt_inj.mp (by rw [h, lN_toInt hz])
  rw [this, lN_i]
theorem i_toL (x : Int32) : x.toInt64.toInt = x.toInt := Int32.toInt_toInt64 x
/-- x, a small natural -/
theorem nI_of_toInt {x : Int32} {z : Nat} (h : x.toInt = (z : Int)) : x = nI z := by
  have h2 := fb_rng x
  exact Int32.toInt_inj.mp (by rw [h, nI_toInt (by omega)])
/-- the seal's sum from the i-th number on, m numbers of g -/
def hzs (K : Int) (g : Nat → Int) : Nat → Nat → Int
  | _, 0 => 0
  | i, m + 1 => ((hzs K g (i + 1) m + g i + 2) * K) % 65521
def SEALc (K f : Int) (g : Nat → Int) (n : Nat) : Int := ((hzs K g 0 n + f + 2) * K) % 65521
theorem hzs_rng (K : Int) (g : Nat → Int) : ∀ (m i : Nat), 0 ≤ hzs K g i m ∧ hzs K g i m < 65521
  | 0, i => by unfold hzs; omega
  | m + 1, i => by unfold hzs; omega
theorem SEALc_rng (K f : Int) (g : Nat → Int) (n : Nat) : 0 ≤ SEALc K f g n ∧ SEALc K f g n < 65521 := by unfold SEALc; omega
def PW (b e : Nat) : Nat := b ^ e % 2039
theorem PW_lt (b e : Nat) : PW b e < 2039 := Nat.mod_lt _ (by decide)
theorem PW_step (b q : Nat) (r : Nat) (hr : r = PW b (q / 2)) : PW b q = if q % 2 = 1 then (r * r % 2039) * b % 2039 else r * r % 2039 := by
  subst hr
  unfold PW
  have e : b ^ q = b ^ (q / 2) * b ^ (q / 2) * b ^ (q % 2) := by
    rw [← Nat.pow_add, ← Nat.pow_add]
    congr 1
    omega
  rw [e]
  by_cases c : q % 2 = 1
  · rw [if_pos c, c, Nat.pow_one]
    simp [Nat.mul_mod, Nat.mod_mod]
  · have c0 : q % 2 = 0 := by omega
    rw [if_neg c, c0, Nat.pow_zero, Nat.mul_one]
    simp [Nat.mul_mod, Nat.mod_mod]

set_option maxRecDepth 100000 in
set_option maxHeartbeats 4000000 in
theorem k_J9_floorMod_f86c9 (l : Launch) (G : Gx) (x y : Int64) (hy : 0 < y.toInt) (μ : Mem) : Kon l yJ9_floorMod_f86c9 cJ9_floorMod_f86c9 6 (some .long) 0 0 0 0 G [.long x, .long y] μ (pL fun r μ' => μ = μ' ∧ r.toInt = x.toInt % y.toInt) noX := by
  have hne : ¬ y = 0 := fun h => by rw [h] at hy; exact absurd hy (by decide)
  have hm : (x - x / y * y).toInt = x.toInt.tmod y.toInt := by rw [lrem_eq, Int64.toInt_mod]
  have hxy := lx_ge x y hy
  refine Kon.of (by decide +kernel) (Nat.le_of_ble_eq_true rfl) (Nat.le_of_ble_eq_true rfl) (fun Z C E N M => ?_)
  have C : Cx Z RJ9 cJ9_floorMod_f86c9 0 0 0 0 := C
  show HW Z 0 0 0 [some (.long x), none, some (.long y), none, none, none] [] μ
  refine h_lload_g C dJ9_floorMod_f86c9_0 rfl rfl ?_
  refine h_lload_g C dJ9_floorMod_f86c9_1 rfl rfl ?_
  refine h_lrem C dJ9_floorMod_f86c9_2 hne ?_
  refine h_lst_4 C dJ9_floorMod_f86c9_3 ct_n ?_
  refine h_lload_g C dJ9_floorMod_f86c9_5 rfl rfl ?_
  refine h_lload_g C dJ9_floorMod_f86c9_6 rfl rfl ?_
  refine h_lxor C dJ9_floorMod_f86c9_7 ?_
  refine h_lconst (v := 0) C dJ9_floorMod_f86c9_8 (by decide) ?_
  refine h_lcmp C dJ9_floorMod_f86c9_9 ?_
  refine h_if_ge (tgt := 25) C dJ9_floorMod_f86c9_10 (by decide) (fun c1 => ?_) (fun c1 => ?_)
  · have c9 := hxy.mp ((lg_cmp_ge _ _).mp c1)
    refine h_lload_w C dJ9_floorMod_f86c9_25 rfl ?_
    refine h_lret C E dJ9_floorMod_f86c9_27 (by decide) (by decide) ?_
    exact ⟨_, rfl, rfl, by rw [hm, Int.tmod_eq_emod_of_nonneg c9]⟩
  · have c9 : ¬ 0 ≤ x.toInt := fun h => c1 ((lg_cmp_ge _ _).mpr (hxy.mpr h))
    refine h_lload_w C dJ9_floorMod_f86c9_13 rfl ?_
    refine h_lconst (v := 0) C dJ9_floorMod_f86c9_15 (by decide) ?_
    refine h_lcmp C dJ9_floorMod_f86c9_16 ?_
    refine h_if_eq (tgt := 25) C dJ9_floorMod_f86c9_17 (by decide) (fun c2 => ?_) (fun c2 => ?_)
    · have c8 := (lg_cmp_eq _ _).mp c2
      refine h_lload_w C dJ9_floorMod_f86c9_25 rfl ?_
      refine h_lret C E dJ9_floorMod_f86c9_27 (by decide) (by decide) ?_
      refine ⟨_, rfl, rfl, ?_⟩
      have h0 : x.toInt.tmod y.toInt = 0 := by rw [← hm, c8]; rfl
      rw [hm, h0]
      exact (Int.emod_eq_zero_of_dvd (Int.dvd_of_tmod_eq_zero h0)).symm
    · have c8 : ¬ (x - x / y * y) = 0 := fun h => c2 ((lg_cmp_eq _ _).mpr h)
      refine h_lload_w C dJ9_floorMod_f86c9_20 rfl ?_
      refine h_lload_g C dJ9_floorMod_f86c9_22 rfl rfl ?_
      refine h_ladd C dJ9_floorMod_f86c9_23 ?_
      refine h_lret C E dJ9_floorMod_f86c9_24 (by decide) (by decide) ?_
      refine ⟨_, rfl, rfl, ?_⟩
      have h0 : ¬ x.toInt.tmod y.toInt = 0 := fun h => c8 (Int64.toInt_inj.mp (by rw [hm, h]; rfl))
      have hr1 := fb_rngL y
      have hr2 := Int.tmod_lt_of_pos x.toInt hy
      have hr3 : -y.toInt < x.toInt.tmod y.toInt := (tmod_bounds hy).1
      have hr4 : x.toInt.tmod y.toInt ≤ 0 := by
        have h1 := Int.tmod_nonneg y.toInt (a := -x.toInt) (by omega)
        rw [Int.neg_tmod] at h1
        omega
      rw [fb_addL (by rw [hm]; omega) (by rw [hm]; omega), hm]
      have hd := Int.mul_tdiv_add_tmod x.toInt y.toInt
      have he : x.toInt = (x.toInt.tmod y.toInt + y.toInt) + y.toInt * (x.toInt.tdiv y.toInt - 1) := by rw [Int.mul_sub, Int.mul_one]; omega
      rw [he, Int.add_mul_emod_self_left, ← he, Int.emod_eq_of_lt (by omega) (by omega)]

set_option maxRecDepth 100000 in
set_option maxHeartbeats 4000000 in
theorem k_J9_max_7cf53 (l : Launch) (G : Gx) (x y : Int32) (μ : Mem) : Kon l yJ9_max_7cf53 cJ9_max_7cf53 2 (some .int) 0 0 0 0 G [.int x, .int y] μ (pI fun r μ' => μ = μ' ∧ r = if x < y then y else x) noX := by
  refine Kon.of (by decide +kernel) (Nat.le_of_ble_eq_true rfl) (Nat.le_of_ble_eq_true rfl) (fun Z C E N M => ?_)
  have C : Cx Z RJ9 cJ9_max_7cf53 0 0 0 0 := C
  show HW Z 0 0 0 [some (.int x), some (.int y)] [] μ
  refine h_iload_g C dJ9_max_7cf53_0 rfl rfl ?_
  refine h_iload_g C dJ9_max_7cf53_1 rfl rfl ?_
  refine h_icmp_lt (tgt := 9) C dJ9_max_7cf53_2 (by decide) (fun c1 => ?_) (fun c1 => ?_)
  · refine h_iload_g C dJ9_max_7cf53_9 rfl rfl ?_
    refine h_iret C E dJ9_max_7cf53_10 (by decide) (by decide) ?_
    exact ⟨_, rfl, rfl, by rw [if_pos c1]⟩
  · refine h_iload_g C dJ9_max_7cf53_5 rfl rfl ?_
    refine h_goto (tgt := 10) C dJ9_max_7cf53_6 (by decide) ?_
    refine h_iret C E dJ9_max_7cf53_10 (by decide) (by decide) ?_
    exact ⟨_, rfl, rfl, by rw [if_neg c1]⟩

set_option maxRecDepth 100000 in
set_option maxHeartbeats 4000000 in
theorem k_J9_min_7cf53 (l : Launch) (G : Gx) (x y : Int32) (μ : Mem) : Kon l yJ9_min_7cf53 cJ9_min_7cf53 2 (some .int) 0 0 0 0 G [.int x, .int y] μ (pI fun r μ' => μ = μ' ∧ r = if y < x then y else x) noX := by
  refine Kon.of (by decide +kernel) (Nat.le_of_ble_eq_true rfl) (Nat.le_of_ble_eq_true rfl) (fun Z C E N M => ?_)
  have C : Cx Z RJ9 cJ9_min_7cf53 0 0 0 0 := C
  show HW Z 0 0 0 [some (.int x), some (.int y)] [] μ
  refine h_iload_g C dJ9_min_7cf53_0 rfl rfl ?_
  refine h_iload_g C dJ9_min_7cf53_1 rfl rfl ?_
  refine h_icmp_gt (tgt := 9) C dJ9_min_7cf53_2 (by decide) (fun c1 => ?_) (fun c1 => ?_)
  · refine h_iload_g C dJ9_min_7cf53_9 rfl rfl ?_
    refine h_iret C E dJ9_min_7cf53_10 (by decide) (by decide) ?_
    exact ⟨_, rfl, rfl, by rw [if_pos c1]⟩
  · refine h_iload_g C dJ9_min_7cf53_5 rfl rfl ?_
    refine h_goto (tgt := 10) C dJ9_min_7cf53_6 (by decide) ?_
    refine h_iret C E dJ9_min_7cf53_10 (by decide) (by decide) ?_
    exact ⟨_, rfl, rfl, by rw [if_neg c1]⟩

set_option maxRecDepth 100000 in
set_option maxHeartbeats 4000000 in
theorem k_X4_mixed (l : Launch) (G : Gx) (x v : Int32) (m : Nat) (hx : x = nI m) (hm : m < 65521) (μ : Mem) : Kon l yX4_mixed cX4_mixed 2 (some .int) 1 0 0 25 G [.int x, .int v] μ (pI fun r μ' => μ = μ' ∧ r = nI (mxN m v.toInt)) noX := by
  refine Kon.of (by decide +kernel) (Nat.le_of_ble_eq_true rfl) (Nat.le_of_ble_eq_true rfl) (fun Z C E N M => ?_)
  have C : Cx Z RX4 cX4_mixed 1 0 0 25 := C
  show HW Z 0 0 0 [some (.int x), some (.int v)] [] μ
  refine h_ldc2 C kc_X4_30 dX4_mixed_0 ?_
  refine h_iload_g C dX4_mixed_3 rfl rfl ?_
  refine h_i2l C dX4_mixed_4 ?_
  refine h_lmul C dX4_mixed_5 ?_
  refine h_iload_g C dX4_mixed_6 rfl rfl ?_
  refine h_i2l C dX4_mixed_7 ?_
  refine h_ladd C dX4_mixed_8 ?_
  refine h_ldc2 C kc_X4_32 dX4_mixed_9 ?_
  refine h_ladd C dX4_mixed_12 ?_
  refine h_ldc2 C kc_X4_34 dX4_mixed_13 ?_
  refine h_callS2 C (k_J9_floorMod_f86c9 Z.l Z.G _ 65521 (by decide) μ) cw_X4_17 st_J9_floorMod_f86c9 dX4_mixed_16 (by decide) (by decide) (by decide) (by decide) (by decide) (kL fun r3 μ2 hp1 => ?_) kN
  obtain ⟨rfl, hr⟩ := hp1
  refine h_l2i C dX4_mixed_19 ?_
  refine h_iret C E dX4_mixed_20 (by decide) (by decide) ?_
  refine ⟨_, rfl, rfl, l_toI (z := mxN m v.toInt) ?_ (by have := mxN_lt m v.toInt; omega)⟩
  have hv := fb_rng v
  have e1 : x.toInt64.toInt = (m : Int) := by rw [i_toL, hx, nI_toInt (by omega)]
  have e2 : (31 * x.toInt64 : Int64).toInt = 31 * (m : Int) := by rw [fb_mulL (by rw [e1]; show _ ≤ (31 : Int) * _; omega) (by rw [e1]; show (31 : Int) * _ < _; omega), e1]; rfl
  have e3 : (31 * x.toInt64 + v.toInt64 : Int64).toInt = 31 * (m : Int) + v.toInt := by rw [fb_addL (by rw [e2, i_toL]; omega) (by rw [e2, i_toL]; omega), e2, i_toL]
  have e4 : (31 * x.toInt64 + v.toInt64 + 2 : Int64).toInt = 31 * (m : Int) + v.toInt + 2 := by rw [fb_addL (by rw [e3]; show _ ≤ _ + (2 : Int); omega) (by rw [e3]; show _ + (2 : Int) < _; omega), e3]; rfl
  rw [hr, e4, mxN_int]
  rfl

set_option maxRecDepth 100000 in
set_option maxHeartbeats 4000000 in
theorem k_X4_neverZero (l : Launch) (G : Gx) (x : Int32) (μ : Mem) : Kon l yX4_neverZero cX4_neverZero 1 (some .int) 0 0 0 0 G [.int x] μ (pI fun r μ' => μ = μ' ∧ r = if x = 0 then 1 else x) noX := by
  refine Kon.of (by decide +kernel) (Nat.le_of_ble_eq_true rfl) (Nat.le_of_ble_eq_true rfl) (fun Z C E N M => ?_)
  have C : Cx Z RX4 cX4_neverZero 0 0 0 0 := C
  show HW Z 0 0 0 [some (.int x)] [] μ
  refine h_iload_g C dX4_neverZero_0 rfl rfl ?_
  refine h_if_ne (tgt := 8) C dX4_neverZero_1 (by decide) (fun c1 => ?_) (fun c1 => ?_)
  · refine h_iload_g C dX4_neverZero_8 rfl rfl ?_
    refine h_iret C E dX4_neverZero_9 (by decide) (by decide) ?_
    exact ⟨_, rfl, rfl, by rw [if_neg c1]⟩
  · refine h_iconst (v := 1) C dX4_neverZero_4 (by decide) ?_
    refine h_goto (tgt := 9) C dX4_neverZero_5 (by decide) ?_
    refine h_iret C E dX4_neverZero_9 (by decide) (by decide) ?_
    exact ⟨_, rfl, rfl, by rw [if_pos c1]⟩

set_option maxRecDepth 100000 in
set_option maxHeartbeats 4000000 in
theorem k_X4_mix (l : Launch) (G : Gx) (a b c : Int32) (μ : Mem) : Kon l yX4_mix cX4_mix 3 (some .int) 2 0 0 46 G [.int a, .int b, .int c] μ (pI fun r μ' => μ = μ' ∧ r = nI (MIX [a.toInt, b.toInt, c.toInt])) noX := by
  refine Kon.of (by decide +kernel) (Nat.le_of_ble_eq_true rfl) (Nat.le_of_ble_eq_true rfl) (fun Z C E N M => ?_)
  have C : Cx Z RX4 cX4_mix 2 0 0 46 := C
  show HW Z 0 0 0 [some (.int a), some (.int b), some (.int c)] [] μ
  refine h_bipush (v := 17) C dX4_mix_0 (by decide) ?_
  refine h_iload_g C dX4_mix_2 rfl rfl ?_
  refine h_callS2 C (k_X4_mixed Z.l Z.G _ a 17 rfl (by decide) μ) cw_X4_23 st_X4_mixed dX4_mix_3 (by decide) (by decide) (by decide) (by decide) (by decide) (kI fun r3 μ2 hp1 => ?_) kN
  obtain ⟨rfl, rfl⟩ := hp1
  refine h_iload_g C dX4_mix_6 rfl rfl ?_
  refine h_callS2 C (k_X4_mixed Z.l Z.G _ b (mxN 17 a.toInt) rfl (mxN_lt _ _) μ) cw_X4_23 st_X4_mixed dX4_mix_7 (by decide) (by decide) (by decide) (by decide) (by decide) (kI fun r6 μ5 hp4 => ?_) kN
  obtain ⟨rfl, rfl⟩ := hp4
  refine h_iload_g C dX4_mix_10 rfl rfl ?_
  refine h_callS2 C (k_X4_mixed Z.l Z.G _ c (mxN (mxN 17 a.toInt) b.toInt) rfl (mxN_lt _ _) μ) cw_X4_23 st_X4_mixed dX4_mix_11 (by decide) (by decide) (by decide) (by decide) (by decide) (kI fun r9 μ8 hp7 => ?_) kN
  obtain ⟨rfl, rfl⟩ := hp7
  refine h_callS1 C (k_X4_neverZero Z.l Z.G _ μ) cw_X4_26 st_X4_neverZero dX4_mix_14 (by decide) (by decide) (by decide) (by decide) (by decide) (kI fun r12 μ11 hp10 => ?_) kN
  obtain ⟨rfl, rfl⟩ := hp10
  refine h_iret C E dX4_mix_17 (by decide) (by decide) ?_
  refine ⟨_, rfl, rfl, ?_⟩
  show (if nI (mxN (mxN (mxN 17 a.toInt) b.toInt) c.toInt) = 0 then (1 : Int32) else nI (mxN (mxN (mxN 17 a.toInt) b.toInt) c.toInt)) = nI (nz1 (mxN (mxN (mxN 17 a.toInt) b.toInt) c.toInt))
  unfold nz1
  have hl := mxN_lt (mxN (mxN 17 a.toInt) b.toInt) c.toInt
  by_cases e : (mxN (mxN (mxN 17 a.toInt) b.toInt) c.toInt) = 0
  · rw [e]; rfl
  · rw [if_neg e, if_neg (nI_ne0 (by omega) (by omega))]

set_option maxRecDepth 100000 in
set_option maxHeartbeats 4000000 in
theorem k_X4_mixOfFour (l : Launch) (G : Gx) (a b c d : Int32) (μ : Mem) : Kon l yX4_mixOfFour cX4_mixOfFour 4 (some .int) 2 0 0 46 G [.int a, .int b, .int c, .int d] μ (pI fun r μ' => μ = μ' ∧ r = nI (MIX [a.toInt, b.toInt, c.toInt, d.toInt])) noX := by
  refine Kon.of (by decide +kernel) (Nat.le_of_ble_eq_true rfl) (Nat.le_of_ble_eq_true rfl) (fun Z C E N M => ?_)
  have C : Cx Z RX4 cX4_mixOfFour 2 0 0 46 := C
  show HW Z 0 0 0 [some (.int a), some (.int b), some (.int c), some (.int d)] [] μ
  refine h_bipush (v := 17) C dX4_mixOfFour_0 (by decide) ?_
  refine h_iload_g C dX4_mixOfFour_2 rfl rfl ?_
  refine h_callS2 C (k_X4_mixed Z.l Z.G _ a 17 rfl (by decide) μ) cw_X4_23 st_X4_mixed dX4_mixOfFour_3 (by decide) (by decide) (by decide) (by decide) (by decide) (kI fun r3 μ2 hp1 => ?_) kN
  obtain ⟨rfl, rfl⟩ := hp1
  refine h_iload_g C dX4_mixOfFour_6 rfl rfl ?_
  refine h_callS2 C (k_X4_mixed Z.l Z.G _ b (mxN 17 a.toInt) rfl (mxN_lt _ _) μ) cw_X4_23 st_X4_mixed dX4_mixOfFour_7 (by decide) (by decide) (by decide) (by decide) (by decide) (kI fun r6 μ5 hp4 => ?_) kN
  obtain ⟨rfl, rfl⟩ := hp4
  refine h_iload_g C dX4_mixOfFour_10 rfl rfl ?_
  refine h_callS2 C (k_X4_mixed Z.l Z.G _ c (mxN (mxN 17 a.toInt) b.toInt) rfl (mxN_lt _ _) μ) cw_X4_23 st_X4_mixed dX4_mixOfFour_11 (by decide) (by decide) (by decide) (by decide) (by decide) (kI fun r9 μ8 hp7 => ?_) kN
  obtain ⟨rfl, rfl⟩ := hp7
  refine h_iload_g C dX4_mixOfFour_14 rfl rfl ?_
  refine h_callS2 C (k_X4_mixed Z.l Z.G _ d (mxN (mxN (mxN 17 a.toInt) b.toInt) c.toInt) rfl (mxN_lt _ _) μ) cw_X4_23 st_X4_mixed dX4_mixOfFour_15 (by decide) (by decide) (by decide) (by decide) (by decide) (kI fun r12 μ11 hp10 => ?_) kN
  obtain ⟨rfl, rfl⟩ := hp10
  refine h_callS1 C (k_X4_neverZero Z.l Z.G _ μ) cw_X4_26 st_X4_neverZero dX4_mixOfFour_18 (by decide) (by decide) (by decide) (by decide) (by decide) (kI fun r15 μ14 hp13 => ?_) kN
  obtain ⟨rfl, rfl⟩ := hp13
  refine h_iret C E dX4_mixOfFour_21 (by decide) (by decide) ?_
  refine ⟨_, rfl, rfl, ?_⟩
  show (if nI (mxN (mxN (mxN (mxN 17 a.toInt) b.toInt) c.toInt) d.toInt) = 0 then (1 : Int32) else nI (mxN (mxN (mxN (mxN 17 a.toInt) b.toInt) c.toInt) d.toInt)) = nI (nz1 (mxN (mxN (mxN (mxN 17 a.toInt) b.toInt) c.toInt) d.toInt))
  unfold nz1
  have hl := mxN_lt (mxN (mxN (mxN 17 a.toInt) b.toInt) c.toInt) d.toInt
  by_cases e : (mxN (mxN (mxN (mxN 17 a.toInt) b.toInt) c.toInt) d.toInt) = 0
  · rw [e]; rfl
  · rw [if_neg e, if_neg (nI_ne0 (by omega) (by omega))]

set_option maxRecDepth 100000 in
set_option maxHeartbeats 4000000 in
theorem lp_X4_power {Z : Zx} {Post : Option Value → Mem → Prop} {PostX : String → Mem → Prop} {rf rc rs rl mc ms : Nat} {μ : Mem} {bn e : Nat} (hbl : bn < 2039) (hel : e < 2 ^ 31) (C : Cx Z RX4 cX4_power rf rc rs rl) (E : Rt Z mc ms (some .int) Post PostX) (hp : Post (some (.int (nI (PW bn e)))) μ) {k n : Nat} (hk : k ≤ mc) (hn : n ≤ ms) :
    ∀ (j r : Nat), j ≤ 31 → r = PW bn (e / 2 ^ j) → HW Z k n 5 [some (.int (nI bn)), some (.int (nI e)), some (.int (nI r)), some (.int (nI j + (-1)))] [] μ := by
  have hp9 : ∀ r, r = PW bn (e / 2 ^ 0) → Post (some (.int (nI r))) μ := fun r hr => by rw [hr, Nat.pow_zero, Nat.div_one]; exact hp
  intro j
  induction j with
  | zero =>
    intro r hj hr
    refine h_iload_g C dX4_power_5 rfl rfl ?_
    refine h_if_lt (tgt := 40) C dX4_power_6 (by decide) (fun c1 => ?_) (fun c1 => absurd ((by decide)) c1)
    refine h_iload_g C dX4_power_40 rfl rfl ?_
    refine h_iret C E dX4_power_41 hk hn ?_
    exact hp9 r hr
  | succ j ih =>
    intro r hj hr
    have hrl := PW_lt bn (e / 2 ^ (j + 1))
    rw [← hr] at hrl
    have hrr : r * r < 2039 * 2039 := Nat.mul_lt_mul'' hrl hrl
    refine h_iload_g C dX4_power_5 rfl rfl ?_
    refine h_if_lt (tgt := 40) C dX4_power_6 (by decide) (fun c1 => absurd c1 ((by rw [pk_m1]; exact nI_pos (by omega)))) (fun c1 => ?_)
    refine h_iload_g C dX4_power_9 rfl rfl ?_
    refine h_iload_g C dX4_power_10 rfl rfl ?_
    refine h_imul C dX4_power_11 ?_
    refine h_sipush (v := 2039) C dX4_power_12 (by decide) ?_
    refine h_irem C dX4_power_15 (by decide) ?_
    rw [show (nI r * nI r - nI r * nI r / 2039 * 2039 : Int32) = nI (r * r % 2039) from by rw [pk_mul]; exact pk_rem (d := 2039) (by omega) (by decide) (by decide)]
    refine h_ist_2 C dX4_power_16 ct_i ?_
    refine h_iload_g C dX4_power_17 rfl rfl ?_
    refine h_iload_g C dX4_power_18 rfl rfl ?_
    refine h_ishr C dX4_power_19 ?_
    refine h_iconst (v := 1) C dX4_power_20 (by decide) ?_
    refine h_iand C dX4_power_21 ?_
    rw [pk_m1, pk_shrN (n := e) (by omega) (nI j &&& 31) j (s_l j (by omega)), pk_andN (n := e / 2 ^ j) (by have := Nat.div_le_self e (2 ^ j); omega) (m := 1) 1 (by decide)]
    refine h_iconst (v := 1) C dX4_power_22 (by decide) ?_
    refine h_icmp_ne (tgt := 34) C dX4_power_23 (by decide) (fun c2 => ?_) (fun c2 => ?_)
    · have e8 : ¬ e / 2 ^ j % 2 = 1 := fun h => c2 (by rw [Nat.pow_one, h]; rfl)
      have e9 : r * r % 2039 = PW bn (e / 2 ^ j) := by rw [PW_step bn (e / 2 ^ j) r (by rw [hr, Nat.div_div_eq_div_mul, ← Nat.pow_succ]), if_neg e8]
      refine h_iinc_3 (q := (-1)) C dX4_power_34 (by decide) ct_i ?_
      refine h_goto (tgt := 5) C dX4_power_37 (by decide) ?_
      exact ih _ (by omega) e9
    · have e8 : e / 2 ^ j % 2 = 1 := (nI_eq (b := 1) (by omega) (by decide)).mp (by rw [Nat.pow_one] at c2; exact c2)
      have e9 : r * r % 2039 * bn % 2039 = PW bn (e / 2 ^ j) := by rw [PW_step bn (e / 2 ^ j) r (by rw [hr, Nat.div_div_eq_div_mul, ← Nat.pow_succ]), if_pos e8]
      refine h_iload_g C dX4_power_26 rfl rfl ?_
      refine h_iload_g C dX4_power_27 rfl rfl ?_
      refine h_imul C dX4_power_28 ?_
      refine h_sipush (v := 2039) C dX4_power_29 (by decide) ?_
      refine h_irem C dX4_power_32 (by decide) ?_
      have e7 : r * r % 2039 * bn < 2039 * 2039 := Nat.lt_of_le_of_lt (Nat.mul_le_mul_right bn (Nat.le_of_lt (Nat.mod_lt _ (by decide)))) (Nat.mul_lt_mul_of_pos_left hbl (by decide))
      rw [show (nI (r * r % 2039) * nI bn - nI (r * r % 2039) * nI bn / 2039 * 2039 : Int32) = nI (r * r % 2039 * bn % 2039) from by rw [pk_mul]; exact pk_rem (d := 2039) (by omega) (by decide) (by decide)]
      refine h_ist_2 C dX4_power_33 ct_i ?_
      refine h_iinc_3 (q := (-1)) C dX4_power_34 (by decide) ct_i ?_
      refine h_goto (tgt := 5) C dX4_power_37 (by decide) ?_
      exact ih _ (by omega) e9

set_option maxRecDepth 100000 in
set_option maxHeartbeats 4000000 in
theorem k_X4_power (l : Launch) (G : Gx) (b x : Int32) (bn e : Nat) (hb : b = nI bn) (hbl : bn < 2039) (hx : x = nI e) (hel : e < 2 ^ 31) (μ : Mem) : Kon l yX4_power cX4_power 4 (some .int) 0 0 0 0 G [.int b, .int x] μ (pI fun r μ' => μ = μ' ∧ r = nI (PW bn e)) noX := by
  refine Kon.of (by decide +kernel) (Nat.le_of_ble_eq_true rfl) (Nat.le_of_ble_eq_true rfl) (fun Z C E N M => ?_)
  have C : Cx Z RX4 cX4_power 0 0 0 0 := C
  show HW Z 0 0 0 [some (.int b), some (.int x), none, none] [] μ
  subst hb
  subst hx
  refine h_iconst (v := 1) C dX4_power_0 (by decide) ?_
  refine h_ist_2 C dX4_power_1 ct_i ?_
  refine h_bipush (v := 30) C dX4_power_2 (by decide) ?_
  refine h_ist_3 C dX4_power_4 ct_i ?_
  exact lp_X4_power hbl hel C E ⟨_, rfl, rfl, rfl⟩ (by decide) (by decide) 31 1 (by decide) (by rw [Nat.div_eq_of_lt hel]; rfl)

set_option maxRecDepth 100000 in
set_option maxHeartbeats 4000000 in
theorem k_X4_publicNumber (l : Launch) (G : Gx) (x : Int32) (e : Nat) (hx : x = nI e) (hel : e < 2 ^ 31) (μ : Mem) : Kon l yX4_publicNumber cX4_publicNumber 1 (some .int) 1 0 0 23 G [.int x] μ (pI fun r μ' => μ = μ' ∧ r = nI (PW 7 e)) noX := by
  refine Kon.of (by decide +kernel) (Nat.le_of_ble_eq_true rfl) (Nat.le_of_ble_eq_true rfl) (fun Z C E N M => ?_)
  have C : Cx Z RX4 cX4_publicNumber 1 0 0 23 := C
  show HW Z 0 0 0 [some (.int x)] [] μ
  refine h_bipush (v := 7) C dX4_publicNumber_0 (by decide) ?_
  refine h_iload_g C dX4_publicNumber_2 rfl rfl ?_
  refine h_callS2 C (k_X4_power Z.l Z.G 7 x 7 e rfl (by decide) hx hel μ) cw_X4_9 st_X4_power dX4_publicNumber_3 (by decide) (by decide) (by decide) (by decide) (by decide) (kI fun r3 μ2 hp1 => ?_) kN
  obtain ⟨rfl, rfl⟩ := hp1
  refine h_iret C E dX4_publicNumber_6 (by decide) (by decide) ?_
  exact ⟨_, rfl, rfl, rfl⟩

set_option maxRecDepth 100000 in
set_option maxHeartbeats 4000000 in
theorem k_X4_secretOfEnd (l : Launch) (G : Gx) (x : Int32) (μ : Mem) : Kon l yX4_secretOfEnd cX4_secretOfEnd 1 (some .int) 0 0 0 0 G [.int x] μ (pI fun r μ' => μ = μ' ∧ r = 211 + 307 * x) noX := by
  refine Kon.of (by decide +kernel) (Nat.le_of_ble_eq_true rfl) (Nat.le_of_ble_eq_true rfl) (fun Z C E N M => ?_)
  have C : Cx Z RX4 cX4_secretOfEnd 0 0 0 0 := C
  show HW Z 0 0 0 [some (.int x)] [] μ
  refine h_sipush (v := 211) C dX4_secretOfEnd_0 (by decide) ?_
  refine h_sipush (v := 307) C dX4_secretOfEnd_3 (by decide) ?_
  refine h_iload_g C dX4_secretOfEnd_6 rfl rfl ?_
  refine h_imul C dX4_secretOfEnd_7 ?_
  refine h_iadd C dX4_secretOfEnd_8 ?_
  refine h_iret C E dX4_secretOfEnd_9 (by decide) (by decide) ?_
  exact ⟨_, rfl, rfl, rfl⟩

def SEC (n : Nat) : Nat := 1 + 577 * n % 1018
theorem SEC_lt (n : Nat) : SEC n < 1019 := by unfold SEC; omega

set_option maxRecDepth 100000 in
set_option maxHeartbeats 4000000 in
theorem k_X4_secretOf (l : Launch) (G : Gx) (x : Int32) (m : Nat) (hx : x = nI m) (hm : m < 1000000) (μ : Mem) : Kon l yX4_secretOf cX4_secretOf 1 (some .int) 1 0 0 25 G [.int x] μ (pI fun r μ' => μ = μ' ∧ r = nI (SEC m)) noX := by
  refine Kon.of (by decide +kernel) (Nat.le_of_ble_eq_true rfl) (Nat.le_of_ble_eq_true rfl) (fun Z C E N M => ?_)
  have C : Cx Z RX4 cX4_secretOf 1 0 0 25 := C
  show HW Z 0 0 0 [some (.int x)] [] μ
  refine h_iconst (v := 1) C dX4_secretOf_0 (by decide) ?_
  refine h_ldc2 C kc_X4_13 dX4_secretOf_1 ?_
  refine h_iload_g C dX4_secretOf_4 rfl rfl ?_
  refine h_i2l C dX4_secretOf_5 ?_
  refine h_lmul C dX4_secretOf_6 ?_
  refine h_ldc2 C kc_X4_15 dX4_secretOf_7 ?_
  refine h_callS2 C (k_J9_floorMod_f86c9 Z.l Z.G _ 1018 (by decide) μ) cw_X4_17 st_J9_floorMod_f86c9 dX4_secretOf_10 (by decide) (by decide) (by decide) (by decide) (by decide) (kL fun r3 μ2 hp1 => ?_) kN
  obtain ⟨rfl, hr⟩ := hp1
  refine h_l2i C dX4_secretOf_13 ?_
  refine h_iadd C dX4_secretOf_14 ?_
  refine h_iret C E dX4_secretOf_15 (by decide) (by decide) ?_
  refine ⟨_, rfl, rfl, ?_⟩
  have e1 : x.toInt64.toInt = (m : Int) := by rw [i_toL, hx, nI_toInt (by omega)]
  have e2 : (577 * x.toInt64 : Int64).toInt = 577 * (m : Int) := by rw [fb_mulL (by rw [e1]; show _ ≤ (577 : Int) * _; omega) (by rw [e1]; show (577 : Int) * _ < _; omega), e1]; rfl
  rw [l_toI (z := 577 * m % 1018) (by rw [hr, e2]; show (577 * (m : Int)) % 1018 = _; omega) (by omega)]
  exact nI_add 1 _

set_option maxRecDepth 100000 in
set_option maxHeartbeats 4000000 in
theorem k_X4_added (l : Launch) (G : Gx) (x : Int64) (y : Int32) (μ : Mem) : Kon l yX4_added cX4_added 3 (some .long) 0 0 0 0 G [.long x, .int y] μ (pL fun r μ' => μ = μ' ∧ r = 31 * x + y.toInt64) noX := by
  refine Kon.of (by decide +kernel) (Nat.le_of_ble_eq_true rfl) (Nat.le_of_ble_eq_true rfl) (fun Z C E N M => ?_)
  have C : Cx Z RX4 cX4_added 0 0 0 0 := C
  show HW Z 0 0 0 [some (.long x), none, some (.int y)] [] μ
  refine h_ldc2 C kc_X4_30 dX4_added_0 ?_
  refine h_lload_g C dX4_added_3 rfl rfl ?_
  refine h_lmul C dX4_added_4 ?_
  refine h_iload_g C dX4_added_5 rfl rfl ?_
  refine h_i2l C dX4_added_6 ?_
  refine h_ladd C dX4_added_7 ?_
  refine h_lret C E dX4_added_8 (by decide) (by decide) ?_
  exact ⟨_, rfl, rfl, rfl⟩

theorem sl_bd (a b : Int) (h1 : -2147483650 ≤ a) (h2 : a ≤ 2147549200) (h3 : 0 ≤ b) (h4 : b ≤ 65536) : -281474976710656 ≤ a * b ∧ a * b ≤ 281474976710656 := by
  have e1 : a * b ≤ 2147549200 * b := Int.mul_le_mul_of_nonneg_right h2 h3
  have e2 : -2147483650 * b ≤ a * b := Int.mul_le_mul_of_nonneg_right h1 h3
  omega

set_option maxRecDepth 100000 in
set_option maxHeartbeats 4000000 in
theorem lp_X4_sealOf {Z : Zx} {Post : Option Value → Mem → Prop} {PostX : String → Mem → Prop} {rc rs mc ms : Nat} {μ : Mem} {K N a : Nat} {f c : Int32} {g : Nat → Int} {G9 : Nat → Int32} (hK : K < 65521) (hka : μ.kd a % 32 = 11) (hla : μ.ln a < 2 ^ 31) (hNl : N ≤ μ.ln a) (hg : ∀ i, i < N → μ.ei a i = G9 i) (hG9 : ∀ i, (G9 i).toInt = g i) (C : Cx Z RX4 cX4_sealOf 1 rc rs 100) (E : Rt Z mc ms (some .int) Post PostX) (hp : ∀ r, r = nI (SEALc K f.toInt g N).toNat → Post (some (.int r)) μ) {k n : Nat} (hk : k ≤ mc) (hn : n ≤ ms) (hk2 : k ≤ rc) (hn2 : n ≤ rs) :
    ∀ (j : Nat), j ≤ N → HW Z k n 13 [some (.int (nI K)), some (.int f), some (.ref a), some (.int c), some (.long (lN (hzs K g j (N - j)).toNat)), none, some (.int (nI j + (-1)))] [] μ := by
  have hgr : ∀ i, -2147483648 ≤ g i ∧ g i < 2147483648 := fun i => by rw [← hG9 i]; exact fb_rng (G9 i)
  intro j
  induction j with
  | zero =>
    intro hj
    have er := hzs_rng (K : Int) g (N - 0) 0
    have es : (lN (hzs K g 0 (N - 0)).toNat).toInt = hzs K g 0 (N - 0) := by rw [lN_toInt (by omega)]; omega
    refine h_iload_w C dX4_sealOf_13 rfl ?_
    refine h_if_lt (tgt := 47) C dX4_sealOf_15 (by decide) (fun c1 => ?_) (fun c1 => absurd ((by decide)) c1)
    refine h_lload_w C dX4_sealOf_47 rfl ?_
    refine h_iload_g C dX4_sealOf_49 rfl rfl ?_
    refine h_i2l C dX4_sealOf_50 ?_
    refine h_ladd C dX4_sealOf_51 ?_
    refine h_ldc2 C kc_X4_32 dX4_sealOf_52 ?_
    refine h_ladd C dX4_sealOf_55 ?_
    refine h_iload_g C dX4_sealOf_56 rfl rfl ?_
    refine h_i2l C dX4_sealOf_57 ?_
    refine h_lmul C dX4_sealOf_58 ?_
    refine h_ldc2 C kc_X4_34 dX4_sealOf_59 ?_
    refine h_callS2 C (k_J9_floorMod_f86c9 Z.l Z.G _ 65521 (by decide) μ) cw_X4_17 st_J9_floorMod_f86c9 dX4_sealOf_62 (by decide) (by decide) (by decide) (by omega) (by omega) (kL fun r4 μ3 hp2 => ?_) kN
    obtain ⟨rfl, hr⟩ := hp2
    refine h_l2i C dX4_sealOf_65 ?_
    refine h_iret C E dX4_sealOf_66 hk hn ?_
    refine hp _ ?_
    rw [Nat.sub_zero] at es er hr
    have hf9 := fb_rng f
    have e1 : (lN (hzs K g 0 N).toNat + f.toInt64 : Int64).toInt = hzs K g 0 N + f.toInt := by rw [fb_addL (by rw [es, i_toL]; omega) (by rw [es, i_toL]; omega), es, i_toL]
    have e2 : (lN (hzs K g 0 N).toNat + f.toInt64 + 2 : Int64).toInt = hzs K g 0 N + f.toInt + 2 := by rw [fb_addL (by rw [e1]; show _ ≤ _ + (2 : Int); omega) (by rw [e1]; show _ + (2 : Int) < _; omega), e1]; rfl
    have e3 : (nI K).toInt64.toInt = (K : Int) := by rw [i_toL, nI_toInt (by omega)]
    have e4 : -281474976710656 ≤ (hzs K g 0 N + f.toInt + 2) * (K : Int) ∧ (hzs K g 0 N + f.toInt + 2) * (K : Int) ≤ 281474976710656 := sl_bd _ _ (by omega) (by omega) (by omega) (by omega)
    have e5 : ((lN (hzs K g 0 N).toNat + f.toInt64 + 2) * (nI K).toInt64 : Int64).toInt = (hzs K g 0 N + f.toInt + 2) * (K : Int) := by rw [fb_mulL (by rw [e2, e3]; omega) (by rw [e2, e3]; omega), e2, e3]
    have e6 := SEALc_rng K f.toInt g N
    refine l_toI (z := (SEALc K f.toInt g N).toNat) ?_ (by omega)
    rw [hr, e5]
    unfold SEALc at e6 ⊢
    show _ % (65521 : Int) = _
    omega
  | succ j ih =>
    intro hj
    have er := hzs_rng (K : Int) g (N - (j + 1)) (j + 1)
    have es : (lN (hzs K g (j + 1) (N - (j + 1))).toNat).toInt = hzs K g (j + 1) (N - (j + 1)) := by rw [lN_toInt (by omega)]; omega
    refine h_iload_w C dX4_sealOf_13 rfl ?_
    refine h_if_lt (tgt := 47) C dX4_sealOf_15 (by decide) (fun c1 => absurd c1 ((by rw [pk_m1]; exact nI_pos (by omega)))) (fun c1 => ?_)
    refine h_lload_w C dX4_sealOf_18 rfl ?_
    refine h_al_g C dX4_sealOf_20 rfl rfl rfv_r ?_
    refine h_iload_w C dX4_sealOf_21 rfl ?_
    refine h_iald C dX4_sealOf_23 hka (by rw [pk_m1]; exact vp_in_nI (by omega) hla) rfl ?_
    refine h_i2l C dX4_sealOf_24 ?_
    refine h_ladd C dX4_sealOf_25 ?_
    refine h_ldc2 C kc_X4_32 dX4_sealOf_26 ?_
    refine h_ladd C dX4_sealOf_29 ?_
    refine h_iload_g C dX4_sealOf_30 rfl rfl ?_
    refine h_i2l C dX4_sealOf_31 ?_
    refine h_lmul C dX4_sealOf_32 ?_
    refine h_ldc2 C kc_X4_34 dX4_sealOf_33 ?_
    refine h_callS2 C (k_J9_floorMod_f86c9 Z.l Z.G _ 65521 (by decide) μ) cw_X4_17 st_J9_floorMod_f86c9 dX4_sealOf_36 (by decide) (by decide) (by decide) (by omega) (by omega) (kL fun rq μ3 hp2 => ?_) kN
    obtain ⟨rfl, hr⟩ := hp2
    have e0 : (nI (j + 1) + (-1)).toNatClampNeg = j := by rw [pk_m1, nI_clamp (by omega)]
    rw [e0, hg j (by omega)] at hr
    have hf9 := hgr j
    have e1 : (lN (hzs K g (j + 1) (N - (j + 1))).toNat + (G9 j).toInt64 : Int64).toInt = hzs K g (j + 1) (N - (j + 1)) + g j := by rw [fb_addL (by rw [es, i_toL, hG9]; omega) (by rw [es, i_toL, hG9]; omega), es, i_toL, hG9]
    have e2 : (lN (hzs K g (j + 1) (N - (j + 1))).toNat + (G9 j).toInt64 + 2 : Int64).toInt = hzs K g (j + 1) (N - (j + 1)) + g j + 2 := by rw [fb_addL (by rw [e1]; show _ ≤ _ + (2 : Int); omega) (by rw [e1]; show _ + (2 : Int) < _; omega), e1]; rfl
    have e3 : (nI K).toInt64.toInt = (K : Int) := by rw [i_toL, nI_toInt (by omega)]
    have e4 : -281474976710656 ≤ (hzs K g (j + 1) (N - (j + 1)) + g j + 2) * (K : Int) ∧ (hzs K g (j + 1) (N - (j + 1)) + g j + 2) * (K : Int) ≤ 281474976710656 := sl_bd _ _ (by omega) (by omega) (by omega) (by omega)
    have e5 : ((lN (hzs K g (j + 1) (N - (j + 1))).toNat + (G9 j).toInt64 + 2) * (nI K).toInt64 : Int64).toInt = (hzs K g (j + 1) (N - (j + 1)) + g j + 2) * (K : Int) := by rw [fb_mulL (by rw [e2, e3]; omega) (by rw [e2, e3]; omega), e2, e3]
    have e6 : hzs K g j (N - j) = ((hzs K g (j + 1) (N - (j + 1)) + g j + 2) * (K : Int)) % 65521 := by rw [show N - j = (N - (j + 1)) + 1 by omega]; rfl
    have e7 := hzs_rng (K : Int) g (N - j) j
    have e8 : rq = lN (hzs K g j (N - j)).toNat := Int64.toInt_inj.mp (by rw [hr, e5, lN_toInt (by omega), e6] at *; show _ % (65521 : Int) = _; omega)
    rw [e8]
    refine h_lst_4 C dX4_sealOf_39 ct_i ?_
    refine h_iinc_6 (q := (-1)) C dX4_sealOf_41 (by decide) ct_n ?_
    rw [pk_m1]
    refine h_goto (tgt := 13) C dX4_sealOf_44 (by decide) ?_
    exact ih (by omega)

set_option maxRecDepth 100000 in
set_option maxHeartbeats 4000000 in
theorem k_X4_sealOf (l : Launch) (G : Gx) (x f c : Int32) (a K nn : Nat) (G9 : Nat → Int32) (hx : x = nI K) (hK : K < 65521) (hc : c = nI nn) (hN : nn < 2 ^ 31) (μ : Mem) (hka : μ.kd a % 32 = 11) (hla : μ.ln a < 2 ^ 31) (hNl : nn ≤ μ.ln a) (hg : ∀ i, i < nn → μ.ei a i = G9 i) : Kon l yX4_sealOf cX4_sealOf 7 (some .int) 1 0 0 100 G [.int x, .int f, .ref a, .int c] μ (pI fun r μ' => μ = μ' ∧ r = nI (SEALc K f.toInt (fun i => (G9 i).toInt) nn).toNat) noX := by
  refine Kon.of (by decide +kernel) (Nat.le_of_ble_eq_true rfl) (Nat.le_of_ble_eq_true rfl) (fun Z C E N M => ?_)
  have C : Cx Z RX4 cX4_sealOf 1 0 0 100 := C
  show HW Z 0 0 0 [some (.int x), some (.int f), some (.ref a), some (.int c), none, none, none] [] μ
  subst hx
  refine h_lconst (v := 0) C dX4_sealOf_0 (by decide) ?_
  refine h_lst_4 C dX4_sealOf_1 ct_i ?_
  refine h_iload_g C dX4_sealOf_3 rfl rfl ?_
  refine h_al_g C dX4_sealOf_4 rfl rfl rfv_r ?_
  refine h_alen C dX4_sealOf_5 ⟨by omega, by omega⟩ rfl ?_
  refine h_callS2 C (k_J9_min_7cf53 Z.l Z.G _ _ μ) cw_X4_36 st_J9_min_7cf53 dX4_sealOf_6 (by decide) (by decide) (by decide) (by decide) (by decide) (kI fun r3 μ2 hp1 => ?_) kN
  obtain ⟨rfl, rfl⟩ := hp1
  have e9 : (if (Int32.ofNat (μ.ln a)) < c then Int32.ofNat (μ.ln a) else c) = nI nn := by
    rw [hc]
    exact if_neg (nI_nlt hNl hla)
  rw [e9]
  refine h_iconst (v := 1) C dX4_sealOf_9 (by decide) ?_
  refine h_isub C dX4_sealOf_10 ?_
  refine h_ist_6 C dX4_sealOf_11 ct_n ?_
  have h9 := lp_X4_sealOf (Z := Z) (f := f) (c := c) (g := fun i => (G9 i).toInt) hK hka hla hNl hg (fun i => rfl) C E (fun r hr => ⟨r, rfl, rfl, hr⟩) (Nat.zero_le _) (Nat.zero_le _) (Nat.zero_le _) (Nat.zero_le _) nn (Nat.le_refl _)
  rw [Nat.sub_self] at h9
  rw [show (nI nn - 1 : Int32) = nI nn + (-1) from Int32.sub_eq_add_neg _ _]
  exact h9

end
