section
/-! THE PURE INVARIANT. H h: the hello of number h (from, to, stamp); R n: the reply of number n (to which hello, by whom, to whom). -/
abbrev GhH : Type := Nat → Option (Nat × Nat × Int32)
abbrev GhR : Type := Nat → Option (Nat × Nat × Nat)
/-- the key of the reply n of b to the hello h of a, as b finds it -/
def RKo (h n b a : Nat) : Nat := RKEY a (HKY a b (SEC h)) (PW 7 (SEC h)) (SEC n)
theorem HKT_o {a b h : Nat} {g : Row} (hg : g 4 = nI (PW 7 (SEC h))) : HKT b a g = HKY a b (SEC h) := by
  unfold HKT HKY
  rw [hg, cl_of (by have := PW_lt 7 (SEC h); omega)]
  unfold NAME
  rw [PW_dh 7 (SEC h) (211 + 307 * b), PW_dh 7 (211 + 307 * a) (211 + 307 * b)]
theorem TRK_o {a b h n : Nat} {f g : Row} (hf : f 1 = nI (SEC h)) (hg : g 5 = nI (PW 7 (SEC n))) : TRK a b f g = RKo h n b a := by
  unfold TRK RKo RKEY
  rw [hf, hg, cl_of (by have := SEC_lt h; omega), cl_of (by have := PW_lt 7 (SEC n); omega)]
  unfold NAME
  rw [PW_dh 7 (SEC n) (SEC h), PW_dh 7 (SEC n) (211 + 307 * a)]
/-- what was sent in a letter of data -/
def okDo (g : Row) : Prop := (0 ≤ (g 10).toInt ∧ (g 10).toInt < 40) ∧ (g 11 = -1 → g 12 = -1 ∧ g 13 = -1) ∧ (¬ g 11 = -1 → okInn (g 11))
/-- the key under which data for the session i is sent -/
def DKo (H : GhH) (R : GhR) (i K : Nat) : Prop := ((∃ x, R i = some x) ∨ ∃ x, H i = some x) ∧ (∀ h b a, R i = some (h, b, a) → K = MIX [5, (RKo h i b a : Int), 0]) ∧ ∀ a b s, H i = some (a, b, s) → ∃ n, R n = some (i, b, a) ∧ K = MIX [5, (RKo i n b a : Int), 1]
def Lgh (H : GhH) (R : GhR) (g : Row) : Prop := ∃ K, LT1 g K ∧
  (g 2 = 1 → ∃ h a b s, H h = some (a, b, s) ∧ g 3 = nI h ∧ g 4 = nI (PW 7 (SEC h)) ∧ g 5 = nI (10 * a + b) ∧ g 12 = s ∧ K = HKY a b (SEC h)) ∧
  (g 2 = 2 → ∃ n h b a, R n = some (h, b, a) ∧ g 3 = nI n ∧ g 4 = nI h ∧ g 5 = nI (PW 7 (SEC n)) ∧ K = RKo h n b a) ∧
  (g 2 = 3 → 0 < (g 3).toInt) ∧
  (g 2 = 4 → (∃ i, i < 1000000 ∧ g 3 = nI i ∧ DKo H R i K) ∧ okDo g)
/-- a session in the house of the one who answered / of the one who asked -/
def SeR (R : GhR) (e b : Nat) (r : Ses) : Prop := ∃ n h, R n = some (h, e, b) ∧ r.1 0 = nI n ∧ r.1 1 = nI h ∧ r.1 3 = nI (MIX [5, (RKo h n e b : Int), 1]) ∧ r.1 4 = nI (MIX [5, (RKo h n e b : Int), 0]) ∧ r.1 6 = 0
def SeI (R : GhR) (e b : Nat) (r : Ses) : Prop := ∃ n h, R n = some (h, b, e) ∧ r.1 0 = nI h ∧ r.1 1 = nI n ∧ r.1 3 = nI (MIX [5, (RKo h n b e : Int), 0]) ∧ r.1 4 = nI (MIX [5, (RKo h n b e : Int), 1]) ∧ r.1 6 = 1
/-- numbers and who drew them -/
def G1 (H : GhH) (R : GhR) (S : Sx) : Prop :=
  (∀ h a b s, H h = some (a, b, s) → 0 < h ∧ h < cl (HNUM S) ∧ a < 3 ∧ b < 3 ∧ a ≠ b) ∧
  (∀ n h b a, R n = some (h, b, a) → 0 < n ∧ n < cl (HNUM S) ∧ H n = none ∧ ∃ s, H h = some (a, b, s) ∧ s ≤ S.lf 1 b a) ∧
  (∀ n n' h b a b' a', R n = some (h, b, a) → R n' = some (h, b', a') → n = n')
/-- hellos in flight and sessions -/
def G2 (H : GhH) (R : GhR) (S : Sx) : Prop :=
  (∀ a b f, a < 3 → b < 3 → S.fl a b = some f → ∃ h s, H h = some (a, b, s) ∧ f 0 = nI h ∧ f 1 = nI (SEC h)) ∧
  (∀ e b w r, e < 3 → b < 3 → w < 3 → S.ses e b w = some r → e ≠ b ∧ (SeR R e b r ∨ SeI R e b r) ∧ SAL r ∧ okTk r ∧ 0 ≤ (r.1 5).toInt) ∧
  (∀ e b w e' b' w' r r', e < 3 → b < 3 → w < 3 → e' < 3 → b' < 3 → w' < 3 → S.ses e b w = some r → S.ses e' b' w' = some r' → r.1 0 = r'.1 0 → e = e' ∧ b = b' ∧ w = w') ∧
  (∀ a b f e b' w r, a < 3 → b < 3 → e < 3 → b' < 3 → w < 3 → S.fl a b = some f → S.ses e b' w = some r → ¬ f 0 = r.1 0)
/-- a packet that may be sent -/
def okPk (p : Row) : Prop := okInn (p 0) ∧ (0 ≤ (p 1).toInt ∧ (p 1).toInt ≤ 10000) ∧ (0 ≤ (p 2).toInt ∧ (p 2).toInt ≤ 10000)
/-- the plain bounds, with d turns to go -/
def G3 (d : Nat) (S : Sx) : Prop := okT S ∧ (0 < (HNUM S).toInt ∧ (HNUM S).toInt + d ≤ 600) ∧ S.ou.length + d ≤ 512 ∧ (∀ i j, i < 3 → j < 3 → S.ef 0 i = S.ef 0 j → i = j) ∧ (∀ e, e < 3 → S.ef 1 e = 0 ∨ S.ef 1 e = 1) ∧
  (∀ e, e < 3 → ∀ r ∈ S.rt e, okRw r ∧ isE (r 2) ∧ ¬ r 2 = nI e) ∧ (∀ a b, a < 3 → b < 3 → (S.wt a b).length ≤ 4 ∧ ∀ p ∈ S.wt a b, okPk p) ∧ ∀ a b, a < 3 → b < 3 → -1 ≤ (S.lf 2 a b).toInt ∧ (S.lf 2 a b).toInt + d ≤ 2000000600
def okI (d : Nat) (S : Sx) : Prop := ∃ (H : GhH) (R : GhR), G1 H R S ∧ G2 H R S ∧ G3 d S ∧ ∀ g ∈ S.nt, Lgh H R g
end
