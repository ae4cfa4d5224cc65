section
/-! THE MODEL'S PICTURE. Places Q: 0 the object, 1 .. 20 what its fields 292 .. 311 hold, 21 + 3 t + a the row a of table t (field 298 + t), 51 + e the routes, 54 + 9 i ..: packets, sessions, took -/
def KMm (j : Nat) : Nat := if j = 0 then 10 else if j < 5 then 11 else if j = 5 then 12 else if j = 6 then 18 else if j < 17 then 17 else if j < 19 then 19 else if j = 19 then 22 else if j = 20 then 17 else if j < 51 then 11 else if j < 54 then 17 else if j < 60 then 18 else if j < 63 then 21 else if j < 81 then 17 else 20
def KM (j : Nat) : Nat := KMm j + 32 * (100 + j)
def LN (j : Nat) : Nat := if j < 4 then 3 else if j = 4 then 11 else if j < 20 then 3 else if j = 20 then 60 else if j < 51 then 3 else if j < 54 then 8 else if j < 63 then 3 else if j < 72 then 4 else 3
theorem KMm_lt (j : Nat) : 10 ≤ KMm j ∧ KMm j < 23 := by unfold KMm; split; omega; split; omega; split; omega; split; omega; split; omega; split; omega; split; omega; split; omega; split; omega; split; omega; split; omega; split; omega; split <;> omega
theorem KM_div (j : Nat) : KM j / 32 = 100 + j := by have := KMm_lt j; unfold KM; omega
theorem KM_mod (j : Nat) : KM j % 32 = KMm j := by have := KMm_lt j; unfold KM; omega
theorem KM_inj {i j : Nat} (h : KM i = KM j) : i = j := by have h1 := KM_div i; have h2 := KM_div j; rw [h] at h1; omega
theorem KM_nz (j : Nat) : KM j ≠ 0 := fun h => by have h1 := KM_div j; rw [h] at h1; omega
theorem KM_hi {j k : Nat} (hj : j < 90) (hk : 190 ≤ k / 32) : KM j ≠ k := fun h => by have h1 := KM_div j; rw [h] at h1; omega
abbrev KTMP : Nat := 11 + 32 * 100
abbrev KLR : Nat := 11 + 32 * 260
abbrev KIM : Nat := 11 + 32 * 261
abbrev KOA : Nat := 17 + 32 * 262
abbrev KSE (a b w : Nat) : Nat := 11 + 32 * (200 + 9 * a + 3 * b + w)
abbrev KTK (a b w : Nat) : Nat := 12 + 32 * (230 + 9 * a + 3 * b + w)
theorem KM_tmp (j : Nat) : KM j ≠ KTMP := fun h => by
  have h1 := KM_div j
  rw [h] at h1
  have h9 : (11 + 32 * 100) / 32 = 100 + j := h1
  have h0 : j = 0 := by omega
  subst h0
  exact absurd h (by decide)
theorem KM_11 {j : Nat} (h : (1 ≤ j ∧ j < 5) ∨ (21 ≤ j ∧ j < 51)) : KM j % 32 = 11 := by
  rw [KM_mod]
  unfold KMm
  rcases h with h | h
  · rw [if_neg (by omega), if_pos (by omega)]
  · rw [if_neg (by omega), if_neg (by omega), if_neg (by omega), if_neg (by omega), if_neg (by omega), if_neg (by omega), if_neg (by omega), if_neg (by omega), if_pos (by omega)]
theorem KM_ar {j : Nat} (h : (6 ≤ j ∧ j < 21) ∨ 51 ≤ j) : 13 < KM j % 32 ∧ KM j % 32 < 23 := by
  rw [KM_mod]
  refine ⟨?_, (KMm_lt j).2⟩
  unfold KMm
  rw [if_neg (by omega), if_neg (by omega), if_neg (by omega)]
  split; omega; split; omega; split; omega; split; omega; split; omega; split; omega; split; omega; split; omega; split; omega; split <;> omega
theorem KM_17 {j : Nat} (h : (7 ≤ j ∧ j < 17) ∨ j = 20 ∨ (51 ≤ j ∧ j < 54) ∨ (63 ≤ j ∧ j < 81)) : KM j % 32 = 17 := by
  rw [KM_mod]
  unfold KMm
  rw [if_neg (by omega), if_neg (by omega), if_neg (by omega), if_neg (by omega)]
  rcases h with h | h | h | h
  · rw [if_pos (by omega)]
  · rw [if_neg (by omega), if_neg (by omega), if_neg (by omega), if_pos (by omega)]
  · rw [if_neg (by omega), if_neg (by omega), if_neg (by omega), if_neg (by omega), if_neg (by omega), if_pos (by omega)]
  · rw [if_neg (by omega), if_neg (by omega), if_neg (by omega), if_neg (by omega), if_neg (by omega), if_neg (by omega), if_neg (by omega), if_neg (by omega), if_pos (by omega)]
theorem KM_20 {j : Nat} (h : 81 ≤ j) : KM j % 32 = 20 := by
  rw [KM_mod]
  unfold KMm
  rw [if_neg (by omega), if_neg (by omega), if_neg (by omega), if_neg (by omega), if_neg (by omega), if_neg (by omega), if_neg (by omega), if_neg (by omega), if_neg (by omega), if_neg (by omega), if_neg (by omega), if_neg (by omega), if_neg (by omega)]
theorem LN_3 {j : Nat} (h : j < 4 ∨ (5 ≤ j ∧ j < 20) ∨ (21 ≤ j ∧ j < 51) ∨ (54 ≤ j ∧ j < 63) ∨ 72 ≤ j) : LN j = 3 := by
  unfold LN
  rcases h with h | h | h | h | h
  · rw [if_pos (by omega)]
  · rw [if_neg (by omega), if_neg (by omega), if_pos (by omega)]
  · rw [if_neg (by omega), if_neg (by omega), if_neg (by omega), if_neg (by omega), if_pos (by omega)]
  · rw [if_neg (by omega), if_neg (by omega), if_neg (by omega), if_neg (by omega), if_neg (by omega), if_neg (by omega), if_pos (by omega)]
  · rw [if_neg (by omega), if_neg (by omega), if_neg (by omega), if_neg (by omega), if_neg (by omega), if_neg (by omega), if_neg (by omega), if_neg (by omega)]
theorem LN_8 {j : Nat} (h : 51 ≤ j ∧ j < 54) : LN j = 8 := by unfold LN; rw [if_neg (by omega), if_neg (by omega), if_neg (by omega), if_neg (by omega), if_neg (by omega), if_pos (by omega)]
theorem LN_4 {j : Nat} (h : 63 ≤ j ∧ j < 72) : LN j = 4 := by unfold LN; rw [if_neg (by omega), if_neg (by omega), if_neg (by omega), if_neg (by omega), if_neg (by omega), if_neg (by omega), if_neg (by omega), if_pos (by omega)]
/-- what belongs to the model's side -/
def isMk (k : Nat) : Prop := 100 ≤ k / 32 ∧ k / 32 < 900
def usK (k : Nat) : Prop := (101 ≤ k / 32 ∧ k / 32 < 900) ∨ k = KM 0
theorem isMk_KM {j : Nat} (h : j < 90) : isMk (KM j) := by unfold isMk; rw [KM_div]; omega
theorem usK_KM {j : Nat} (h : j < 90) : usK (KM j) := by
  by_cases c : j = 0
  · subst c
    exact Or.inr rfl
  · exact Or.inl (by rw [KM_div]; omega)
theorem usK_mk {k : Nat} (h : usK k) : isMk k := h.elim (fun z => ⟨by omega, z.2⟩) (fun z => by rw [z]; exact isMk_KM (by decide))
theorem usK_tmp {k : Nat} (h : usK k) : k ≠ KTMP := fun e => by
  rcases h with h | h
  · rw [e] at h; exact absurd h (by decide)
  · exact KM_tmp 0 (by rw [← h, e])
theorem usK_of {k : Nat} (h : 101 ≤ k / 32 ∧ k / 32 < 900) : usK k := Or.inl h
theorem isMk_nz {k : Nat} (h : isMk k) : k ≠ 0 := fun e => by rw [e] at h; exact absurd h.1 (by decide)
/-- a row of numbers -/
def RowAt (μ : Mem) (k p n : Nat) (r : Row) : Prop := μ.kd p = k ∧ μ.ln p = n ∧ ∀ j, j < n → μ.ei p j = r j
/-- lengths (letters, routes, outs, waits), bits of what was taken, slots whose session or bits are on their way, what was thrown -/
abbrev LX : Type := Nat × (Nat → Nat) × (Nat → Nat) × (Nat → Nat → Nat) × (Nat → Nat → Nat → Int64) × (Nat → Nat → Nat → Prop) × (Nat → Nat → Nat → Prop) × Int32
def LX.n (l : LX) : Nat := l.1
def LX.rl (l : LX) : Nat → Nat := l.2.1
def LX.ol (l : LX) : Nat → Nat := l.2.2.1
def LX.wl (l : LX) : Nat → Nat → Nat := l.2.2.2.1
def LX.tk (l : LX) : Nat → Nat → Nat → Int64 := l.2.2.2.2.1
def LX.hs (l : LX) : Nat → Nat → Nat → Prop := l.2.2.2.2.2.1
def LX.ht (l : LX) : Nat → Nat → Nat → Prop := l.2.2.2.2.2.2.1
def LX.th (l : LX) : Int32 := l.2.2.2.2.2.2.2
def LX.sN (l : LX) (n : Nat) : LX := (n, l.rl, l.ol, l.wl, l.tk, l.hs, l.ht, l.th)
def LX.sRl (l : LX) (e n : Nat) : LX := (l.n, u1 l.rl e n, l.ol, l.wl, l.tk, l.hs, l.ht, l.th)
def LX.sOl (l : LX) (e n : Nat) : LX := (l.n, l.rl, u1 l.ol e n, l.wl, l.tk, l.hs, l.ht, l.th)
def LX.sWl (l : LX) (a b n : Nat) : LX := (l.n, l.rl, l.ol, w2 l.wl a b n, l.tk, l.hs, l.ht, l.th)
def LX.sTk (l : LX) (a b w : Nat) (v : Int64) : LX := (l.n, l.rl, l.ol, l.wl, w3 l.tk a b w v, l.hs, l.ht, l.th)
def LX.sHs (l : LX) (a b w : Nat) (v : Prop) : LX := (l.n, l.rl, l.ol, l.wl, l.tk, w3 l.hs a b w v, l.ht, l.th)
def LX.sTh (l : LX) (v : Int32) : LX := (l.n, l.rl, l.ol, l.wl, l.tk, l.hs, l.ht, v)
def LX.sHt (l : LX) (a b w : Nat) (v : Prop) : LX := (l.n, l.rl, l.ol, l.wl, l.tk, l.hs, w3 l.ht a b w v, l.th)
def TKo (o : Option Ses) : Int64 := match o with
  | none => 0
  | some r => r.2
def LXo (S : Sx) (t : Int32) : LX := (S.nt.length, fun e => (S.rt e).length, fun e => (OUT e S.ou).length, fun a b => (S.wt a b).length, fun a b w => TKo (S.ses a b w), fun _ _ _ => False, fun _ _ _ => False, t)
def BITn (m : Int64) (c : Nat) : Int32 := if (m.toUInt64 >>> ((nI c).toInt64.toUInt64 &&& Int64.toUInt64 63)).toInt64 &&& 1 = 1 then 1 else 0
def tv (t : Nat) (lf : Nat → Nat → Nat → Int32) (fl : Nat → Nat → Option Row) (wl : Nat → Nat → Nat) (a b : Nat) (v : Int32) : Prop := match t with
  | 0 => v = lf 0 a b
  | 1 => v = lf 1 a b
  | 2 => v = lf 2 a b
  | 3 => v = match fl a b with
    | none => -1
    | some r => r 0
  | 4 => ∀ r, fl a b = some r → v = r 1
  | 5 => ∀ r, fl a b = some r → v = r 2
  | 6 => ∀ r, fl a b = some r → v = r 3
  | 7 => v = lf 3 a b
  | 8 => v = lf 4 a b
  | _ => v = nI (wl a b)
def mBase (Q : Nat → Nat) (μ : Mem) : Prop := (∀ j, j < 90 → μ.kd (Q j) = KM j) ∧ (∀ j, 0 < j → j < 90 → μ.ln (Q j) = LN j) ∧ (∀ i, 1 ≤ i → i < 21 → μ.fr (291 + i) (Q 0) = some (Q i)) ∧ (∀ t a, t < 10 → a < 3 → μ.er (Q (7 + t)) a = some (Q (21 + 3 * t + a))) ∧ (∀ e, e < 3 → μ.er (Q 6) e = some (Q (51 + e))) ∧ ∀ i a, i < 3 → a < 3 → μ.er (Q (17 + i)) a = some (Q (54 + 3 * i + a)) ∧ ∀ b, b < 3 → μ.er (Q (54 + 3 * i + a)) b = some (Q (63 + 9 * i + 3 * a + b))
def mT (Q : Nat → Nat) (μ : Mem) (sc : Nat → Int32) (n : Nat) (th : Int32) : Prop := μ.fi 288 (Q 0) = sc 0 ∧ μ.fi 289 (Q 0) = sc 1 + 1 ∧ μ.fi 291 (Q 0) = sc 2 ∧ μ.fi 312 (Q 0) = nI n ∧ μ.fi 290 (Q 0) = th
def m1 (Q : Nat → Nat) (μ : Mem) (ef : Nat → Nat → Int32) (cd : Nat → Int32) (rl ol : Nat → Nat) : Prop := (∀ e, e < 3 → μ.ei (Q 1) e = ef 0 e ∧ μ.ei (Q 2) e = nI (rl e) ∧ μ.ei (Q 3) e = nI (ol e) ∧ μ.ei (Q 5) e = ef 1 e) ∧ ∀ i, i < 11 → μ.ei (Q 4) i = cd i
def m2 (Q : Nat → Nat) (μ : Mem) (lf : Nat → Nat → Nat → Int32) (fl : Nat → Nat → Option Row) (wl : Nat → Nat → Nat) : Prop := ∀ t a b, t < 10 → a < 3 → b < 3 → tv t lf fl wl a b (μ.ei (Q (21 + 3 * t + a)) b)
def mR (Q : Nat → Nat) (μ : Mem) (rt : Nat → List Row) : Prop := ∀ e, e < 3 → (rt e).length ≤ 8 ∧ ∀ k r, (rt e)[k]? = some r → ∃ p, μ.er (Q (51 + e)) k = some p ∧ RowAt μ KIM p 3 r
def mP (Q : Nat → Nat) (μ : Mem) (wt : Nat → Nat → List Row) : Prop := ∀ a b, a < 3 → b < 3 → (wt a b).length ≤ 4 ∧ ∀ k r, (wt a b)[k]? = some r → ∃ p, μ.er (Q (63 + 3 * a + b)) k = some p ∧ RowAt μ KIM p 3 r
def sesM (f : Nat → Int32) (o : Option Ses) : Prop := match o with
  | none => f 0 = 0
  | some r => 0 < (r.1 0).toInt ∧ ∀ j, j < 9 → f j = r.1 j
def mS (Q : Nat → Nat) (μ : Mem) (ses : Nat → Nat → Nat → Option Ses) (hs : Nat → Nat → Nat → Prop) : Prop := ∀ a b w, a < 3 → b < 3 → w < 3 → ¬ hs a b w → ∃ s, μ.er (Q (72 + 3 * a + b)) w = some s ∧ μ.kd s = KSE a b w ∧ μ.ln s = 9 ∧ sesM (μ.ei s) (ses a b w)
def mB (Q : Nat → Nat) (μ : Mem) (tk : Nat → Nat → Nat → Int64) (ht : Nat → Nat → Nat → Prop) : Prop := ∀ a b w, a < 3 → b < 3 → w < 3 → ¬ ht a b w → ∃ s, μ.er (Q (81 + 3 * a + b)) w = some s ∧ μ.kd s = KTK a b w ∧ μ.ln s = 40 ∧ ∀ c, c < 40 → μ.ei s c = BITn (tk a b w) c
def mLt (Q : Nat → Nat) (μ : Mem) (nt : List Row) : Prop := nt.length ≤ 60 ∧ ∃ xs : List Nat, xs.Nodup ∧ (∀ i p, xs[i]? = some p → μ.er (Q 20) i = some p) ∧ LR (fun p r => RowAt μ KLR p 16 r) xs nt
def mO (Q : Nat → Nat) (μ : Mem) (ou : List Row) : Prop := ou.length ≤ 600 ∧ ∃ A, μ.fr 313 (Q 0) = some A ∧ μ.kd A = KOA ∧ μ.ln A = ou.length ∧ ∀ k r, ou[k]? = some r → ∃ p, μ.er A k = some p ∧ RowAt μ KIM p 5 r
def MRq (Q : Nat → Nat) (S : Sx) (l : LX) (μ : Mem) : Prop := mBase Q μ ∧ mT Q μ S.sc l.n l.th ∧ m1 Q μ S.ef S.cd l.rl l.ol ∧ m2 Q μ S.lf S.fl l.wl ∧ mR Q μ S.rt ∧ mP Q μ S.wt ∧ mS Q μ S.ses l.hs ∧ mB Q μ l.tk l.ht ∧ mLt Q μ S.nt ∧ mO Q μ S.ou
theorem RowAt.same {μ μ' : Mem} {k p n : Nat} {r : Row} (h : RowAt μ k p n r) (hs : SameAt μ μ' p) : RowAt μ' k p n r := ⟨by rw [hs.1]; exact h.1, by rw [hs.2.2.2.2.1]; exact h.2.1, fun j hj => by rw [hs.2.2.2.2.2.1]; exact h.2.2 j hj⟩
theorem MRq.same {Q : Nat → Nat} {S : Sx} {l : LX} {μ μ' : Mem} (h : MRq Q S l μ) (hs : ∀ q, usK (μ.kd q) → SameAt μ μ' q) : MRq Q S l μ' := by
  obtain ⟨⟨b1, b2, b3, b4, b5, b6⟩, h2, h3, h4, h5, h6, h7, h8, h9, h10⟩ := h
  have sQ : ∀ j, j < 90 → SameAt μ μ' (Q j) := fun j hj => hs _ (by rw [b1 j hj]; exact usK_KM hj)
  have s0 := sQ 0 (by decide)
  have im : ∀ p n r, RowAt μ KIM p n r → RowAt μ' KIM p n r := fun p n r hp => hp.same (hs p (by rw [hp.1]; exact usK_of (by decide)))
  refine ⟨⟨fun j hj => by rw [(sQ j hj).1]; exact b1 j hj, fun j h0 hj => by rw [(sQ j hj).2.2.2.2.1]; exact b2 j h0 hj, fun i h1 hi => by rw [s0.2.2.1]; exact b3 i h1 hi, fun t a ht ha => by rw [(sQ (7 + t) (by omega)).2.2.2.2.2.2.1]; exact b4 t a ht ha, fun e he => by rw [(sQ 6 (by omega)).2.2.2.2.2.2.1]; exact b5 e he, fun i a hi ha => ⟨by rw [(sQ (17 + i) (by omega)).2.2.2.2.2.2.1]; exact (b6 i a hi ha).1, fun b hb => by rw [(sQ (54 + 3 * i + a) (by omega)).2.2.2.2.2.2.1]; exact (b6 i a hi ha).2 b hb⟩⟩, ?_, ?_, ?_, ?_, ?_, ?_, ?_, ?_, ?_⟩
  · obtain ⟨t1, t2, t3, t4, t5⟩ := h2
    exact ⟨by rw [s0.2.1]; exact t1, by rw [s0.2.1]; exact t2, by rw [s0.2.1]; exact t3, by rw [s0.2.1]; exact t4, by rw [s0.2.1]; exact t5⟩
  · refine ⟨fun e he => ?_, fun i hi => by rw [(sQ 4 (by decide)).2.2.2.2.2.1]; exact h3.2 i hi⟩
    rw [(sQ 1 (by decide)).2.2.2.2.2.1, (sQ 2 (by decide)).2.2.2.2.2.1, (sQ 3 (by decide)).2.2.2.2.2.1, (sQ 5 (by decide)).2.2.2.2.2.1]
    exact h3.1 e he
  · exact fun t a b ht ha hb => by rw [(sQ (21 + 3 * t + a) (by omega)).2.2.2.2.2.1]; exact h4 t a b ht ha hb
  · exact fun e he => ⟨(h5 e he).1, fun k r hk => by
      obtain ⟨p, p1, p2⟩ := (h5 e he).2 k r hk
      exact ⟨p, by rw [(sQ (51 + e) (by omega)).2.2.2.2.2.2.1]; exact p1, im _ _ _ p2⟩⟩
  · exact fun a b ha hb => ⟨(h6 a b ha hb).1, fun k r hk => by
      obtain ⟨p, p1, p2⟩ := (h6 a b ha hb).2 k r hk
      exact ⟨p, by rw [(sQ (63 + 3 * a + b) (by omega)).2.2.2.2.2.2.1]; exact p1, im _ _ _ p2⟩⟩
  · exact fun a b w ha hb hw hh => by
      obtain ⟨s, s1, s2, s3, s4⟩ := h7 a b w ha hb hw hh
      have z := hs s (by rw [s2]; exact usK_of (by unfold KSE; omega))
      exact ⟨s, by rw [(sQ (72 + 3 * a + b) (by omega)).2.2.2.2.2.2.1]; exact s1, by rw [z.1]; exact s2, by rw [z.2.2.2.2.1]; exact s3, by rw [z.2.2.2.2.2.1]; exact s4⟩
  · exact fun a b w ha hb hw hh => by
      obtain ⟨s, s1, s2, s3, s4⟩ := h8 a b w ha hb hw hh
      have z := hs s (by rw [s2]; exact usK_of (by unfold KTK; omega))
      exact ⟨s, by rw [(sQ (81 + 3 * a + b) (by omega)).2.2.2.2.2.2.1]; exact s1, by rw [z.1]; exact s2, by rw [z.2.2.2.2.1]; exact s3, by rw [z.2.2.2.2.2.1]; exact s4⟩
  · obtain ⟨h60, xs, x1, x2, x3⟩ := h9
    exact ⟨h60, xs, x1, fun i p hi => by rw [(sQ 20 (by decide)).2.2.2.2.2.2.1]; exact x2 i p hi, x3.imp fun p _ r hp => hp.same (hs p (by rw [hp.1]; exact usK_of (by decide)))⟩
  · obtain ⟨h60, A, a1, a2, a3, a4⟩ := h10
    have z := hs A (by rw [a2]; exact usK_of (by decide))
    refine ⟨h60, A, by rw [s0.2.2.1]; exact a1, by rw [z.1]; exact a2, by rw [z.2.2.2.2.1]; exact a3, fun k r hk => ?_⟩
    obtain ⟨p, p1, p2⟩ := a4 k r hk
    exact ⟨p, by rw [z.2.2.2.2.2.2.1]; exact p1, im _ _ _ p2⟩
section
variable {Q : Nat → Nat} {S : Sx} {l : LX} {μ : Mem}
theorem MRq.kd (h : MRq Q S l μ) {j : Nat} (hj : j < 90) : μ.kd (Q j) = KM j := h.1.1 j hj
theorem MRq.kX (h : MRq Q S l μ) : μ.kd (Q 0) % 32 = 10 := by rw [h.kd (by decide)]; rfl
theorem MRq.k11 (h : MRq Q S l μ) {j : Nat} (hj : (1 ≤ j ∧ j < 5) ∨ (21 ≤ j ∧ j < 51)) : μ.kd (Q j) % 32 = 11 := by rw [h.kd (by omega)]; exact KM_11 hj
theorem MRq.k12 (h : MRq Q S l μ) : μ.kd (Q 5) % 32 = 12 := by rw [h.kd (by decide)]; rfl
theorem MRq.kr (h : MRq Q S l μ) {j : Nat} (hj : (6 ≤ j ∧ j < 21) ∨ (51 ≤ j ∧ j < 90)) : 13 < μ.kd (Q j) % 32 ∧ μ.kd (Q j) % 32 < 23 := by rw [h.kd (by omega)]; exact KM_ar (by omega)
theorem MRq.k17 (h : MRq Q S l μ) {j : Nat} (hj : (7 ≤ j ∧ j < 17) ∨ j = 20 ∨ (51 ≤ j ∧ j < 54) ∨ (63 ≤ j ∧ j < 81)) : μ.kd (Q j) % 32 = 17 := by rw [h.kd (by omega)]; exact KM_17 hj
theorem MRq.k20 (h : MRq Q S l μ) {j : Nat} (hj : 81 ≤ j ∧ j < 90) : μ.kd (Q j) % 32 = 20 := by rw [h.kd (by omega)]; exact KM_20 hj.1
theorem MRq.ln3 (h : MRq Q S l μ) {j : Nat} (hj : (1 ≤ j ∧ j < 4) ∨ (5 ≤ j ∧ j < 20) ∨ (21 ≤ j ∧ j < 51) ∨ (54 ≤ j ∧ j < 63) ∨ (72 ≤ j ∧ j < 90)) : μ.ln (Q j) = 3 := (h.1.2.1 j (by omega) (by omega)).trans (LN_3 (by omega))
theorem MRq.ln8 (h : MRq Q S l μ) {j : Nat} (hj : 51 ≤ j ∧ j < 54) : μ.ln (Q j) = 8 := (h.1.2.1 j (by omega) (by omega)).trans (LN_8 hj)
theorem MRq.ln4 (h : MRq Q S l μ) {j : Nat} (hj : 63 ≤ j ∧ j < 72) : μ.ln (Q j) = 4 := (h.1.2.1 j (by omega) (by omega)).trans (LN_4 hj)
theorem MRq.ln11 (h : MRq Q S l μ) : μ.ln (Q 4) = 11 := (h.1.2.1 4 (by omega) (by omega)).trans rfl
theorem MRq.ln60 (h : MRq Q S l μ) : μ.ln (Q 20) = 60 := (h.1.2.1 20 (by omega) (by omega)).trans rfl
theorem MRq.fA (h : MRq Q S l μ) {i : Nat} (hi : 1 ≤ i ∧ i < 21) : μ.fr (291 + i) (Q 0) = some (Q i) := h.1.2.2.1 i hi.1 hi.2
theorem MRq.tb (h : MRq Q S l μ) {t a : Nat} (ht : t < 10) (ha : a < 3) : μ.er (Q (7 + t)) a = some (Q (21 + 3 * t + a)) := h.1.2.2.2.1 t a ht ha
theorem MRq.ro (h : MRq Q S l μ) {e : Nat} (he : e < 3) : μ.er (Q 6) e = some (Q (51 + e)) := h.1.2.2.2.2.1 e he
theorem MRq.d1 (h : MRq Q S l μ) {i a : Nat} (hi : i < 3) (ha : a < 3) : μ.er (Q (17 + i)) a = some (Q (54 + 3 * i + a)) := (h.1.2.2.2.2.2 i a hi ha).1
theorem MRq.d2 (h : MRq Q S l μ) {i a b : Nat} (hi : i < 3) (ha : a < 3) (hb : b < 3) : μ.er (Q (54 + 3 * i + a)) b = some (Q (63 + 9 * i + 3 * a + b)) := (h.1.2.2.2.2.2 i a hi ha).2 b hb
theorem MRq.f288 (h : MRq Q S l μ) : μ.fi 288 (Q 0) = S.sc 0 := h.2.1.1
theorem MRq.f289 (h : MRq Q S l μ) : μ.fi 289 (Q 0) = S.sc 1 + 1 := h.2.1.2.1
theorem MRq.f291 (h : MRq Q S l μ) : μ.fi 291 (Q 0) = S.sc 2 := h.2.1.2.2.1
theorem MRq.f312 (h : MRq Q S l μ) : μ.fi 312 (Q 0) = nI l.n := h.2.1.2.2.2.1
theorem MRq.f290 (h : MRq Q S l μ) : μ.fi 290 (Q 0) = l.th := h.2.1.2.2.2.2
theorem MRq.a1 (h : MRq Q S l μ) {e : Nat} (he : e < 3) : μ.ei (Q 1) e = S.ef 0 e := (h.2.2.1.1 e he).1
theorem MRq.a2 (h : MRq Q S l μ) {e : Nat} (he : e < 3) : μ.ei (Q 2) e = nI (l.rl e) := (h.2.2.1.1 e he).2.1
theorem MRq.a3 (h : MRq Q S l μ) {e : Nat} (he : e < 3) : μ.ei (Q 3) e = nI (l.ol e) := (h.2.2.1.1 e he).2.2.1
theorem MRq.a5 (h : MRq Q S l μ) {e : Nat} (he : e < 3) : μ.ei (Q 5) e = S.ef 1 e := (h.2.2.1.1 e he).2.2.2
theorem MRq.a4 (h : MRq Q S l μ) {i : Nat} (hi : i < 11) : μ.ei (Q 4) i = S.cd i := h.2.2.1.2 i hi
theorem MRq.t0 (h : MRq Q S l μ) {a b : Nat} (ha : a < 3) (hb : b < 3) : μ.ei (Q (21 + 3 * 0 + a)) b = S.lf 0 a b := h.2.2.2.1 0 a b (by decide) ha hb
theorem MRq.t1 (h : MRq Q S l μ) {a b : Nat} (ha : a < 3) (hb : b < 3) : μ.ei (Q (21 + 3 * 1 + a)) b = S.lf 1 a b := h.2.2.2.1 1 a b (by decide) ha hb
theorem MRq.t2 (h : MRq Q S l μ) {a b : Nat} (ha : a < 3) (hb : b < 3) : μ.ei (Q (21 + 3 * 2 + a)) b = S.lf 2 a b := h.2.2.2.1 2 a b (by decide) ha hb
theorem MRq.t3 (h : MRq Q S l μ) {a b : Nat} (ha : a < 3) (hb : b < 3) : μ.ei (Q (21 + 3 * 3 + a)) b = FLX S a b := h.2.2.2.1 3 a b (by decide) ha hb
theorem MRq.t4 (h : MRq Q S l μ) {a b : Nat} (ha : a < 3) (hb : b < 3) {r : Row} (hr : S.fl a b = some r) : μ.ei (Q (21 + 3 * 4 + a)) b = r 1 := h.2.2.2.1 4 a b (by decide) ha hb r hr
theorem MRq.t5 (h : MRq Q S l μ) {a b : Nat} (ha : a < 3) (hb : b < 3) {r : Row} (hr : S.fl a b = some r) : μ.ei (Q (21 + 3 * 5 + a)) b = r 2 := h.2.2.2.1 5 a b (by decide) ha hb r hr
theorem MRq.t6 (h : MRq Q S l μ) {a b : Nat} (ha : a < 3) (hb : b < 3) {r : Row} (hr : S.fl a b = some r) : μ.ei (Q (21 + 3 * 6 + a)) b = r 3 := h.2.2.2.1 6 a b (by decide) ha hb r hr
theorem MRq.t7 (h : MRq Q S l μ) {a b : Nat} (ha : a < 3) (hb : b < 3) : μ.ei (Q (21 + 3 * 7 + a)) b = S.lf 3 a b := h.2.2.2.1 7 a b (by decide) ha hb
theorem MRq.t8 (h : MRq Q S l μ) {a b : Nat} (ha : a < 3) (hb : b < 3) : μ.ei (Q (21 + 3 * 8 + a)) b = S.lf 4 a b := h.2.2.2.1 8 a b (by decide) ha hb
theorem MRq.t9 (h : MRq Q S l μ) {a b : Nat} (ha : a < 3) (hb : b < 3) : μ.ei (Q (21 + 3 * 9 + a)) b = nI (l.wl a b) := h.2.2.2.1 9 a b (by decide) ha hb
theorem MRq.rt (h : MRq Q S l μ) {e : Nat} (he : e < 3) : (S.rt e).length ≤ 8 ∧ ∀ k r, (S.rt e)[k]? = some r → ∃ p, μ.er (Q (51 + e)) k = some p ∧ RowAt μ KIM p 3 r := h.2.2.2.2.1 e he
theorem MRq.wt (h : MRq Q S l μ) {a b : Nat} (ha : a < 3) (hb : b < 3) : (S.wt a b).length ≤ 4 ∧ ∀ k r, (S.wt a b)[k]? = some r → ∃ p, μ.er (Q (63 + 3 * a + b)) k = some p ∧ RowAt μ KIM p 3 r := h.2.2.2.2.2.1 a b ha hb
theorem MRq.se (h : MRq Q S l μ) {a b w : Nat} (ha : a < 3) (hb : b < 3) (hw : w < 3) (hh : ¬ l.hs a b w) : ∃ s, μ.er (Q (72 + 3 * a + b)) w = some s ∧ μ.kd s = KSE a b w ∧ μ.ln s = 9 ∧ sesM (μ.ei s) (S.ses a b w) := h.2.2.2.2.2.2.1 a b w ha hb hw hh
theorem MRq.tk (h : MRq Q S l μ) {a b w : Nat} (ha : a < 3) (hb : b < 3) (hw : w < 3) (hh : ¬ l.ht a b w) : ∃ s, μ.er (Q (81 + 3 * a + b)) w = some s ∧ μ.kd s = KTK a b w ∧ μ.ln s = 40 ∧ ∀ c, c < 40 → μ.ei s c = BITn (l.tk a b w) c := h.2.2.2.2.2.2.2.1 a b w ha hb hw hh
theorem MRq.nt (h : MRq Q S l μ) : mLt Q μ S.nt := h.2.2.2.2.2.2.2.2.1
theorem MRq.ou (h : MRq Q S l μ) : mO Q μ S.ou := h.2.2.2.2.2.2.2.2.2
theorem KSE_m (a b w : Nat) : KSE a b w % 32 = 11 := by unfold KSE; omega
theorem KTK_m (a b w : Nat) : KTK a b w % 32 = 12 := by unfold KTK; omega
/-- an element at a number -/
theorem atI {α : Type} {f : Nat → α} {i : Nat} {x : Int32} {v : α} (e : x.toNatClampNeg = i) (h : f i = v) : f x.toNatClampNeg = v := by rw [e]; exact h
theorem inb {n m : Nat} {x : Int32} (e : m = n) (h : vp_in x n) : vp_in x m := by rw [e]; exact h
end
/-- what is there stays; what is new is of passage -/
def Nw (μ μ' : Mem) : Prop := ∀ q, (μ.kd q ≠ 0 → SameAt μ μ' q) ∧ (μ.kd q = 0 → μ'.kd q = 0 ∨ μ'.kd q = KTMP)
theorem Nw.rf {μ : Mem} : Nw μ μ := fun q => ⟨fun _ => SameAt.rf, fun h => Or.inl h⟩
theorem Nw.at {μ m m' : Mem} {a : Nat} (h : Nw μ m) (h0 : μ.kd a = 0) (hs : ∀ z, z ≠ a → SameAt m m' z) (hk : m'.kd a = KTMP) : Nw μ m' := fun q => by
  by_cases e : q = a
  · subst e
    exact ⟨fun h9 => absurd h0 h9, fun _ => Or.inr hk⟩
  · exact ⟨fun h9 => ((h q).1 h9).tr (hs q e), fun h9 => by rw [(hs q e).1]; exact (h q).2 h9⟩
theorem Nw.same {Q : Nat → Nat} {S : Sx} {l : LX} {μ μ' : Mem} (h : MRq Q S l μ) (hn : Nw μ μ') : MRq Q S l μ' := h.same fun q hq => (hn q).1 (isMk_nz (usK_mk hq))
/-- an array that is being filled -/
def NL (μ : Mem) (q n : Nat) (vs : List Int32) : Prop := μ.kd q = KTMP ∧ μ.ln q = n ∧ ∀ i (hi : i < vs.length), μ.ei q i = vs[i]
theorem NL.new {μ m : Mem} {q n : Nat} (e : m = μ.newA q KTMP n) : NL m q n [] := ⟨by rw [e]; exact kd_newA, by rw [e]; exact ln_newA, fun i hi => absurd hi (Nat.not_lt_zero _)⟩
theorem NL.k {μ : Mem} {q n : Nat} {vs : List Int32} (h : NL μ q n vs) : μ.kd q % 32 = 11 := by rw [h.1]; decide
theorem NL.push {μ m : Mem} {q n i : Nat} {vs : List Int32} {v : Int32} (h : NL μ q n vs) (e : m = μ.sei q i v) (hi : i = vs.length) : NL m q n (vs ++ [v]) := by
  subst hi
  refine ⟨by rw [e]; exact h.1, by rw [e]; exact h.2.1, fun j hj => ?_⟩
  rw [e]
  show u2 μ.ei q vs.length v q j = _
  unfold u2
  rw [if_pos rfl]
  by_cases c : j = vs.length
  · rw [if_pos c]
    subst c
    rw [List.getElem_append_right (Nat.le_refl _)]
    simp
  · rw [if_neg c]
    rw [List.length_append] at hj
    have h1 : ([v] : List Int32).length = 1 := rfl
    rw [List.getElem_append_left (by omega)]
    exact h.2.2 j (by omega)
theorem NL.sm {μ m : Mem} {q n : Nat} {vs : List Int32} (h : NL μ q n vs) (hs : SameAt μ m q) : NL m q n vs := ⟨by rw [hs.1]; exact h.1, by rw [hs.2.2.2.2.1]; exact h.2.1, fun j hj => by rw [hs.2.2.2.2.2.1]; exact h.2.2 j hj⟩
theorem NL.ne {μ : Mem} {p q n : Nat} {vs : List Int32} (h : NL μ p n vs) (hq : μ.kd q = 0) : p ≠ q := fun e => by rw [← e, h.1] at hq; exact absurd hq (by decide)
theorem NL.newA {μ m : Mem} {p q n k N : Nat} {vs : List Int32} (h : NL μ p n vs) (hq : μ.kd q = 0) (e : m = μ.newA q k N) : NL m p n vs := h.sm (by rw [e]; exact same_newA (h.ne hq))
theorem NL.sei {μ m : Mem} {p q n i : Nat} {vs : List Int32} {v : Int32} (h : NL μ p n vs) (hq : p ≠ q) (e : m = μ.sei q i v) : NL m p n vs := h.sm (by rw [e]; exact same_sei hq)
theorem NL.nw {μ m : Mem} {q n : Nat} {vs : List Int32} (h : NL μ q n vs) (hn : Nw μ m) : NL m q n vs := h.sm ((hn q).1 (by rw [h.1]; decide))
/-- a step of the model: the picture, what belongs to others stays, what isn't of W stays -/
def MTo (Q : Nat → Nat) (W : Nat → Prop) (μ0 : Mem) (S : Sx) (l : LX) (μ : Mem) : Prop := MRq Q S l μ ∧ FrS isMk μ0 μ ∧ ∀ q, μ0.kd q ≠ 0 → ¬ W (μ0.kd q) → SameAt μ0 μ q
theorem MTo.rf {Q : Nat → Nat} {W : Nat → Prop} {S : Sx} {l : LX} {μ : Mem} (h : MRq Q S l μ) : MTo Q W μ S l μ := ⟨h, FrS.rf, fun _ _ _ => SameAt.rf⟩
theorem MTo.tr {Q : Nat → Nat} {W W' : Nat → Prop} {S S' : Sx} {l l' : LX} {μ1 μ2 μ3 : Mem} (h : MTo Q W μ1 S l μ2) (g : MTo Q W' μ2 S' l' μ3) (hw : ∀ k, W' k → W k) : MTo Q W μ1 S' l' μ3 := ⟨g.1, h.2.1.tr g.2.1, fun q h0 h1 => by
  have s := h.2.2 q h0 h1
  exact s.tr (g.2.2 q (by rw [s.1]; exact h0) (fun z => h1 (by rw [← s.1]; exact hw _ z)))⟩
theorem FrS.step {W : Nat → Prop} {μ0 μ m : Mem} {a : Nat} (h : FrS W μ0 μ) (hs : ∀ z, z ≠ a → SameAt μ m z) (hk : μ.kd a = 0 ∨ W (μ.kd a)) (hm : W (m.kd a)) : FrS W μ0 m := h.tr fun q => by
  by_cases e : q = a
  · subst e
    exact ⟨fun h0 h1 => absurd hk (fun z => z.elim h0 h1), fun _ => Or.inr hm⟩
  · exact ⟨fun _ _ => hs q e, fun z => by rw [(hs q e).1]; exact z⟩
theorem MTo.step {Q : Nat → Nat} {W : Nat → Prop} {S S' : Sx} {l l' : LX} {μ0 μ m : Mem} {a : Nat} (h : MTo Q W μ0 S l μ) (hs : ∀ z, z ≠ a → SameAt μ m z) (ha : μ0.kd a = 0 ∨ W (μ0.kd a)) (hk : μ.kd a = 0 ∨ isMk (μ.kd a)) (hm : isMk (m.kd a)) (hM : MRq Q S' l' m) : MTo Q W μ0 S' l' m := ⟨hM, h.2.1.step hs hk hm, fun q h0 h1 => (h.2.2 q h0 h1).tr (hs q (fun e => by
  subst e
  exact ha.elim h0 h1))⟩
theorem MTo.fresh {Q : Nat → Nat} {W : Nat → Prop} {S : Sx} {l : LX} {μ0 μ : Mem} {a : Nat} (h : MTo Q W μ0 S l μ) (h0 : μ.kd a = 0) : μ0.kd a = 0 ∨ W (μ0.kd a) := by
  by_cases c : μ0.kd a = 0
  · exact Or.inl c
  · exact Or.inr (Classical.byContradiction fun z => c (by rw [← (h.2.2 a c z).1]; exact h0))
theorem MTo.nw {Q : Nat → Nat} {W : Nat → Prop} {S : Sx} {l : LX} {μ0 μ m : Mem} (h : MTo Q W μ0 S l μ) (hn : Nw μ m) : MTo Q W μ0 S l m := ⟨Nw.same h.1 hn, h.2.1.tr fun q => ⟨fun h0 _ => (hn q).1 h0, fun z => by
  by_cases c : μ.kd q = 0
  · exact ((hn q).2 c).imp id (fun e => by rw [e]; unfold isMk; decide)
  · rw [((hn q).1 c).1]; exact z⟩, fun q h0 h1 => by
  have s := h.2.2 q h0 h1
  exact s.tr ((hn q).1 (by rw [s.1]; exact h0))⟩
theorem MTo.newT {Q : Nat → Nat} {W : Nat → Prop} {S : Sx} {l : LX} {μ0 μ m : Mem} {q n : Nat} (h : MTo Q W μ0 S l μ) (hq : μ.kd q = 0) (e : m = μ.newA q KTMP n) : MTo Q W μ0 S l m := h.nw (Nw.rf.at hq (fun z hz => by rw [e]; exact same_newA hz) (by rw [e]; exact kd_newA))
theorem MTo.tmp {Q : Nat → Nat} {W : Nat → Prop} {S : Sx} {l : LX} {μ0 μ m : Mem} {q n i : Nat} {vs : List Int32} {v : Int32} (h : MTo Q W μ0 S l μ) (hl : NL μ q n vs) (h0 : μ0.kd q = 0 ∨ W (μ0.kd q)) (e : m = μ.sei q i v) : MTo Q W μ0 S l m := h.step (a := q) (fun z hz => by rw [e]; exact same_sei hz) h0 (Or.inr (by rw [hl.1]; unfold isMk; decide)) (by rw [e]; show isMk (μ.kd q); rw [hl.1]; unfold isMk; decide) (h.1.same fun z hz => by
  rw [e]
  exact same_sei (fun e9 => by rw [e9, hl.1] at hz; exact usK_tmp hz rfl))
/-- the other side's calls -/
theorem MRq.other {Q : Nat → Nat} {S : Sx} {l : LX} {μ μ' : Mem} (h : MRq Q S l μ) (hf : FrS isC μ μ') : MRq Q S l μ' := h.same fun q hq => (hf q).1 (isMk_nz (usK_mk hq)) (fun c => c.2.elim (fun z => by have := (usK_mk hq).1; omega) (fun z => by have := (usK_mk hq).2; omega))
end
