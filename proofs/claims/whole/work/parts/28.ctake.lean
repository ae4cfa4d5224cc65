section
def BIT (m : Int64) (c : Int32) : Prop := (m.toUInt64 >>> (c.toInt64.toUInt64 &&& Int64.toUInt64 63)).toInt64 &&& 1 = 1
def CTK (r : Ses) (c : Int32) : Prop := (0 ≤ c.toInt ∧ c.toInt < 40 ∧ ¬ BIT r.2 c) ∧ (r.1 7 = -1 ∨ r.1 7 - 16 < c)
def TAKr (r : Ses) (c : Int32) : Ses := (u1 (u1 r.1 8 (r.1 8 + 1)) 7 (if r.1 7 < c then c else r.1 7), r.2 ||| (1 <<< (c.toInt64 &&& 63)))
theorem w3_w3 {α : Type} {f : Nat → Nat → Nat → α} {a b c : Nat} {v w : α} : w3 (w3 f a b c v) a b c w = w3 f a b c w := funext fun i => funext fun j => funext fun k => by
  by_cases h : i = a ∧ j = b ∧ k = c
  · obtain ⟨rfl, rfl, rfl⟩ := h
    rw [w3_eq, w3_eq]
  · rw [w3_ne h, w3_ne h, w3_ne h]
theorem sSes_sSes {S : Sx} {a b w : Nat} {v x : Option Ses} : (S.sSes a b w v).sSes a b w x = S.sSes a b w x := congrArg (fun f => (S.sc, S.ef, S.lf, S.cd, S.fl, f, S.wt, S.rt, S.ou, S.nt)) w3_w3
theorem ses_at {S : Sx} {a b w : Nat} {v : Option Ses} : (S.sSes a b w v).ses a b w = v := w3_eq
/-- what a COOKIE would hold -/
def CKE (S : Sx) (e : Nat) (g : Row) : Nat := MIX [6, ((211 + 307 * e : Nat) : Int), (S.sc 0 / 60).toInt, (g 0).toInt]
def HKT (e a : Nat) (g : Row) : Nat := MIX [1, (PW (cl (g 4)) (211 + 307 * e) : Int), (PW (NAME a) (211 + 307 * e) : Int)]
/-- a HELLO of a to b comes to e -/
def THc (S : Sx) (e a b : Nat) (g : Row) : Int32 := if ¬ b = e then -1 else if ¬ S.ef 1 e = 0 ∧ ¬ g 8 = nI (MIX [2, (CKE S e g : Int), (TAGR g).toInt]) then -7 else if ¬ TAGR g = SEALR (HKT e a g) g then -2 else if g 6 ≤ S.lf 1 e a then -6 else 3
def THs (S : Sx) (e a b : Nat) (g : Row) : Sx := if ¬ b = e then S else if ¬ S.ef 1 e = 0 ∧ ¬ g 8 = nI (MIX [2, (CKE S e g : Int), (TAGR g).toInt]) then COOS S e g (nI (CKE S e g)) else if ¬ TAGR g = SEALR (HKT e a g) g then S else if g 6 ≤ S.lf 1 e a then S else REPS ((S.sLf 1 e a (g 6)).sLf 0 e a (g 0)) e a (HKT e a g) g
def TCK (b : Nat) (f : Row) : Nat := MIX [3, (NAME b : Int), (f 2).toInt]
def TRK (e b : Nat) (f g : Row) : Nat := MIX [4, (HKY e b (cl (f 1)) : Int), (PW (cl (g 5)) (cl (f 1)) : Int), (PW (cl (g 5)) (211 + 307 * e) : Int)]
def TRSes (S : Sx) (e b : Nat) (f g : Row) : Ses := (mkS (f 0) (g 3) (S.sc 0) (nI (MIX [5, (TRK e b f g : Int), 0])) (nI (MIX [5, (TRK e b f g : Int), 1])) 1, 0)
def TRB (S : Sx) (e b : Nat) (f g : Row) : Sx := (((S.sFl e b none).sLf 0 e b (g 0)).sSes e b 0 (S.ses e b 1)).sSes e b 1 (some (TRSes S e b f g))
def TRS (S : Sx) (e b : Nat) (f g : Row) : Sx := if (S.wt e b).length = 0 then DATS (TRB S e b f g) e b (TRSes S e b f g) (-1) (-1) (-1) else SWT e b (S.wt e b).length (TRB S e b f g)
theorem cl_lt (x : Int32) : cl x < 2 ^ 31 := by
  have h := fb_rng x
  show x.toInt.toNat < 2 ^ 31
  omega
def okF (S : Sx) (e : Nat) : Prop := ∀ b f, b < 3 → S.fl e b = some f → f 1 = nI (cl (f 1))
def okR (S : Sx) (e : Nat) : Prop := ∀ b w r, b < 3 → w < 3 → S.ses e b w = some r → (∃ K, K < 65521 ∧ r.1 3 = nI K) ∧ ∃ K, K < 65521 ∧ r.1 4 = nI K
/-- a REPLY comes to e -/
def TRc (S : Sx) (e : Nat) (g : Row) (v : Int32) (S9 : Sx) : Prop := ((∀ b, b < 3 → ¬ fIs S e b (g 4)) ∧ v = -1 ∧ S9 = S) ∨ ∃ b f, FWN S e (g 4) b ∧ S.fl e b = some f ∧ ((¬ TAGR g = SEALR (TRK e b f g) g ∧ v = -2 ∧ S9 = S) ∨ (TAGR g = SEALR (TRK e b f g) g ∧ v = 3 ∧ S9 = TRS S e b f g))
def ouR (e b : Nat) (g : Row) : Row := fun j => if j = 0 then nI e else if j = 1 then nI b else if j = 2 then g 5 else if j = 3 then g 6 else g 7
def BOc (S : Sx) (e b : Nat) (g : Row) : Int32 := if g 5 = -1 then 2 else if GVN (g 5) (S.rt e) (-1) (-1) = nI b then 1 else -5
def BOs (S : Sx) (e b : Nat) (g : Row) : Sx := if g 5 = -1 then S else if GVN (g 5) (S.rt e) (-1) (-1) = nI b then S.sOu (S.ou ++ [ouR e b g]) else S
def TDT (S : Sx) (e b w : Nat) (r : Ses) (g : Row) : Sx := (S.sSes e b w (some (TAKr r (g 4)))).sLf 0 e b (g 0)
def PRO (S : Sx) (a b : Nat) : Sx := ((S.sSes a b 0 (S.ses a b 1)).sSes a b 1 (S.ses a b 2)).sSes a b 2 none
def TDP (S : Sx) (e b w : Nat) (r : Ses) (g : Row) : Sx := if w = 2 then SWT e b (S.wt e b).length (PRO (TDT S e b w r g) e b) else TDT S e b w r g
/-- DATA comes to e -/
def TDc (S : Sx) (e : Nat) (g : Row) (v : Int32) (S9 : Sx) : Prop := ((∀ b, b < 3 → ∀ w, w < 3 → ¬ sIs S e b w (g 3)) ∧ v = -1 ∧ S9 = S) ∨ ∃ b w r, LWN S e (g 3) b ∧ SWN S e b (g 3) w ∧ S.ses e b w = some r ∧ (
  (30 ≤ S.sc 0 - r.1 2 ∧ v = -4 ∧ S9 = S) ∨ (¬ 30 ≤ S.sc 0 - r.1 2 ∧ ¬ TAGR g = SEALR (cl (r.1 4)) g ∧ v = -2 ∧ S9 = S) ∨ (¬ 30 ≤ S.sc 0 - r.1 2 ∧ TAGR g = SEALR (cl (r.1 4)) g ∧ ¬ CTK r (g 4) ∧ v = -3 ∧ S9 = S) ∨
  (¬ 30 ≤ S.sc 0 - r.1 2 ∧ TAGR g = SEALR (cl (r.1 4)) g ∧ CTK r (g 4) ∧ v = BOc (TDP S e b w r g) e b g ∧ S9 = BOs (TDP S e b w r g) e b g))
theorem FrS.two {μ μ' : Mem} {a b : Nat} {P : Nat → Nat} {S : Sx} {G : Gx} (h : CRep G P S μ) (ha : a < 3) (hb : b < 3) (hk : ∀ z, μ'.kd z = μ.kd z ∨ (isC (μ.kd z) ∧ isC (μ'.kd z))) (hs : ∀ z, μ'.kd z = μ.kd z → z ≠ P (16 + 3 * a + b) → SameAt μ μ' z) : FrS isC μ μ' := fun z => by
  by_cases c : z = P (16 + 3 * a + b)
  · subst c
    have h1 := isC_P h.1 (j := 16 + 3 * a + b) (by omega)
    exact ⟨fun _ hn => absurd h1 hn, fun _ => Or.inr (by
      rcases hk (P (16 + 3 * a + b)) with e | e
      · rw [e]; exact h1
      · exact e.2)⟩
  · refine ⟨fun h0 hn => ?_, fun h0 => ?_⟩
    · rcases hk z with e | e
      · exact hs z e c
      · exact absurd e.1 hn
    · rcases hk z with e | e
      · rw [e]; exact h0
      · exact Or.inr e.2
theorem KL.two {μ μ' : Mem} {a b : Nat} {P : Nat → Nat} {S : Sx} {G : Gx} (h : CRep G P S μ) (ha : a < 3) (hb : b < 3) (hk : ∀ z, μ.kd z % 32 ≠ 8 → μ'.kd z = μ.kd z) (hs : ∀ z, μ'.kd z = μ.kd z → z ≠ P (16 + 3 * a + b) → SameAt μ μ' z) : KL μ μ' := fun p hp => by
  have h5 := h.kL ha hb
  exact ⟨hs p (hk p (by rw [hp]; decide)) (fun e => by rw [← e, hp] at h5; exact absurd h5 (by decide)), fun fp hf => hs fp (hk fp (by rw [hf]; unfold FM; omega)) (fun e => by
    rw [← e, hf] at h5
    have e9 : (11 + 32 * (1000 + p)) % 32 = 5 := h5
    omega)⟩
/-- ghost marks change -/
def Mem.reK (μ : Mem) (f : Nat → Nat) : Mem := (f, μ.2)
theorem h_kds {Z : Zx} {k n pc : Nat} {L : List (Option Value)} {st : List Value} {μ : Mem} (f : Nat → Nat) (hk : ∀ z, f z % 32 = μ.kd z % 32 ∧ (f z ≠ 0 → μ.kd z ≠ 0)) (kk : HW Z k n pc L st (μ.reK f)) : HW Z k n pc L st μ := by
  obtain ⟨p, l, e, R, s, m, args, below, meth, c, G, A, nL, Q⟩ := Z
  intro H locs ls hR hS hl
  refine kk H locs ls (fun q hq => ?_) hS hl
  obtain ⟨g1, g2⟩ := hR q ((hk q).2 hq)
  refine ⟨g1, ?_⟩
  unfold cellAt at g2 ⊢
  rw [show (μ.reK f).kd q % 32 = μ.kd q % 32 from (hk q).1]
  exact g2
theorem beg_fr {mb m1 m2 : Mem} {L : Nat} {o q : Option Nat} (e1 : m1 = mb.sfr 133 L o) (e2 : m2 = m1.sfr 134 L q) (f z : Nat) : m2.fr f z = if z = L ∧ f = 134 then q else if z = L ∧ f = 133 then o else mb.fr f z := by
  rw [e2, z_fr_sfr, e1, z_fr_sfr]
  by_cases h1 : z = L
  · by_cases h2 : f = 134
    · rw [if_pos h2, if_pos h1, if_pos ⟨h1, h2⟩]
    · by_cases h3 : f = 133
      · rw [if_neg h2, if_pos h3, if_pos h1, if_neg (fun h => h2 h.2), if_pos ⟨h1, h3⟩]
      · rw [if_neg h2, if_neg h3, if_neg (fun h => h2 h.2), if_neg (fun h => h3 h.2)]
  · rw [if_neg (fun h => h1 h.1 : ¬ (z = L ∧ f = 134)), if_neg (fun h => h1 h.1 : ¬ (z = L ∧ f = 133))]
    simp only [if_neg h1, ite_self]
theorem pro_fr {mb m1 m2 m3 : Mem} {L : Nat} {o q t : Option Nat} (e1 : m1 = mb.sfr 133 L o) (e2 : m2 = m1.sfr 134 L q) (e3 : m3 = m2.sfr 135 L t) (f z : Nat) : m3.fr f z = if z = L ∧ f = 135 then t else if z = L ∧ f = 134 then q else if z = L ∧ f = 133 then o else mb.fr f z := by
  rw [e3, z_fr_sfr, beg_fr e1 e2]
  by_cases h1 : z = L
  · by_cases h2 : f = 135
    · rw [if_pos h2, if_pos h1, if_pos ⟨h1, h2⟩]
    · rw [if_neg h2, if_neg (fun h => h2 h.2 : ¬ (z = L ∧ f = 135))]
  · rw [if_neg (fun h => h1 h.1 : ¬ (z = L ∧ f = 135))]
    simp only [if_neg h1, ite_self]
section
variable {G : Gx} {P : Nat → Nat} {S : Sx} {mb m1 m2 m3 mz : Mem}
theorem CKo.begin (h : CRep G P S mb) {a b q : Nat} {r : Ses} {o : Option Nat} (ha : a < 3) (hb : b < 3) (hq : SesAt mb (8 + 32 * 40) (some q) (some r)) (ho : mb.fr 134 (P (16 + 3 * a + b)) = o) (e1 : m1 = mb.sfr 133 (P (16 + 3 * a + b)) o) (e2 : m2 = m1.sfr 134 (P (16 + 3 * a + b)) (some q)) (ez : mz = m2.reK (fun z => if z = q then KSES a b 1 else if o = some z then KSES a b 0 else mb.kd z)) : CKo G P mb ((S.sSes a b 0 (S.ses a b 1)).sSes a b 1 (some r)) mz := by
  have hk : ∀ z, mz.kd z = if z = q then KSES a b 1 else if o = some z then KSES a b 0 else mb.kd z := fun z => by rw [ez]; rfl
  have hfr : ∀ f z, mz.fr f z = if z = P (16 + 3 * a + b) ∧ f = 134 then some q else if z = P (16 + 3 * a + b) ∧ f = 133 then o else mb.fr f z := fun f z => by rw [ez]; exact beg_fr e1 e2 f z
  have hfi : mz.fi = mb.fi := by rw [ez]; show m2.fi = mb.fi; rw [e2, e1]; rfl
  have hfl : mz.fl = mb.fl := by rw [ez]; show m2.fl = mb.fl; rw [e2, e1]; rfl
  have hln : mz.ln = mb.ln := by rw [ez]; show m2.ln = mb.ln; rw [e2, e1]; rfl
  have hei : mz.ei = mb.ei := by rw [ez]; show m2.ei = mb.ei; rw [e2, e1]; rfl
  have her : mz.er = mb.er := by rw [ez]; show m2.er = mb.er; rw [e2, e1]; rfl
  have hel : mz.el = mb.el := by rw [ez]; show m2.el = mb.el; rw [e2, e1]; rfl
  have m1k : SesAt mb (KSES a b 1) o (S.ses a b 1) := by rw [← ho]; exact h.2.2.2.2.2.2.2.2.2.1.at ha hb (w := 1) (by decide)
  have hs : ∀ z, mz.kd z = mb.kd z → z ≠ P (16 + 3 * a + b) → SameAt mb mz z := fun z hz hne => ⟨hz, fun f => by rw [hfi], fun f => by rw [hfr, if_neg (fun k => hne k.1), if_neg (fun k => hne k.1)], fun f => by rw [hfl], by rw [hln], by rw [hei], by rw [her], by rw [hel]⟩
  refine ⟨⟨h.begin ha hb hq ho hk hfi hfl hln hei her hfr, FrS.two h ha hb (fun z => ?_) hs⟩, KL.two h ha hb (fun z hz => ?_) hs⟩
  · rw [hk z]
    by_cases c : z = q
    · rw [if_pos c, c, hq.kd]
      exact Or.inr ⟨isC_fl (by decide), isC_SES ha hb (by decide)⟩
    · rw [if_neg c]
      by_cases c2 : o = some z
      · rw [if_pos c2, m1k.mark c2]
        exact Or.inr ⟨isC_SES ha hb (by decide), isC_SES ha hb (by decide)⟩
      · rw [if_neg c2]
        exact Or.inl rfl
  · rw [hk z, if_neg (fun c => hz (by rw [c, hq.kd])), if_neg (fun c => hz (by rw [m1k.mark c, KSES_m]))]
theorem CKo.promote (h : CRep G P S mb) {a b q : Nat} {o : Option Nat} (ha : a < 3) (hb : b < 3) (hq : mb.fr 135 (P (16 + 3 * a + b)) = some q) (ho : mb.fr 134 (P (16 + 3 * a + b)) = o) (e1 : m1 = mb.sfr 133 (P (16 + 3 * a + b)) o) (e2 : m2 = m1.sfr 134 (P (16 + 3 * a + b)) (some q)) (e3 : m3 = m2.sfr 135 (P (16 + 3 * a + b)) none) (ez : mz = m3.reK (fun z => if z = q then KSES a b 1 else if o = some z then KSES a b 0 else mb.kd z)) : CKo G P mb (PRO S a b) mz := by
  have hk : ∀ z, mz.kd z = if z = q then KSES a b 1 else if o = some z then KSES a b 0 else mb.kd z := fun z => by rw [ez]; rfl
  have hfr : ∀ f z, mz.fr f z = if z = P (16 + 3 * a + b) ∧ f = 135 then none else if z = P (16 + 3 * a + b) ∧ f = 134 then some q else if z = P (16 + 3 * a + b) ∧ f = 133 then o else mb.fr f z := fun f z => by rw [ez]; exact pro_fr e1 e2 e3 f z
  have hfi : mz.fi = mb.fi := by rw [ez]; show m3.fi = mb.fi; rw [e3, e2, e1]; rfl
  have hfl : mz.fl = mb.fl := by rw [ez]; show m3.fl = mb.fl; rw [e3, e2, e1]; rfl
  have hln : mz.ln = mb.ln := by rw [ez]; show m3.ln = mb.ln; rw [e3, e2, e1]; rfl
  have hei : mz.ei = mb.ei := by rw [ez]; show m3.ei = mb.ei; rw [e3, e2, e1]; rfl
  have her : mz.er = mb.er := by rw [ez]; show m3.er = mb.er; rw [e3, e2, e1]; rfl
  have hel : mz.el = mb.el := by rw [ez]; show m3.el = mb.el; rw [e3, e2, e1]; rfl
  have m1k : SesAt mb (KSES a b 1) o (S.ses a b 1) := by rw [← ho]; exact h.2.2.2.2.2.2.2.2.2.1.at ha hb (w := 1) (by decide)
  have m2k : SesAt mb (KSES a b 2) (some q) (S.ses a b 2) := by rw [← hq]; exact h.2.2.2.2.2.2.2.2.2.1.at ha hb (w := 2) (by decide)
  have hs : ∀ z, mz.kd z = mb.kd z → z ≠ P (16 + 3 * a + b) → SameAt mb mz z := fun z hz hne => ⟨hz, fun f => by rw [hfi], fun f => by rw [hfr, if_neg (fun k => hne k.1), if_neg (fun k => hne k.1), if_neg (fun k => hne k.1)], fun f => by rw [hfl], by rw [hln], by rw [hei], by rw [her], by rw [hel]⟩
  refine ⟨⟨h.promote ha hb hq ho hk hfi hfl hln hei her hfr, FrS.two h ha hb (fun z => ?_) hs⟩, KL.two h ha hb (fun z hz => ?_) hs⟩
  · rw [hk z]
    by_cases c : z = q
    · rw [if_pos c, c, m2k.kd]
      exact Or.inr ⟨isC_SES ha hb (by decide), isC_SES ha hb (by decide)⟩
    · rw [if_neg c]
      by_cases c2 : o = some z
      · rw [if_pos c2, m1k.mark c2]
        exact Or.inr ⟨isC_SES ha hb (by decide), isC_SES ha hb (by decide)⟩
      · rw [if_neg c2]
        exact Or.inl rfl
  · rw [hk z, if_neg (fun c => hz (by rw [c, m2k.kd, KSES_m])), if_neg (fun c => hz (by rw [m1k.mark c, KSES_m]))]
end
theorem SWT_ou (a b : Nat) : ∀ (m : Nat) (S : Sx), (SWT a b m S).ou = S.ou
  | 0, S => rfl
  | m + 1, S => by
    show (match USE S a b with | none => S | some r => match S.wt a b with | [] => S | p :: ps => SWT a b m (DATS (S.sWt a b ps) a b r (p 0) (p 1) (p 2))).ou = S.ou
    cases USE S a b with
    | none => rfl
    | some r =>
      cases S.wt a b with
      | nil => rfl
      | cons p ps => exact (SWT_ou a b m _).trans rfl
theorem TDP_ou {S : Sx} {e b w : Nat} {r : Ses} {g : Row} : (TDP S e b w r g).ou = S.ou := by
  unfold TDP
  split
  · rw [SWT_ou]; rfl
  · rfl

set_option maxRecDepth 100000 in
set_option maxHeartbeats 4000000 in
theorem k_X7_canTake (l : Launch) (G : Gx) (μ : Mem) (a b w s : Nat) (r : Ses) (hs : SesIn μ a b w s r) (c : Int32) : Kon l yX7_canTake cX7_canTake 2 (some .boolean) 0 0 0 0 G [.ref s, .int c] μ (pB (fun μ' => μ = μ' ∧ CTK r c) (fun μ' => μ = μ' ∧ ¬ CTK r c)) noX := by
  refine Kon.ofG (by decide +kernel) (Nat.le_of_ble_eq_true rfl) (Nat.le_of_ble_eq_true rfl) (fun Z hZG C E NT MT => ?_)
  subst hZG
  have C : Cx Z RX7 cX7_canTake 0 0 0 0 := C
  show HW Z 0 0 0 [some (.ref s), some (.int c)] [] μ
  refine h_iload_g C dX7_canTake_0 rfl rfl ?_
  refine h_if_lt (tgt := 23) C dX7_canTake_1 (by decide) (fun c1 => ?_) (fun c1 => ?_)
  · refine h_iconst (v := 0) C dX7_canTake_23 (by decide) ?_
    refine h_zret C E dX7_canTake_24 (by decide) (by decide) (by first | exact Or.inl rfl | exact Or.inr rfl) ?_
    exact Or.inr ⟨rfl, rfl, fun h => by have h1 := h.1.1; simp only [Int32.lt_iff_toInt_lt, Int32.le_iff_toInt_le, tl_m10000, tl_m1000, tl_m500, tl_m7, tl_m6, tl_m5, tl_m4, tl_m3, tl_m2, tl_m1, tl_0, tl_1, tl_2, tl_3, tl_4, tl_5, tl_6, tl_7, tl_8, tl_9, tl_10, tl_11, tl_15, tl_16, tl_20, tl_30, tl_40, tl_60, tl_99, tl_100, tl_211, tl_255, tl_307, tl_500, tl_1018, tl_2038, tl_2039, tl_9999, tl_10000, tl_65280, tl_65520, tl_65521, tl_1000000, tl_500000000] at c1; omega⟩
  · refine h_iload_g C dX7_canTake_4 rfl rfl ?_
    refine h_bipush (v := 40) C dX7_canTake_5 (by decide) ?_
    refine h_icmp_ge (tgt := 23) C dX7_canTake_7 (by decide) (fun c2 => ?_) (fun c2 => ?_)
    · refine h_iconst (v := 0) C dX7_canTake_23 (by decide) ?_
      refine h_zret C E dX7_canTake_24 (by decide) (by decide) (by first | exact Or.inl rfl | exact Or.inr rfl) ?_
      exact Or.inr ⟨rfl, rfl, fun h => by have h1 := h.1.2.1; simp only [Int32.lt_iff_toInt_lt, Int32.le_iff_toInt_le, tl_m10000, tl_m1000, tl_m500, tl_m7, tl_m6, tl_m5, tl_m4, tl_m3, tl_m2, tl_m1, tl_0, tl_1, tl_2, tl_3, tl_4, tl_5, tl_6, tl_7, tl_8, tl_9, tl_10, tl_11, tl_15, tl_16, tl_20, tl_30, tl_40, tl_60, tl_99, tl_100, tl_211, tl_255, tl_307, tl_500, tl_1018, tl_2038, tl_2039, tl_9999, tl_10000, tl_65280, tl_65520, tl_65521, tl_1000000, tl_500000000] at c2; omega⟩
    · refine h_al_g C dX7_canTake_10 rfl rfl rfv_r ?_
      refine gf_X7_21 C dX7_canTake_11 (SesIn.k hs) (SesIn.f233 hs) ?_
      refine h_iload_g C dX7_canTake_14 rfl rfl ?_
      refine h_lushr C dX7_canTake_15 ?_
      refine h_lconst (v := 1) C dX7_canTake_16 (by decide) ?_
      refine h_land C dX7_canTake_17 ?_
      refine h_lconst (v := 1) C dX7_canTake_18 (by decide) ?_
      refine h_lcmp C dX7_canTake_19 ?_
      refine h_if_ne (tgt := 25) C dX7_canTake_20 (by decide) (fun c3 => ?_) (fun c3 => ?_)
      · have hA : 0 ≤ c.toInt ∧ c.toInt < 40 ∧ ¬ BIT r.2 c := ⟨by simp only [Int32.lt_iff_toInt_lt, Int32.le_iff_toInt_le, tl_m10000, tl_m1000, tl_m500, tl_m7, tl_m6, tl_m5, tl_m4, tl_m3, tl_m2, tl_m1, tl_0, tl_1, tl_2, tl_3, tl_4, tl_5, tl_6, tl_7, tl_8, tl_9, tl_10, tl_11, tl_15, tl_16, tl_20, tl_30, tl_40, tl_60, tl_99, tl_100, tl_211, tl_255, tl_307, tl_500, tl_1018, tl_2038, tl_2039, tl_9999, tl_10000, tl_65280, tl_65520, tl_65521, tl_1000000, tl_500000000] at c1; omega, by simp only [Int32.lt_iff_toInt_lt, Int32.le_iff_toInt_le, tl_m10000, tl_m1000, tl_m500, tl_m7, tl_m6, tl_m5, tl_m4, tl_m3, tl_m2, tl_m1, tl_0, tl_1, tl_2, tl_3, tl_4, tl_5, tl_6, tl_7, tl_8, tl_9, tl_10, tl_11, tl_15, tl_16, tl_20, tl_30, tl_40, tl_60, tl_99, tl_100, tl_211, tl_255, tl_307, tl_500, tl_1018, tl_2038, tl_2039, tl_9999, tl_10000, tl_65280, tl_65520, tl_65521, tl_1000000, tl_500000000] at c2; omega, fun h => c3 ((lg_cmp_eq _ _).mpr h)⟩
        refine h_al_g C dX7_canTake_25 rfl rfl rfv_r ?_
        refine gf_X7_18 C dX7_canTake_26 (SesIn.k hs) (SesIn.f232 hs) ?_
        refine h_iconst (v := (-1)) C dX7_canTake_29 (by decide) ?_
        refine h_icmp_eq (tgt := 44) C dX7_canTake_30 (by decide) (fun c4 => ?_) (fun c4 => ?_)
        · refine h_iconst (v := 1) C dX7_canTake_44 (by decide) ?_
          refine h_goto (tgt := 49) C dX7_canTake_45 (by decide) ?_
          refine h_zret C E dX7_canTake_49 (by decide) (by decide) (by first | exact Or.inl rfl | exact Or.inr rfl) ?_
          exact Or.inl ⟨rfl, rfl, hA, Or.inl c4⟩
        · refine h_iload_g C dX7_canTake_33 rfl rfl ?_
          refine h_al_g C dX7_canTake_34 rfl rfl rfv_r ?_
          refine gf_X7_18 C dX7_canTake_35 (SesIn.k hs) (SesIn.f232 hs) ?_
          refine h_bipush (v := 16) C dX7_canTake_38 (by decide) ?_
          refine h_isub C dX7_canTake_40 ?_
          refine h_icmp_le (tgt := 48) C dX7_canTake_41 (by decide) (fun c5 => ?_) (fun c5 => ?_)
          · refine h_iconst (v := 0) C dX7_canTake_48 (by decide) ?_
            refine h_zret C E dX7_canTake_49 (by decide) (by decide) (by first | exact Or.inl rfl | exact Or.inr rfl) ?_
            exact Or.inr ⟨rfl, rfl, fun h => h.2.elim c4 (fun z => absurd c5 (Int32.not_le.mpr z))⟩
          · refine h_iconst (v := 1) C dX7_canTake_44 (by decide) ?_
            refine h_goto (tgt := 49) C dX7_canTake_45 (by decide) ?_
            refine h_zret C E dX7_canTake_49 (by decide) (by decide) (by first | exact Or.inl rfl | exact Or.inr rfl) ?_
            exact Or.inl ⟨rfl, rfl, hA, Or.inr (Int32.not_le.mp c5)⟩
      · refine h_iconst (v := 0) C dX7_canTake_23 (by decide) ?_
        refine h_zret C E dX7_canTake_24 (by decide) (by decide) (by first | exact Or.inl rfl | exact Or.inr rfl) ?_
        exact Or.inr ⟨rfl, rfl, fun h => h.1.2.2 ((lg_cmp_eq _ _).mp c3)⟩

set_option maxRecDepth 100000 in
set_option maxHeartbeats 4000000 in
theorem k_X7_take (l : Launch) (G : Gx) (P : Nat → Nat) (S : Sx) (μ : Mem) (hC : CRep G P S μ) (a b w s : Nat) (r : Ses) (ha : a < 3) (hb : b < 3) (hw : w < 3) (hs : SesIn μ a b w s r) (hsl : SL P μ a b w = some s) (hr : S.ses a b w = some r) (c : Int32) : Kon l yX7_take cX7_take 2 none 1 0 0 21 G [.ref s, .int c] μ (pV fun μ' => CKo G P μ (S.sSes a b w (some (TAKr r c))) μ' ∧ μ'.fr = μ.fr) noX := by
  refine Kon.ofG (by decide +kernel) (Nat.le_of_ble_eq_true rfl) (Nat.le_of_ble_eq_true rfl) (fun Z hZG C E NT MT => ?_)
  subst hZG
  have C : Cx Z RX7 cX7_take 1 0 0 21 := C
  show HW Z 0 0 0 [some (.ref s), some (.int c)] [] μ
  refine h_al_g C dX7_take_0 rfl rfl rfv_r ?_
  refine h_dup C dX7_take_1 rfl ?_
  refine gf_X7_21 C dX7_take_2 (SesIn.k hs) (SesIn.f233 hs) ?_
  refine h_lconst (v := 1) C dX7_take_5 (by decide) ?_
  refine h_iload_g C dX7_take_6 rfl rfl ?_
  refine h_lshl C dX7_take_7 ?_
  refine h_lor C dX7_take_8 ?_
  refine pf_X7_21 C dX7_take_9 (SesIn.k hs) ?_
  refine h_abs (fun m1 e1 => ?_)
  have hT1 : CKo Z.G P μ (S.sSes a b w (some (r.1, (r.2 ||| (1 <<< (c.toInt64 &&& 63)))))) m1 := by rw [e1]; exact CKo.put ⟨CRep.s233 hC ha hb hw hsl hr (r.2 ||| (1 <<< (c.toInt64 &&& 63))), FrS.sfl (by rw [hs.1]; exact isC_SES ha hb hw)⟩ (fun z hz => same_sfl hz) (by rw [hs.k]; decide)
  have hC := hT1.C
  have hsl : SL P m1 a b w = some s := by rw [e1]; exact hsl
  have hr : (S.sSes a b w (some (r.1, (r.2 ||| (1 <<< (c.toInt64 &&& 63)))))).ses a b w = some (r.1, (r.2 ||| (1 <<< (c.toInt64 &&& 63)))) := ses_at
  have hs : SesIn m1 a b w s (r.1, (r.2 ||| (1 <<< (c.toInt64 &&& 63)))) := SesAt.in (by have h9 := (hC.2.2.2.2.2.2.2.2.2.1).at ha hb hw; rw [hsl, hr] at h9; exact h9)
  refine h_al_g C dX7_take_12 rfl rfl rfv_r ?_
  refine h_dup C dX7_take_13 rfl ?_
  refine gf_X7_15 C dX7_take_14 (SesIn.k hs) (SesIn.f231 hs) ?_
  refine h_iconst (v := 1) C dX7_take_17 (by decide) ?_
  refine h_iadd C dX7_take_18 ?_
  refine pf_X7_15 C dX7_take_19 (SesIn.k hs) ?_
  refine h_abs (fun m2 e2 => ?_)
  have hT2 : CKo Z.G P μ (S.sSes a b w (some (u1 r.1 8 (r.1 8 + 1), (r.2 ||| (1 <<< (c.toInt64 &&& 63)))))) m2 := by rw [e2, ← sSes_sSes (v := some (r.1, (r.2 ||| (1 <<< (c.toInt64 &&& 63)))))]; exact hT1.tr (CKo.put ⟨CRep.s231 hC ha hb hw hsl hr (r.1 8 + 1), FrS.sfi (by rw [hs.1]; exact isC_SES ha hb hw)⟩ (fun z hz => same_sfi hz) (by rw [hs.k]; decide))
  have hC := hT2.C
  have hsl : SL P m2 a b w = some s := by rw [e2]; exact hsl
  have hr : (S.sSes a b w (some (u1 r.1 8 (r.1 8 + 1), (r.2 ||| (1 <<< (c.toInt64 &&& 63)))))).ses a b w = some (u1 r.1 8 (r.1 8 + 1), (r.2 ||| (1 <<< (c.toInt64 &&& 63)))) := ses_at
  have hs : SesIn m2 a b w s (u1 r.1 8 (r.1 8 + 1), (r.2 ||| (1 <<< (c.toInt64 &&& 63)))) := SesAt.in (by have h9 := (hC.2.2.2.2.2.2.2.2.2.1).at ha hb hw; rw [hsl, hr] at h9; exact h9)
  refine h_al_g C dX7_take_22 rfl rfl rfv_r ?_
  refine h_al_g C dX7_take_23 rfl rfl rfv_r ?_
  refine gf_X7_18 C dX7_take_24 (SesIn.k hs) (SesIn.f232 hs) ?_
  refine h_iload_g C dX7_take_27 rfl rfl ?_
  refine h_callS2 C (k_J9_max_7cf53 Z.l Z.G _ _ _) cw_X7_50 st_J9_max_7cf53 dX7_take_28 (by first | decide | exact Nat.le_of_ble_eq_true rfl) (by decide) (by decide) (by decide) (by decide) (kI fun r1 μ1 hp1 => ?_) kN
  obtain ⟨rfl, rfl⟩ := hp1
  refine pf_X7_18 C dX7_take_31 (SesIn.k hs) ?_
  refine h_abs (fun m3 e3 => ?_)
  have hT3 : CKo Z.G P μ (S.sSes a b w (some (TAKr r c))) m3 := by rw [e3, ← sSes_sSes (v := some (u1 r.1 8 (r.1 8 + 1), (r.2 ||| (1 <<< (c.toInt64 &&& 63)))))]; exact hT2.tr (CKo.put ⟨CRep.s232 hC ha hb hw hsl hr _, FrS.sfi (by rw [hs.1]; exact isC_SES ha hb hw)⟩ (fun z hz => same_sfi hz) (by rw [hs.k]; decide))
  have hC := hT3.C
  have hsl : SL P m3 a b w = some s := by rw [e3]; exact hsl
  have hr : (S.sSes a b w (some (TAKr r c))).ses a b w = some (TAKr r c) := ses_at
  have hs : SesIn m3 a b w s (TAKr r c) := SesAt.in (by have h9 := (hC.2.2.2.2.2.2.2.2.2.1).at ha hb hw; rw [hsl, hr] at h9; exact h9)
  refine h_ret C E dX7_take_34 (by decide) (by decide) ?_
  exact ⟨rfl, hT3, by rw [e3, e2, e1]; rfl⟩

set_option maxRecDepth 100000 in
set_option maxHeartbeats 4000000 in
theorem k_X8_takeHello (l : Launch) (G : Gx) (P : Nat → Nat) (S : Sx) (μ : Mem) (hC : CRep G P S μ) (e a b : Nat) (he : e < 3) (ha : a < 3) (hb : b < 3) (hN : 0 ≤ (HNUM S).toInt ∧ (HNUM S).toInt < 1000000) (p fp : Nat) (g : Row) (hg : Got μ p fp g) (hk1 : g 2 = 1) (hw9 : g 5 = nI (10 * a + b)) (hX : g 4 = nI (cl (g 4))) (hX2 : cl (g 4) < 2039) : Kon l yX8_takeHello cX8_takeHello 7 (some .int) 10 4 1024 241 G [.ref (P 0), .ref (P (4 + e)), .ref p] μ (pI fun v μ' => v = THc S e a b g ∧ CKo G P μ (THs S e a b g) μ') noX := by
  refine Kon.ofG (by decide +kernel) (Nat.le_of_ble_eq_true rfl) (Nat.le_of_ble_eq_true rfl) (fun Z hZG C E NT MT => ?_)
  subst hZG
  have C : Cx Z RX8 cX8_takeHello 10 4 1024 241 := C
  show HW Z 0 0 0 [some (.ref (P 0)), some (.ref (P (4 + e))), some (.ref p), none, none, none, none] [] μ
  have hg0 := hg
  have hl := hg.L
  have hk : KLET % 32 = 4 := by decide
  have eW : (nI (10 * a + b) - nI (10 * a + b) / 10 * 10 : Int32) = nI b := by rw [show (10 : Int32) = nI 10 from rfl, pk_rem (by omega) (by decide) (by decide), show (10 * a + b) % 10 = b by omega]
  have eD : (nI (10 * a + b) / 10 : Int32) = nI a := by rw [show (10 : Int32) = nI 10 from rfl, pk_div (by omega) (by decide) (by decide), show (10 * a + b) / 10 = a by omega]
  refine h_al_g C dX8_takeHello_0 rfl rfl rfv_r ?_
  refine h_iconst (v := 2) C dX8_takeHello_1 (by decide) ?_
  refine h_callV1 (ci := 3) C (k_X2_fld Z.l Z.G _ p fp 2 2 (nI (10 * a + b)) rfl (by decide) hg.k hg.f99 hg.kf hg.ln ((hg.at (i := 2) (by decide)).trans hw9)) cw_X8_203 im_X2_fieldAt sl_X2_fieldAt rfl (by decide) hg.k dX8_takeHello_2 (by first | decide | exact Nat.le_of_ble_eq_true rfl) (by decide) (by decide) (by decide) (by decide) (kI fun r1 μ1 hp1 => ?_) kN
  obtain ⟨rfl, rfl⟩ := hp1
  refine h_ist_3 C dX8_takeHello_5 ct_r ?_
  refine h_al_g C dX8_takeHello_6 rfl rfl rfv_r ?_
  refine h_iload_g C dX8_takeHello_7 rfl rfl ?_
  refine h_bipush (v := 10) C dX8_takeHello_8 (by decide) ?_
  refine h_idiv C dX8_takeHello_10 (by decide) ?_
  rw [eD]
  refine h_callV1 (ci := 1) C (k_X0_linkTo Z.l Z.G P S _ hC e he (nI a)) cw_X8_119 im_X0_linkTo sl_X0_linkTo rfl (by decide) (CRep.kE hC he) dX8_takeHello_11 (by first | decide | exact Nat.le_of_ble_eq_true rfl) (by decide) (by decide) (by decide) (by decide) (kO (fun μ2 hp2 => ?_) (fun r2 μ2 hp2 => ?_)) kN
  · obtain ⟨rfl, hno⟩ := hp2
    exact absurd (nI_isE ha) hno
  · obtain ⟨rfl, hisE, rfl⟩ := hp2
    rw [cl_of (n := a) (by omega)]
    refine h_ast_4 C dX8_takeHello_14 ct_i rfv_r ?_
    refine h_al_w (j := 0) C dX8_takeHello_16 rfl rfv_r ?_
    refine h_ifnull_r C dX8_takeHello_18 ?_
    refine h_iload_g C dX8_takeHello_21 rfl rfl ?_
    refine h_bipush (v := 10) C dX8_takeHello_22 (by decide) ?_
    refine h_irem C dX8_takeHello_24 (by decide) ?_
    refine h_al_g C dX8_takeHello_25 rfl rfl rfv_r ?_
    refine gf_X8_319 C dX8_takeHello_26 (CRep.kE hC (by assumption)) (CRep.f32 hC (by assumption)) ?_
    rw [eW]
    refine h_icmp_eq (tgt := 34) C dX8_takeHello_29 (by decide) (fun c1 => ?_) (fun c1 => ?_)
    · have hbe : b = e := (nI_eq (by omega) (by omega)).mp c1
      refine h_bipush (v := 6) C dX8_takeHello_34 (by decide) ?_
      refine h_al_g C dX8_takeHello_36 rfl rfl rfv_r ?_
      refine gf_X8_413 C dX8_takeHello_37 (CRep.kE hC (by assumption)) (CRep.f33 hC (by assumption)) ?_
      refine h_al_g C dX8_takeHello_40 rfl rfl rfv_r ?_
      refine gf_X8_26 C dX8_takeHello_41 (CRep.kX hC) (CRep.f259 hC) ?_
      refine h_bipush (v := 60) C dX8_takeHello_44 (by decide) ?_
      refine h_idiv C dX8_takeHello_46 (by decide) ?_
      refine h_al_g C dX8_takeHello_47 rfl rfl rfv_r ?_
      refine gf_X8_214 C dX8_takeHello_48 hg.k hg.L.f100 ?_
      refine h_callS4 C (k_X4_mixOfFour Z.l Z.G _ _ _ _ _) cw_X8_403 st_X4_mixOfFour dX8_takeHello_51 (by first | decide | exact Nat.le_of_ble_eq_true rfl) (by decide) (by decide) (by decide) (by decide) (kI fun r3 μ3 hp3 => ?_) kN
      obtain ⟨rfl, rfl⟩ := hp3
      rw [show MIX [(6 : Int32).toInt, (nI (211 + 307 * e)).toInt, (S.sc 0 / 60).toInt, (g 0).toInt] = CKE S e g from by rw [nI_toInt (n := 211 + 307 * e) (by omega)]; rfl]
      refine h_ist_5 C dX8_takeHello_54 ct_r ?_
      refine h_al_g C dX8_takeHello_56 rfl rfl rfv_r ?_
      refine gf_X8_68 C dX8_takeHello_57 (CRep.kE hC (by assumption)) (CRep.f38 hC (by assumption)) ?_
      refine h_if_eq (tgt := 92) C dX8_takeHello_60 (by decide) (fun c2 => ?_) (fun c2 => ?_)
      · have hnl : ¬ (¬ S.ef 1 e = 0 ∧ ¬ g 8 = nI (MIX [2, (CKE S e g : Int), (TAGR g).toInt])) := fun h => h.1 c2
        refine h_al_w (j := 0) C dX8_takeHello_92 rfl rfv_r ?_
        refine h_al_g C dX8_takeHello_94 rfl rfl rfv_r ?_
        refine h_iconst (v := 1) C dX8_takeHello_95 (by decide) ?_
        refine h_callV1 (ci := 3) C (k_X2_fld Z.l Z.G _ p fp 1 1 (g 4) rfl (by decide) hg.k hg.f99 hg.kf hg.ln (hg.at (i := 1) (by decide))) cw_X8_203 im_X2_fieldAt sl_X2_fieldAt rfl (by decide) hg.k dX8_takeHello_96 (by first | decide | exact Nat.le_of_ble_eq_true rfl) (by decide) (by decide) (by decide) (by decide) (kI fun r4 μ4 hp4 => ?_) kN
        obtain ⟨rfl, rfl⟩ := hp4
        refine h_al_g C dX8_takeHello_99 rfl rfl rfv_r ?_
        refine gf_X8_413 C dX8_takeHello_100 (CRep.kE hC (by assumption)) (CRep.f33 hC (by assumption)) ?_
        refine h_callS2 C (k_X4_power Z.l Z.G _ _ (cl (g 4)) (211 + 307 * e) hX hX2 rfl (by omega) _) cw_X8_274 st_X4_power dX8_takeHello_103 (by first | decide | exact Nat.le_of_ble_eq_true rfl) (by decide) (by decide) (by decide) (by decide) (kI fun r5 μ5 hp5 => ?_) kN
        obtain ⟨rfl, rfl⟩ := hp5
        refine h_callS2 C (k_X8_helloKey Z.l Z.G P S _ hC e a he ha _) cw_X8_387 st_X8_helloKey dX8_takeHello_106 (by first | decide | exact Nat.le_of_ble_eq_true rfl) (by decide) (by decide) (by decide) (by decide) (kI fun r6 μ6 hp6 => ?_) kN
        obtain ⟨rfl, rfl⟩ := hp6
        rw [show MIX [1, (nI (PW (cl (g 4)) (211 + 307 * e))).toInt, (PW (NAME a) (211 + 307 * e) : Nat)] = HKT e a g from by rw [PW_i]; rfl]
        refine h_ist_6 C dX8_takeHello_109 ct_i ?_
        refine h_al_g C dX8_takeHello_111 rfl rfl rfv_r ?_
        refine h_iload_w C dX8_takeHello_112 rfl ?_
        refine h_callV1 (ci := 3) C (k_X2_isRightBy Z.l Z.G _ KLET p g hg.L (by decide) _ _ rfl (MIX_lt _)) cw_X8_300 im_X2_isRightBy sl_X2_isRightBy rfl (by decide) hg.k dX8_takeHello_114 (by first | decide | exact Nat.le_of_ble_eq_true rfl) (by decide) (by decide) (by decide) (by decide) (kB (fun μ7 hp7 => ?_) (fun μ7 hp7 => ?_)) kN
        · obtain ⟨rfl, hRt⟩ := hp7
          refine h_if_ne (tgt := 123) C dX8_takeHello_117 (by decide) (fun c3 => ?_) (fun c3 => absurd c3 (by decide))
          refine h_al_g C dX8_takeHello_123 rfl rfl rfv_r ?_
          refine h_iconst (v := 3) C dX8_takeHello_124 (by decide) ?_
          refine h_callV1 (ci := 3) C (k_X2_fld Z.l Z.G _ p fp 3 3 (g 6) rfl (by decide) hg.k hg.f99 hg.kf hg.ln (hg.at (i := 3) (by decide))) cw_X8_203 im_X2_fieldAt sl_X2_fieldAt rfl (by decide) hg.k dX8_takeHello_125 (by first | decide | exact Nat.le_of_ble_eq_true rfl) (by decide) (by decide) (by decide) (by decide) (kI fun r8 μ8 hp8 => ?_) kN
          obtain ⟨rfl, rfl⟩ := hp8
          refine h_al_w (j := 0) C dX8_takeHello_128 rfl rfv_r ?_
          refine gf_X8_247 C dX8_takeHello_130 (CRep.kL hC (by assumption) (by assumption)) (CRep.f137 hC (by assumption) (by assumption)) ?_
          refine h_icmp_gt (tgt := 139) C dX8_takeHello_133 (by decide) (fun c4 => ?_) (fun c4 => ?_)
          · refine h_al_w (j := 0) C dX8_takeHello_139 rfl rfv_r ?_
            refine h_al_g C dX8_takeHello_141 rfl rfl rfv_r ?_
            refine h_iconst (v := 3) C dX8_takeHello_142 (by decide) ?_
            refine h_callV1 (ci := 3) C (k_X2_fld Z.l Z.G _ p fp 3 3 (g 6) rfl (by decide) hg.k hg.f99 hg.kf hg.ln (hg.at (i := 3) (by decide))) cw_X8_203 im_X2_fieldAt sl_X2_fieldAt rfl (by decide) hg.k dX8_takeHello_143 (by first | decide | exact Nat.le_of_ble_eq_true rfl) (by decide) (by decide) (by decide) (by decide) (kI fun r9 μ9 hp9 => ?_) kN
            obtain ⟨rfl, rfl⟩ := hp9
            refine pf_X8_247 C dX8_takeHello_146 (CRep.kL hC (by assumption) (by assumption)) ?_
            have hT1 := CKo.s137 hC he ha (g 6)
            refine h_abs (fun ma ea => ?_)
            have ea2 : ma = μ.sfi 137 (P (16 + 3 * e + a)) (g 6) := ea
            rw [← ea2] at hT1
            have hC := hT1.C
            have hg := hg0.kl hT1.2
            refine h_al_w (j := 0) C dX8_takeHello_149 rfl rfv_r ?_
            refine h_al_g C dX8_takeHello_151 rfl rfl rfv_r ?_
            refine gf_X8_214 C dX8_takeHello_152 hg.k hg.L.f100 ?_
            refine pf_X8_221 C dX8_takeHello_155 (CRep.kL hC (by assumption) (by assumption)) ?_
            have hT2 := hT1.tr (CKo.s132 hC he ha (g 0))
            refine h_abs (fun mb eb => ?_)
            have eb2 : mb = ma.sfi 132 (P (16 + 3 * e + a)) (g 0) := eb
            rw [← eb2] at hT2
            have hC := hT2.C
            have hg := hg0.kl hT2.2
            refine h_al_g C dX8_takeHello_158 rfl rfl rfv_r ?_
            refine h_al_g C dX8_takeHello_159 rfl rfl rfv_r ?_
            refine h_al_w (j := 0) C dX8_takeHello_160 rfl rfv_r ?_
            refine h_al_g C dX8_takeHello_162 rfl rfl rfv_r ?_
            refine h_iload_w C dX8_takeHello_163 rfl ?_
            refine h_callV4 (ci := 8) C (k_X8_sendReply Z.l Z.G P _ _ hC e a he ha hN p fp g hg (HKT e a g) (MIX_lt _) hX hX2) cw_X8_435 im_X8_sendReply sl_X8_sendReply rfl (by decide) (CRep.kX hC) dX8_takeHello_165 (by first | decide | exact Nat.le_of_ble_eq_true rfl) (by decide) (by decide) (by decide) (by decide) (kV fun μ10 hp10 => ?_) kN
            have hRp := hp10
            refine h_iconst (v := 3) C dX8_takeHello_168 (by decide) ?_
            refine h_iret C E dX8_takeHello_169 (by decide) (by decide) ?_
            refine ⟨_, rfl, ?_, ?_⟩
            · unfold THc; rw [if_neg (fun h => h hbe), if_neg hnl, if_neg (fun h => h hRt), if_neg (fun h => absurd c4 (Int32.not_lt.mpr h))]
            · unfold THs; rw [if_neg (fun h => h hbe), if_neg hnl, if_neg (fun h => h hRt), if_neg (fun h => absurd c4 (Int32.not_lt.mpr h))]; exact hT2.tr hRp
          · refine h_bipush (v := (-6)) C dX8_takeHello_136 (by decide) ?_
            refine h_iret C E dX8_takeHello_138 (by decide) (by decide) ?_
            refine ⟨_, rfl, ?_, ?_⟩
            · unfold THc; rw [if_neg (fun h => h hbe), if_neg hnl, if_neg (fun h => h hRt), if_pos (Int32.not_lt.mp c4)]
            · unfold THs; rw [if_neg (fun h => h hbe), if_neg hnl, if_neg (fun h => h hRt), if_pos (Int32.not_lt.mp c4)]; exact CKo.rf hC
        · obtain ⟨rfl, hRt⟩ := hp7
          refine h_if_ne (tgt := 123) C dX8_takeHello_117 (by decide) (fun c5 => absurd c5 (by decide)) (fun c5 => ?_)
          refine h_bipush (v := (-2)) C dX8_takeHello_120 (by decide) ?_
          refine h_iret C E dX8_takeHello_122 (by decide) (by decide) ?_
          refine ⟨_, rfl, ?_, ?_⟩
          · unfold THc; rw [if_neg (fun h => h hbe), if_neg hnl, if_pos hRt]
          · unfold THs; rw [if_neg (fun h => h hbe), if_neg hnl, if_pos hRt]; exact CKo.rf hC
      · refine h_al_g C dX8_takeHello_63 rfl rfl rfv_r ?_
        refine h_iconst (v := 5) C dX8_takeHello_64 (by decide) ?_
        refine h_callV1 (ci := 3) C (k_X2_fld Z.l Z.G _ p fp 5 5 (g 8) rfl (by decide) hg.k hg.f99 hg.kf hg.ln (hg.at (i := 5) (by decide))) cw_X8_203 im_X2_fieldAt sl_X2_fieldAt rfl (by decide) hg.k dX8_takeHello_65 (by first | decide | exact Nat.le_of_ble_eq_true rfl) (by decide) (by decide) (by decide) (by decide) (kI fun r11 μ11 hp11 => ?_) kN
        obtain ⟨rfl, rfl⟩ := hp11
        refine h_iconst (v := 2) C dX8_takeHello_68 (by decide) ?_
        refine h_iload_w C dX8_takeHello_69 rfl ?_
        refine h_al_g C dX8_takeHello_71 rfl rfl rfv_r ?_
        refine h_callV0 (ci := 3) (a_ := .null) C (k_X2_tag Z.l Z.G _ KLET p g hg.L (by decide)) cw_X8_416 im_X2_tag sl_X2_tag rfl (by decide) hg.k dX8_takeHello_72 (by first | decide | exact Nat.le_of_ble_eq_true rfl) (by decide) (by decide) (by decide) (by decide) (kI fun r12 μ12 hp12 => ?_) kN
        obtain ⟨rfl, rfl⟩ := hp12
        refine h_callS3 C (k_X4_mix Z.l Z.G _ _ _ _) cw_X8_394 st_X4_mix dX8_takeHello_75 (by first | decide | exact Nat.le_of_ble_eq_true rfl) (by decide) (by decide) (by decide) (by decide) (kI fun r13 μ13 hp13 => ?_) kN
        obtain ⟨rfl, rfl⟩ := hp13
        rw [show MIX [(2 : Int32).toInt, (nI (CKE S e g)).toInt, (TAGR g).toInt] = MIX [2, (CKE S e g : Int), (TAGR g).toInt] from by rw [show (nI (CKE S e g)).toInt = (CKE S e g : Int) from MIX_i _]; rfl]
        refine h_icmp_eq (tgt := 92) C dX8_takeHello_78 (by decide) (fun c3 => ?_) (fun c3 => ?_)
        · have hnl : ¬ (¬ S.ef 1 e = 0 ∧ ¬ g 8 = nI (MIX [2, (CKE S e g : Int), (TAGR g).toInt])) := fun h => h.2 c3
          refine h_al_w (j := 0) C dX8_takeHello_92 rfl rfv_r ?_
          refine h_al_g C dX8_takeHello_94 rfl rfl rfv_r ?_
          refine h_iconst (v := 1) C dX8_takeHello_95 (by decide) ?_
          refine h_callV1 (ci := 3) C (k_X2_fld Z.l Z.G _ p fp 1 1 (g 4) rfl (by decide) hg.k hg.f99 hg.kf hg.ln (hg.at (i := 1) (by decide))) cw_X8_203 im_X2_fieldAt sl_X2_fieldAt rfl (by decide) hg.k dX8_takeHello_96 (by first | decide | exact Nat.le_of_ble_eq_true rfl) (by decide) (by decide) (by decide) (by decide) (kI fun r14 μ14 hp14 => ?_) kN
          obtain ⟨rfl, rfl⟩ := hp14
          refine h_al_g C dX8_takeHello_99 rfl rfl rfv_r ?_
          refine gf_X8_413 C dX8_takeHello_100 (CRep.kE hC (by assumption)) (CRep.f33 hC (by assumption)) ?_
          refine h_callS2 C (k_X4_power Z.l Z.G _ _ (cl (g 4)) (211 + 307 * e) hX hX2 rfl (by omega) _) cw_X8_274 st_X4_power dX8_takeHello_103 (by first | decide | exact Nat.le_of_ble_eq_true rfl) (by decide) (by decide) (by decide) (by decide) (kI fun r15 μ15 hp15 => ?_) kN
          obtain ⟨rfl, rfl⟩ := hp15
          refine h_callS2 C (k_X8_helloKey Z.l Z.G P S _ hC e a he ha _) cw_X8_387 st_X8_helloKey dX8_takeHello_106 (by first | decide | exact Nat.le_of_ble_eq_true rfl) (by decide) (by decide) (by decide) (by decide) (kI fun r16 μ16 hp16 => ?_) kN
          obtain ⟨rfl, rfl⟩ := hp16
          rw [show MIX [1, (nI (PW (cl (g 4)) (211 + 307 * e))).toInt, (PW (NAME a) (211 + 307 * e) : Nat)] = HKT e a g from by rw [PW_i]; rfl]
          refine h_ist_6 C dX8_takeHello_109 ct_i ?_
          refine h_al_g C dX8_takeHello_111 rfl rfl rfv_r ?_
          refine h_iload_w C dX8_takeHello_112 rfl ?_
          refine h_callV1 (ci := 3) C (k_X2_isRightBy Z.l Z.G _ KLET p g hg.L (by decide) _ _ rfl (MIX_lt _)) cw_X8_300 im_X2_isRightBy sl_X2_isRightBy rfl (by decide) hg.k dX8_takeHello_114 (by first | decide | exact Nat.le_of_ble_eq_true rfl) (by decide) (by decide) (by decide) (by decide) (kB (fun μ17 hp17 => ?_) (fun μ17 hp17 => ?_)) kN
          · obtain ⟨rfl, hRt⟩ := hp17
            refine h_if_ne (tgt := 123) C dX8_takeHello_117 (by decide) (fun c7 => ?_) (fun c7 => absurd c7 (by decide))
            refine h_al_g C dX8_takeHello_123 rfl rfl rfv_r ?_
            refine h_iconst (v := 3) C dX8_takeHello_124 (by decide) ?_
            refine h_callV1 (ci := 3) C (k_X2_fld Z.l Z.G _ p fp 3 3 (g 6) rfl (by decide) hg.k hg.f99 hg.kf hg.ln (hg.at (i := 3) (by decide))) cw_X8_203 im_X2_fieldAt sl_X2_fieldAt rfl (by decide) hg.k dX8_takeHello_125 (by first | decide | exact Nat.le_of_ble_eq_true rfl) (by decide) (by decide) (by decide) (by decide) (kI fun r18 μ18 hp18 => ?_) kN
            obtain ⟨rfl, rfl⟩ := hp18
            refine h_al_w (j := 0) C dX8_takeHello_128 rfl rfv_r ?_
            refine gf_X8_247 C dX8_takeHello_130 (CRep.kL hC (by assumption) (by assumption)) (CRep.f137 hC (by assumption) (by assumption)) ?_
            refine h_icmp_gt (tgt := 139) C dX8_takeHello_133 (by decide) (fun c4 => ?_) (fun c4 => ?_)
            · refine h_al_w (j := 0) C dX8_takeHello_139 rfl rfv_r ?_
              refine h_al_g C dX8_takeHello_141 rfl rfl rfv_r ?_
              refine h_iconst (v := 3) C dX8_takeHello_142 (by decide) ?_
              refine h_callV1 (ci := 3) C (k_X2_fld Z.l Z.G _ p fp 3 3 (g 6) rfl (by decide) hg.k hg.f99 hg.kf hg.ln (hg.at (i := 3) (by decide))) cw_X8_203 im_X2_fieldAt sl_X2_fieldAt rfl (by decide) hg.k dX8_takeHello_143 (by first | decide | exact Nat.le_of_ble_eq_true rfl) (by decide) (by decide) (by decide) (by decide) (kI fun r19 μ19 hp19 => ?_) kN
              obtain ⟨rfl, rfl⟩ := hp19
              refine pf_X8_247 C dX8_takeHello_146 (CRep.kL hC (by assumption) (by assumption)) ?_
              have hT1 := CKo.s137 hC he ha (g 6)
              refine h_abs (fun ma ea => ?_)
              have ea2 : ma = μ.sfi 137 (P (16 + 3 * e + a)) (g 6) := ea
              rw [← ea2] at hT1
              have hC := hT1.C
              have hg := hg0.kl hT1.2
              refine h_al_w (j := 0) C dX8_takeHello_149 rfl rfv_r ?_
              refine h_al_g C dX8_takeHello_151 rfl rfl rfv_r ?_
              refine gf_X8_214 C dX8_takeHello_152 hg.k hg.L.f100 ?_
              refine pf_X8_221 C dX8_takeHello_155 (CRep.kL hC (by assumption) (by assumption)) ?_
              have hT2 := hT1.tr (CKo.s132 hC he ha (g 0))
              refine h_abs (fun mb eb => ?_)
              have eb2 : mb = ma.sfi 132 (P (16 + 3 * e + a)) (g 0) := eb
              rw [← eb2] at hT2
              have hC := hT2.C
              have hg := hg0.kl hT2.2
              refine h_al_g C dX8_takeHello_158 rfl rfl rfv_r ?_
              refine h_al_g C dX8_takeHello_159 rfl rfl rfv_r ?_
              refine h_al_w (j := 0) C dX8_takeHello_160 rfl rfv_r ?_
              refine h_al_g C dX8_takeHello_162 rfl rfl rfv_r ?_
              refine h_iload_w C dX8_takeHello_163 rfl ?_
              refine h_callV4 (ci := 8) C (k_X8_sendReply Z.l Z.G P _ _ hC e a he ha hN p fp g hg (HKT e a g) (MIX_lt _) hX hX2) cw_X8_435 im_X8_sendReply sl_X8_sendReply rfl (by decide) (CRep.kX hC) dX8_takeHello_165 (by first | decide | exact Nat.le_of_ble_eq_true rfl) (by decide) (by decide) (by decide) (by decide) (kV fun μ20 hp20 => ?_) kN
              have hRp := hp20
              refine h_iconst (v := 3) C dX8_takeHello_168 (by decide) ?_
              refine h_iret C E dX8_takeHello_169 (by decide) (by decide) ?_
              refine ⟨_, rfl, ?_, ?_⟩
              · unfold THc; rw [if_neg (fun h => h hbe), if_neg hnl, if_neg (fun h => h hRt), if_neg (fun h => absurd c4 (Int32.not_lt.mpr h))]
              · unfold THs; rw [if_neg (fun h => h hbe), if_neg hnl, if_neg (fun h => h hRt), if_neg (fun h => absurd c4 (Int32.not_lt.mpr h))]; exact hT2.tr hRp
            · refine h_bipush (v := (-6)) C dX8_takeHello_136 (by decide) ?_
              refine h_iret C E dX8_takeHello_138 (by decide) (by decide) ?_
              refine ⟨_, rfl, ?_, ?_⟩
              · unfold THc; rw [if_neg (fun h => h hbe), if_neg hnl, if_neg (fun h => h hRt), if_pos (Int32.not_lt.mp c4)]
              · unfold THs; rw [if_neg (fun h => h hbe), if_neg hnl, if_neg (fun h => h hRt), if_pos (Int32.not_lt.mp c4)]; exact CKo.rf hC
          · obtain ⟨rfl, hRt⟩ := hp17
            refine h_if_ne (tgt := 123) C dX8_takeHello_117 (by decide) (fun c9 => absurd c9 (by decide)) (fun c9 => ?_)
            refine h_bipush (v := (-2)) C dX8_takeHello_120 (by decide) ?_
            refine h_iret C E dX8_takeHello_122 (by decide) (by decide) ?_
            refine ⟨_, rfl, ?_, ?_⟩
            · unfold THc; rw [if_neg (fun h => h hbe), if_neg hnl, if_pos hRt]
            · unfold THs; rw [if_neg (fun h => h hbe), if_neg hnl, if_pos hRt]; exact CKo.rf hC
        · refine h_al_g C dX8_takeHello_81 rfl rfl rfv_r ?_
          refine h_al_g C dX8_takeHello_82 rfl rfl rfv_r ?_
          refine h_al_g C dX8_takeHello_83 rfl rfl rfv_r ?_
          refine h_iload_w C dX8_takeHello_84 rfl ?_
          refine h_callV3 (ci := 8) C (k_X8_sendCookie Z.l Z.G P S _ hC e he p fp g hg _) cw_X8_431 im_X8_sendCookie sl_X8_sendCookie rfl (by decide) (CRep.kX hC) dX8_takeHello_86 (by first | decide | exact Nat.le_of_ble_eq_true rfl) (by decide) (by decide) (by decide) (by decide) (kV fun μ21 hp21 => ?_) kN
          have hCk := hp21
          refine h_bipush (v := (-7)) C dX8_takeHello_89 (by decide) ?_
          refine h_iret C E dX8_takeHello_91 (by decide) (by decide) ?_
          refine ⟨_, rfl, ?_, ?_⟩
          · unfold THc; rw [if_neg (fun h => h hbe), if_pos ⟨c2, c3⟩]
          · unfold THs; rw [if_neg (fun h => h hbe), if_pos ⟨c2, c3⟩]; exact hCk
    · have hbe : ¬ b = e := fun h => c1 (by rw [h])
      refine h_iconst (v := (-1)) C dX8_takeHello_32 (by decide) ?_
      refine h_iret C E dX8_takeHello_33 (by decide) (by decide) ?_
      refine ⟨_, rfl, ?_, ?_⟩
      · unfold THc; rw [if_pos hbe]
      · unfold THs; rw [if_pos hbe]; exact CKo.rf hC

theorem FWN.r {S : Sx} {e b : Nat} {n : Int32} (h : FWN S e n b) : ∃ f, S.fl e b = some f ∧ f 0 = n := h.2.1
def TCc (S : Sx) (e : Nat) (g : Row) (v : Int32) (S9 : Sx) : Prop := ((∀ b, b < 3 → ¬ fIs S e b (g 3)) ∧ v = -1 ∧ S9 = S) ∨ ∃ b f, FWN S e (g 3) b ∧ S.fl e b = some f ∧ ((¬ TAGR g = SEALR (TCK b f) g ∧ v = -2 ∧ S9 = S) ∨ (TAGR g = SEALR (TCK b f) g ∧ v = 3 ∧ S9 = (S.sLf 3 e b (g 4)).sLf 4 e b (S.sc 0)))
set_option maxRecDepth 100000 in
set_option maxHeartbeats 4000000 in
theorem k_X8_takeCookie (l : Launch) (G : Gx) (P : Nat → Nat) (S : Sx) (μ : Mem) (hC : CRep G P S μ) (e : Nat) (he : e < 3) (p fp : Nat) (g : Row) (hg : Got μ p fp g) : Kon l yX8_takeCookie cX8_takeCookie 4 (some .int) 3 0 0 147 G [.ref (P 0), .ref (P (4 + e)), .ref p] μ (pI fun v μ' => ∃ S9, TCc S e g v S9 ∧ CKo G P μ S9 μ') noX := by
  refine Kon.ofG (by decide +kernel) (Nat.le_of_ble_eq_true rfl) (Nat.le_of_ble_eq_true rfl) (fun Z hZG C E NT MT => ?_)
  subst hZG
  have C : Cx Z RX8 cX8_takeCookie 3 0 0 147 := C
  show HW Z 0 0 0 [some (.ref (P 0)), some (.ref (P (4 + e))), some (.ref p), none] [] μ
  have hg0 := hg
  refine h_al_g C dX8_takeCookie_0 rfl rfl rfv_r ?_
  refine h_al_g C dX8_takeCookie_1 rfl rfl rfv_r ?_
  refine h_iconst (v := 0) C dX8_takeCookie_2 (by decide) ?_
  refine h_callV1 (ci := 3) C (k_X2_fld Z.l Z.G _ p fp 0 0 (g 3) rfl (by decide) hg.k hg.f99 hg.kf hg.ln (hg.at (i := 0) (by decide))) cw_X8_203 im_X2_fieldAt sl_X2_fieldAt rfl (by decide) hg.k dX8_takeCookie_3 (by first | decide | exact Nat.le_of_ble_eq_true rfl) (by decide) (by decide) (by decide) (by decide) (kI fun r1 μ1 hp1 => ?_) kN
  obtain ⟨rfl, rfl⟩ := hp1
  refine h_callV1 (ci := 1) C (k_X0_linkWithFlight Z.l Z.G P S _ hC e he _) cw_X8_439 im_X0_linkWithFlight sl_X0_linkWithFlight rfl (by decide) (CRep.kE hC he) dX8_takeCookie_6 (by first | decide | exact Nat.le_of_ble_eq_true rfl) (by decide) (by decide) (by decide) (by decide) (kO (fun μ2 hp2 => ?_) (fun r2 μ2 hp2 => ?_)) kN
  · obtain ⟨rfl, hnF⟩ := hp2
    refine h_ast_3 C dX8_takeCookie_9 ct_r rfv_n ?_
    refine h_al_g C dX8_takeCookie_10 rfl rfl rfv_n ?_
    refine h_ifnull_n (tgt := 21) C dX8_takeCookie_11 (by decide) ?_
    refine h_iconst (v := (-1)) C dX8_takeCookie_21 (by decide) ?_
    refine h_iret C E dX8_takeCookie_22 (by decide) (by decide) ?_
    exact ⟨_, rfl, S, Or.inl ⟨hnF, rfl, rfl⟩, CKo.rf hC⟩
  · obtain ⟨rfl, b, hF, rfl⟩ := hp2
    have hb := hF.1
    obtain ⟨f0, hf0, hf1⟩ := hF.2.1
    have h136 : ∃ s9, μ.fr 136 (P (16 + 3 * e + b)) = some s9 ∧ FlIn μ s9 f0 := by
      rcases CRep.c136 hC he hb with ⟨z1, z2⟩ | ⟨s9, r9, z1, z2, z3⟩
      · rw [hf0] at z2; cases z2
      · rw [hf0] at z2; cases z2; exact ⟨s9, z1, z3⟩
    obtain ⟨s9, e1, hf⟩ := h136
    refine h_ast_3 C dX8_takeCookie_9 ct_r rfv_r ?_
    refine h_al_g C dX8_takeCookie_10 rfl rfl rfv_r ?_
    refine h_ifnull_r C dX8_takeCookie_11 ?_
    refine h_al_g C dX8_takeCookie_14 rfl rfl rfv_r ?_
    refine gs_X8_356 C dX8_takeCookie_15 (CRep.kL hC (by assumption) (by assumption)) e1 ?_
    refine h_ifnonnull_r (tgt := 23) C dX8_takeCookie_18 (by decide) ?_
    refine h_al_g C dX8_takeCookie_23 rfl rfl rfv_r ?_
    refine h_iconst (v := 3) C dX8_takeCookie_24 (by decide) ?_
    refine h_al_g C dX8_takeCookie_25 rfl rfl rfv_r ?_
    refine gf_X8_384 C dX8_takeCookie_26 (CRep.kL hC (by assumption) (by assumption)) (CRep.f129 hC (by assumption) (by assumption)) ?_
    refine h_al_g C dX8_takeCookie_29 rfl rfl rfv_r ?_
    refine gs_X8_356 C dX8_takeCookie_30 (CRep.kL hC (by assumption) (by assumption)) e1 ?_
    refine gf_X8_452 C dX8_takeCookie_33 (FlIn.k hf) (FlIn.f66 hf) ?_
    refine h_callS3 C (k_X4_mix Z.l Z.G _ _ _ _) cw_X8_394 st_X4_mix dX8_takeCookie_36 (by first | decide | exact Nat.le_of_ble_eq_true rfl) (by decide) (by decide) (by decide) (by decide) (kI fun r3 μ3 hp3 => ?_) kN
    obtain ⟨rfl, rfl⟩ := hp3
    rw [show MIX [(3 : Int32).toInt, (nI (NAME b)).toInt, (f0 2).toInt] = TCK b f0 from by rw [NAME_i]; rfl]
    refine h_callV1 (ci := 3) C (k_X2_isRightBy Z.l Z.G _ KLET p g hg.L (by decide) _ _ rfl (MIX_lt _)) cw_X8_300 im_X2_isRightBy sl_X2_isRightBy rfl (by decide) hg.k dX8_takeCookie_39 (by first | decide | exact Nat.le_of_ble_eq_true rfl) (by decide) (by decide) (by decide) (by decide) (kB (fun μ4 hp4 => ?_) (fun μ4 hp4 => ?_)) kN
    · obtain ⟨rfl, hRt⟩ := hp4
      refine h_if_ne (tgt := 48) C dX8_takeCookie_42 (by decide) (fun c1 => ?_) (fun c1 => absurd c1 (by decide))
      refine h_al_g C dX8_takeCookie_48 rfl rfl rfv_r ?_
      refine h_al_g C dX8_takeCookie_49 rfl rfl rfv_r ?_
      refine h_iconst (v := 1) C dX8_takeCookie_50 (by decide) ?_
      refine h_callV1 (ci := 3) C (k_X2_fld Z.l Z.G _ p fp 1 1 (g 4) rfl (by decide) hg.k hg.f99 hg.kf hg.ln (hg.at (i := 1) (by decide))) cw_X8_203 im_X2_fieldAt sl_X2_fieldAt rfl (by decide) hg.k dX8_takeCookie_51 (by first | decide | exact Nat.le_of_ble_eq_true rfl) (by decide) (by decide) (by decide) (by decide) (kI fun r5 μ5 hp5 => ?_) kN
      obtain ⟨rfl, rfl⟩ := hp5
      refine pf_X8_368 C dX8_takeCookie_54 (CRep.kL hC (by assumption) (by assumption)) ?_
      have hT1 := CKo.s139 hC he hb (g 4)
      refine h_abs (fun ma ea => ?_)
      have ea2 : ma = μ.sfi 139 (P (16 + 3 * e + b)) (g 4) := ea
      rw [← ea2] at hT1
      have hC := hT1.C
      refine h_al_g C dX8_takeCookie_57 rfl rfl rfv_r ?_
      refine h_al_g C dX8_takeCookie_58 rfl rfl rfv_r ?_
      refine gf_X8_26 C dX8_takeCookie_59 (CRep.kX hC) (CRep.f259 hC) ?_
      refine pf_X8_365 C dX8_takeCookie_62 (CRep.kL hC (by assumption) (by assumption)) ?_
      have hT2 := hT1.tr (CKo.s140 hC he hb (S.sc 0))
      refine h_iconst (v := 3) C dX8_takeCookie_65 (by decide) ?_
      refine h_iret C E dX8_takeCookie_66 (by decide) (by decide) ?_
      exact ⟨_, rfl, _, Or.inr ⟨b, f0, hF, hf0, Or.inr ⟨hRt, rfl, rfl⟩⟩, hT2⟩
    · obtain ⟨rfl, hRt⟩ := hp4
      refine h_if_ne (tgt := 48) C dX8_takeCookie_42 (by decide) (fun c2 => absurd c2 (by decide)) (fun c2 => ?_)
      refine h_bipush (v := (-2)) C dX8_takeCookie_45 (by decide) ?_
      refine h_iret C E dX8_takeCookie_47 (by decide) (by decide) ?_
      exact ⟨_, rfl, S, Or.inr ⟨b, f0, hF, hf0, Or.inl ⟨hRt, rfl, rfl⟩⟩, CKo.rf hC⟩

set_option maxRecDepth 100000 in
set_option maxHeartbeats 4000000 in
theorem k_X8_bringOut (l : Launch) (G : Gx) (P : Nat → Nat) (S : Sx) (μ : Mem) (hC : CRep G P S μ) (e b : Nat) (he : e < 3) (hb : b < 3) (h512 : (OUT e S.ou).length < 512) (p fp : Nat) (g : Row) (hg : Got μ p fp g) : Kon l yX8_bringOut cX8_bringOut 5 (some .int) 8 2 1004 191 G [.ref (P 0), .ref (P (4 + e)), .ref (P (16 + 3 * e + b)), .ref p] μ (pI fun v μ' => v = BOc S e b g ∧ CTo G P μ (BOs S e b g) μ') noX := by
  refine Kon.ofG (by decide +kernel) (Nat.le_of_ble_eq_true rfl) (Nat.le_of_ble_eq_true rfl) (fun Z hZG C E NT MT => ?_)
  subst hZG
  have C : Cx Z RX8 cX8_bringOut 8 2 1004 191 := C
  show HW Z 0 0 0 [some (.ref (P 0)), some (.ref (P (4 + e))), some (.ref (P (16 + 3 * e + b))), some (.ref p), none] [] μ
  have hg0 := hg
  refine h_al_g C dX8_bringOut_0 rfl rfl rfv_r ?_
  refine h_iconst (v := 2) C dX8_bringOut_1 (by decide) ?_
  refine h_callV1 (ci := 3) C (k_X2_fld Z.l Z.G _ p fp 2 2 (g 5) rfl (by decide) hg.k hg.f99 hg.kf hg.ln (hg.at (i := 2) (by decide))) cw_X8_203 im_X2_fieldAt sl_X2_fieldAt rfl (by decide) hg.k dX8_bringOut_2 (by first | decide | exact Nat.le_of_ble_eq_true rfl) (by decide) (by decide) (by decide) (by decide) (kI fun r1 μ1 hp1 => ?_) kN
  obtain ⟨rfl, rfl⟩ := hp1
  refine h_ist_4 C dX8_bringOut_5 ct_r ?_
  refine h_iload_w C dX8_bringOut_7 rfl ?_
  refine h_iconst (v := (-1)) C dX8_bringOut_9 (by decide) ?_
  refine h_icmp_ne (tgt := 15) C dX8_bringOut_10 (by decide) (fun c1 => ?_) (fun c1 => ?_)
  · refine h_al_g C dX8_bringOut_15 rfl rfl rfv_r ?_
    refine h_iload_w C dX8_bringOut_16 rfl ?_
    refine h_callV1 (ci := 1) C (k_X0_peerFor Z.l Z.G P S _ hC e he _) cw_X8_115 im_X0_peerFor sl_X0_peerFor rfl (by decide) (CRep.kE hC he) dX8_bringOut_18 (by first | decide | exact Nat.le_of_ble_eq_true rfl) (by decide) (by decide) (by decide) (by decide) (kI fun r2 μ2 hp2 => ?_) kN
    obtain ⟨rfl, rfl⟩ := hp2
    refine h_al_g C dX8_bringOut_21 rfl rfl rfv_r ?_
    refine gf_X8_129 C dX8_bringOut_22 (CRep.kL hC (by assumption) (by assumption)) (CRep.f128 hC (by assumption) (by assumption)) ?_
    refine h_icmp_eq (tgt := 31) C dX8_bringOut_25 (by decide) (fun c2 => ?_) (fun c2 => ?_)
    · refine h_al_g C dX8_bringOut_31 rfl rfl rfv_r ?_
      obtain ⟨xs, hxs, hLR⟩ := hC.ou e he
      have hlen := hLR.1
      refine gs_X8_250 C dX8_bringOut_32 (CRep.kE hC (by assumption)) (CRep.f36 hC (by assumption)) ?_
      refine h_callV0 (ci := 0) (a_ := .null) C (k_Jx4a65c_size_8abf5 Z.l Z.G _ xs _ hxs) cw_X8_86 im_Jx4a65c_size_8abf5 sl_Jx4a65c_size_8abf5 rfl (by decide) hxs.1 dX8_bringOut_35 (by first | decide | exact Nat.le_of_ble_eq_true rfl) (by decide) (by decide) (by decide) (by decide) (kI fun r3 μ3 hp3 => ?_) kN
      obtain ⟨rfl, rfl⟩ := hp3
      refine h_sipush (v := 512) C dX8_bringOut_38 (by decide) ?_
      refine h_icmp_ge (tgt := 75) C dX8_bringOut_41 (by decide) (fun c3 => absurd c3 ((fun h => by rw [Int32.le_iff_toInt_le, nI_toInt (by omega)] at h; have h9 : (512 : Int) ≤ _ := h; omega))) (fun c3 => ?_)
      refine h_al_g C dX8_bringOut_44 rfl rfl rfv_r ?_
      refine gs_X8_250 C dX8_bringOut_45 (CRep.kE hC (by assumption)) (CRep.f36 hC (by assumption)) ?_
      refine nw_X8_127 (6 + 32 * 40) C dX8_bringOut_48 (by decide) (by decide) (by decide) (fun q hq => ?_)
      have hC0 := hC
      have hT1 : CKo Z.G P μ S _ := CKo.float (W := fun k => k = 6 + 32 * 40) hC (FrK.newO hq rfl) (fun k9 e9 => Or.inl (by rw [e9])) (fun k9 e9 => by rw [e9]; decide)
      have hC := hT1.C
      have hg := hg0.kl hT1.2
      refine h_dup C dX8_bringOut_51 rfl ?_
      refine h_al_g C dX8_bringOut_52 rfl rfl rfv_r ?_
      refine gf_X8_129 C dX8_bringOut_53 (CRep.kL hC (by assumption) (by assumption)) (CRep.f128 hC (by assumption) (by assumption)) ?_
      refine h_iload_w C dX8_bringOut_56 rfl ?_
      refine h_al_g C dX8_bringOut_58 rfl rfl rfv_r ?_
      refine h_iconst (v := 3) C dX8_bringOut_59 (by decide) ?_
      refine h_callV1 (ci := 3) C (k_X2_fld Z.l Z.G _ p fp 3 3 (g 6) rfl (by decide) hg.k hg.f99 hg.kf hg.ln (hg.at (i := 3) (by decide))) cw_X8_203 im_X2_fieldAt sl_X2_fieldAt rfl (by decide) hg.k dX8_bringOut_60 (by first | decide | exact Nat.le_of_ble_eq_true rfl) (by decide) (by decide) (by decide) (by decide) (kI fun r4 μ4 hp4 => ?_) kN
      obtain ⟨rfl, rfl⟩ := hp4
      refine h_al_g C dX8_bringOut_63 rfl rfl rfv_r ?_
      refine h_iconst (v := 4) C dX8_bringOut_64 (by decide) ?_
      refine h_callV1 (ci := 3) C (k_X2_fld Z.l Z.G _ p fp 4 4 (g 7) rfl (by decide) hg.k hg.f99 hg.kf hg.ln (hg.at (i := 4) (by decide))) cw_X8_203 im_X2_fieldAt sl_X2_fieldAt rfl (by decide) hg.k dX8_bringOut_65 (by first | decide | exact Nat.le_of_ble_eq_true rfl) (by decide) (by decide) (by decide) (by decide) (kI fun r5 μ5 hp5 => ?_) kN
      obtain ⟨rfl, rfl⟩ := hp5
      refine h_callI4 C (k_X5_init Z.l Z.G q _ _ _ _ _ (by rw [kd_newO])) cw_X8_132 im_X5_init rfl dX8_bringOut_68 (by first | decide | exact Nat.le_of_ble_eq_true rfl) (by decide) (by decide) (by decide) (by decide) (kV fun μ2 hp6 => ?_) kN
      obtain ⟨k2, hf2, s1, s2, s3, s4⟩ := hp6
      rw [kd_newO] at k2 hf2
      have hT2 := hT1.tr (CKo.float hT1.C hf2 (fun k9 e9 => Or.inl (by rw [e9])) (fun k9 e9 => by rw [e9]; decide))
      refine h_skd q KPK (by rw [k2]; decide) (by rw [k2]; decide) ?_
      have hT3 : CKo Z.G P μ S (μ2.skd q KPK) := hT2.tr (CKo.put ⟨CRep.skd hT2.C (by rw [k2] <;> decide) (by rw [k2]; decide) (by rw [k2]; decide) (by rw [k2] <;> decide), FrS.skd (by rw [k2]; decide) (by rw [k2]; exact isC_fl (by decide)) ⟨by decide, Or.inl (by decide)⟩⟩ (fun z hz => same_skd hz) (by rw [k2]; decide))
      have hC := hT3.C
      have hpk : PkAt (μ2.skd q KPK) q (nI b) (g 5) (g 6) (g 7) := ⟨kd_skd, s1, s2, s3, s4⟩
      obtain ⟨ys, hys, hLR2⟩ := hC.ou e he
      have hlen2 := hLR2.1
      have hxy : P (13 + e) = P (13 + e) := rfl
      have hys2 := hys
      refine h_callV1 (ci := 0) C (k_Jx4a65c_add_9ea2d Z.l Z.G _ _ _ _ hys2 (by omega) (Or.inr (Or.inl (by rw [kd_skd]; decide)))) cw_X8_103 im_Jx4a65c_add_9ea2d sl_Jx4a65c_add_9ea2d rfl (by decide) hys2.1 dX8_bringOut_71 (by first | decide | exact Nat.le_of_ble_eq_true rfl) (by decide) (by decide) (by decide) (by decide) (kI fun r7 μ3 hp7 => ?_) kN
      obtain ⟨hl4, hf4⟩ := hp7
      refine h_pop C dX8_bringOut_74 rfl ?_
      refine h_iconst (v := 1) C dX8_bringOut_75 (by decide) ?_
      refine h_iret C E dX8_bringOut_76 (by decide) (by decide) ?_
      have hC4 := CRep.addOu (r := ouR e b g) hC he hLR2 rfl hpk hl4 hf4
      refine ⟨_, rfl, ?_, ?_⟩
      · unfold BOc; rw [if_neg c1, if_pos c2]
      · unfold BOs; rw [if_neg c1, if_pos c2]; exact hT3.1.tr ⟨hC4, hf4.S (LW_isC hC (by omega))⟩
    · refine h_bipush (v := (-5)) C dX8_bringOut_28 (by decide) ?_
      refine h_iret C E dX8_bringOut_30 (by decide) (by decide) ?_
      refine ⟨_, rfl, ?_, ?_⟩
      · unfold BOc; rw [if_neg c1, if_neg c2]
      · unfold BOs; rw [if_neg c1, if_neg c2]; exact CTo.rf hC
  · refine h_iconst (v := 2) C dX8_bringOut_13 (by decide) ?_
    refine h_iret C E dX8_bringOut_14 (by decide) (by decide) ?_
    refine ⟨_, rfl, ?_, ?_⟩
    · unfold BOc; rw [if_pos c1]
    · unfold BOs; rw [if_pos c1]; exact CTo.rf hC

set_option maxRecDepth 100000 in
set_option maxHeartbeats 4000000 in
theorem k_X8_takeReply (l : Launch) (G : Gx) (P : Nat → Nat) (S : Sx) (μ : Mem) (hC : CRep G P S μ) (e : Nat) (he : e < 3) (hoF : okF S e) (hoR : okR S e) (hW4 : ∀ b, b < 3 → (S.wt e b).length ≤ 4) (p fp : Nat) (g : Row) (hg : Got μ p fp g) (hY : g 5 = nI (cl (g 5))) (hY2 : cl (g 5) < 2039) : Kon l yX8_takeReply cX8_takeReply 10 (some .int) 11 13 4066 264 G [.ref (P 0), .ref (P (4 + e)), .ref p] μ (pI fun v μ' => ∃ S9, TRc S e g v S9 ∧ CKo G P μ S9 μ') noX := by
  refine Kon.ofG (by decide +kernel) (Nat.le_of_ble_eq_true rfl) (Nat.le_of_ble_eq_true rfl) (fun Z hZG C E NT MT => ?_)
  subst hZG
  have C : Cx Z RX8 cX8_takeReply 11 13 4066 264 := C
  show HW Z 0 0 0 [some (.ref (P 0)), some (.ref (P (4 + e))), some (.ref p), none, none, none, none, none, none, none] [] μ
  have hg0 := hg
  refine h_al_g C dX8_takeReply_0 rfl rfl rfv_r ?_
  refine h_al_g C dX8_takeReply_1 rfl rfl rfv_r ?_
  refine h_iconst (v := 1) C dX8_takeReply_2 (by decide) ?_
  refine h_callV1 (ci := 3) C (k_X2_fld Z.l Z.G _ p fp 1 1 (g 4) rfl (by decide) hg.k hg.f99 hg.kf hg.ln (hg.at (i := 1) (by decide))) cw_X8_203 im_X2_fieldAt sl_X2_fieldAt rfl (by decide) hg.k dX8_takeReply_3 (by first | decide | exact Nat.le_of_ble_eq_true rfl) (by decide) (by decide) (by decide) (by decide) (kI fun r1 μ1 hp1 => ?_) kN
  obtain ⟨rfl, rfl⟩ := hp1
  refine h_callV1 (ci := 1) C (k_X0_linkWithFlight Z.l Z.G P S _ hC e he _) cw_X8_439 im_X0_linkWithFlight sl_X0_linkWithFlight rfl (by decide) (CRep.kE hC he) dX8_takeReply_6 (by first | decide | exact Nat.le_of_ble_eq_true rfl) (by decide) (by decide) (by decide) (by decide) (kO (fun μ2 hp2 => ?_) (fun r2 μ2 hp2 => ?_)) kN
  · obtain ⟨rfl, hnF⟩ := hp2
    refine h_ast_3 C dX8_takeReply_9 ct_r rfv_n ?_
    refine h_al_g C dX8_takeReply_10 rfl rfl rfv_n ?_
    refine h_ifnull_n (tgt := 21) C dX8_takeReply_11 (by decide) ?_
    refine h_iconst (v := (-1)) C dX8_takeReply_21 (by decide) ?_
    refine h_iret C E dX8_takeReply_22 (by decide) (by decide) ?_
    exact ⟨_, rfl, S, Or.inl ⟨hnF, rfl, rfl⟩, CKo.rf hC⟩
  · obtain ⟨rfl, b, hF, rfl⟩ := hp2
    have hb := hF.1
    obtain ⟨f0, hf0, hf1⟩ := hF.2.1
    have h136 : ∃ s9, μ.fr 136 (P (16 + 3 * e + b)) = some s9 ∧ FlIn μ s9 f0 := by
      rcases CRep.c136 hC he hb with ⟨z1, z2⟩ | ⟨s9, r9, z1, z2, z3⟩
      · rw [hf0] at z2; cases z2
      · rw [hf0] at z2; cases z2; exact ⟨s9, z1, z3⟩
    obtain ⟨s9, e1, hf⟩ := h136
    have hx1 := hoF b f0 hb hf0
    have hxl := cl_lt (f0 1)
    refine h_ast_3 C dX8_takeReply_9 ct_r rfv_r ?_
    refine h_al_g C dX8_takeReply_10 rfl rfl rfv_r ?_
    refine h_ifnull_r C dX8_takeReply_11 ?_
    refine h_al_g C dX8_takeReply_14 rfl rfl rfv_r ?_
    refine gs_X8_356 C dX8_takeReply_15 (CRep.kL hC (by assumption) (by assumption)) e1 ?_
    refine h_ifnonnull_r (tgt := 23) C dX8_takeReply_18 (by decide) ?_
    refine h_al_g C dX8_takeReply_23 rfl rfl rfv_r ?_
    refine gs_X8_356 C dX8_takeReply_24 (CRep.kL hC (by assumption) (by assumption)) e1 ?_
    refine h_ast_4 C dX8_takeReply_27 ct_r rfv_r ?_
    refine h_al_g C dX8_takeReply_29 rfl rfl rfv_r ?_
    refine h_al_g C dX8_takeReply_30 rfl rfl rfv_r ?_
    refine gf_X8_384 C dX8_takeReply_31 (CRep.kL hC (by assumption) (by assumption)) (CRep.f129 hC (by assumption) (by assumption)) ?_
    refine h_al_w (j := 0) C dX8_takeReply_34 rfl rfv_r ?_
    refine gf_X8_442 C dX8_takeReply_36 (FlIn.k hf) (FlIn.f65 hf) ?_
    refine h_callS2 C (k_X4_power Z.l Z.G _ _ (NAME b) (cl (f0 1)) rfl (NAME_lt b) hx1 hxl _) cw_X8_274 st_X4_power dX8_takeReply_39 (by first | decide | exact Nat.le_of_ble_eq_true rfl) (by decide) (by decide) (by decide) (by decide) (kI fun r3 μ3 hp3 => ?_) kN
    obtain ⟨rfl, rfl⟩ := hp3
    refine h_callS2 C (k_X8_helloKey Z.l Z.G P S _ hC e b he hb _) cw_X8_387 st_X8_helloKey dX8_takeReply_42 (by first | decide | exact Nat.le_of_ble_eq_true rfl) (by decide) (by decide) (by decide) (by decide) (kI fun r4 μ4 hp4 => ?_) kN
    obtain ⟨rfl, rfl⟩ := hp4
    rw [show MIX [1, (nI (PW (NAME b) (cl (f0 1)))).toInt, (PW (NAME b) (211 + 307 * e) : Nat)] = HKY e b (cl (f0 1)) from by rw [PW_i]; rfl]
    refine h_ist_5 C dX8_takeReply_45 ct_r ?_
    refine h_al_g C dX8_takeReply_47 rfl rfl rfv_r ?_
    refine h_iconst (v := 2) C dX8_takeReply_48 (by decide) ?_
    refine h_callV1 (ci := 3) C (k_X2_fld Z.l Z.G _ p fp 2 2 (g 5) rfl (by decide) hg.k hg.f99 hg.kf hg.ln (hg.at (i := 2) (by decide))) cw_X8_203 im_X2_fieldAt sl_X2_fieldAt rfl (by decide) hg.k dX8_takeReply_49 (by first | decide | exact Nat.le_of_ble_eq_true rfl) (by decide) (by decide) (by decide) (by decide) (kI fun r5 μ5 hp5 => ?_) kN
    obtain ⟨rfl, rfl⟩ := hp5
    refine h_al_w (j := 0) C dX8_takeReply_52 rfl rfv_r ?_
    refine gf_X8_442 C dX8_takeReply_54 (FlIn.k hf) (FlIn.f65 hf) ?_
    refine h_callS2 C (k_X4_power Z.l Z.G _ _ (cl (g 5)) (cl (f0 1)) hY hY2 hx1 hxl _) cw_X8_274 st_X4_power dX8_takeReply_57 (by first | decide | exact Nat.le_of_ble_eq_true rfl) (by decide) (by decide) (by decide) (by decide) (kI fun r6 μ6 hp6 => ?_) kN
    obtain ⟨rfl, rfl⟩ := hp6
    refine h_ist_6 C dX8_takeReply_60 ct_i ?_
    refine h_al_g C dX8_takeReply_62 rfl rfl rfv_r ?_
    refine h_iconst (v := 2) C dX8_takeReply_63 (by decide) ?_
    refine h_callV1 (ci := 3) C (k_X2_fld Z.l Z.G _ p fp 2 2 (g 5) rfl (by decide) hg.k hg.f99 hg.kf hg.ln (hg.at (i := 2) (by decide))) cw_X8_203 im_X2_fieldAt sl_X2_fieldAt rfl (by decide) hg.k dX8_takeReply_64 (by first | decide | exact Nat.le_of_ble_eq_true rfl) (by decide) (by decide) (by decide) (by decide) (kI fun r7 μ7 hp7 => ?_) kN
    obtain ⟨rfl, rfl⟩ := hp7
    refine h_al_g C dX8_takeReply_67 rfl rfl rfv_r ?_
    refine gf_X8_413 C dX8_takeReply_68 (CRep.kE hC (by assumption)) (CRep.f33 hC (by assumption)) ?_
    refine h_callS2 C (k_X4_power Z.l Z.G _ _ (cl (g 5)) (211 + 307 * e) hY hY2 rfl (by omega) _) cw_X8_274 st_X4_power dX8_takeReply_71 (by first | decide | exact Nat.le_of_ble_eq_true rfl) (by decide) (by decide) (by decide) (by decide) (kI fun r8 μ8 hp8 => ?_) kN
    obtain ⟨rfl, rfl⟩ := hp8
    refine h_ist_7 C dX8_takeReply_74 ct_i ?_
    refine h_iconst (v := 4) C dX8_takeReply_76 (by decide) ?_
    refine h_iload_w C dX8_takeReply_77 rfl ?_
    refine h_iload_w C dX8_takeReply_79 rfl ?_
    refine h_iload_w C dX8_takeReply_81 rfl ?_
    refine h_callS4 C (k_X4_mixOfFour Z.l Z.G _ _ _ _ _) cw_X8_403 st_X4_mixOfFour dX8_takeReply_83 (by first | decide | exact Nat.le_of_ble_eq_true rfl) (by decide) (by decide) (by decide) (by decide) (kI fun r9 μ9 hp9 => ?_) kN
    obtain ⟨rfl, rfl⟩ := hp9
    rw [show MIX [(4 : Int32).toInt, (nI (HKY e b (cl (f0 1)))).toInt, (nI (PW (cl (g 5)) (cl (f0 1)))).toInt, (nI (PW (cl (g 5)) (211 + 307 * e))).toInt] = TRK e b f0 g from by rw [PW_i, PW_i, show (nI (HKY e b (cl (f0 1)))).toInt = (HKY e b (cl (f0 1)) : Int) from MIX_i _]; rfl]
    refine h_ist_8 C dX8_takeReply_86 ct_i ?_
    refine h_al_g C dX8_takeReply_88 rfl rfl rfv_r ?_
    refine h_iload_w C dX8_takeReply_89 rfl ?_
    refine h_callV1 (ci := 3) C (k_X2_isRightBy Z.l Z.G _ KLET p g hg.L (by decide) _ _ rfl (MIX_lt _)) cw_X8_300 im_X2_isRightBy sl_X2_isRightBy rfl (by decide) hg.k dX8_takeReply_91 (by first | decide | exact Nat.le_of_ble_eq_true rfl) (by decide) (by decide) (by decide) (by decide) (kB (fun μ10 hp10 => ?_) (fun μ10 hp10 => ?_)) kN
    · obtain ⟨rfl, hRt⟩ := hp10
      refine h_if_ne (tgt := 100) C dX8_takeReply_94 (by decide) (fun c1 => ?_) (fun c1 => absurd c1 (by decide))
      refine nw_X8_346 (8 + 32 * 40) C dX8_takeReply_100 (by decide) (by decide) (by decide) (fun q2 hq2 => ?_)
      have hsf : SameAt μ (μ.newO q2 (8 + 32 * 40)) s9 := same_newO (ne_of_new hq2 (by rw [hf.1]; decide))
      have hT3 : CKo Z.G P μ S _ := CKo.float (W := fun k => k = 8 + 32 * 40) hC (FrK.newO hq2 rfl) (fun k9 e9 => Or.inl (by rw [e9])) (fun k9 e9 => by rw [e9]; decide)
      have hC := hT3.C
      have hg := hg0.kl hT3.2
      have h64 : (μ.newO q2 (8 + 32 * 40)).fi 64 s9 = f0 0 := (hsf.2.1 64).trans hf.f64
      have hk64 : (μ.newO q2 (8 + 32 * 40)).kd s9 % 32 = 3 := by rw [hsf.1]; exact hf.k
      refine h_dup C dX8_takeReply_103 rfl ?_
      refine h_al_w (j := 0) C dX8_takeReply_104 rfl rfv_r ?_
      refine gf_X8_443 C dX8_takeReply_106 hk64 h64 ?_
      refine h_al_g C dX8_takeReply_109 rfl rfl rfv_r ?_
      refine h_iconst (v := 0) C dX8_takeReply_110 (by decide) ?_
      refine h_callV1 (ci := 3) C (k_X2_fld Z.l Z.G _ p fp 0 0 (g 3) rfl (by decide) hg.k hg.f99 hg.kf hg.ln (hg.at (i := 0) (by decide))) cw_X8_203 im_X2_fieldAt sl_X2_fieldAt rfl (by decide) hg.k dX8_takeReply_111 (by first | decide | exact Nat.le_of_ble_eq_true rfl) (by decide) (by decide) (by decide) (by decide) (kI fun r11 μ11 hp11 => ?_) kN
      obtain ⟨rfl, rfl⟩ := hp11
      refine h_al_g C dX8_takeReply_114 rfl rfl rfv_r ?_
      refine gf_X8_26 C dX8_takeReply_115 (CRep.kX hC) (CRep.f259 hC) ?_
      refine h_iconst (v := 1) C dX8_takeReply_118 (by decide) ?_
      refine h_iload_w C dX8_takeReply_119 rfl ?_
      refine h_callI5 C (k_X7_init1 Z.l Z.G q2 _ _ _ (TRK e b f0 g) _ (by rw [kd_newO]) (MIX_lt _)) cw_X8_407 im_X7_init rfl dX8_takeReply_121 (by first | decide | exact Nat.le_of_ble_eq_true rfl) (by decide) (by decide) (by decide) (by decide) (kV fun mb2 hp12 => ?_) kN
      obtain ⟨k2, hf2, s4, s5, s6, s7, s8, s10, s0, t1, t2, t3⟩ := hp12
      rw [kd_newO] at k2 hf2
      have hT6 := hT3.tr (CKo.float hT3.C hf2 (fun k9 e9 => Or.inl (by rw [e9])) (fun k9 e9 => by rw [e9]; decide))
      have hC := hT6.C
      have hQ0 : SesAt mb2 (8 + 32 * 40) (some q2) (some (TRSes S e b f0 g)) := Or.inr ⟨q2, _, rfl, rfl, k2, s4, s5, s6, s7, s8, s10, s0, t1, t2, t3⟩
      refine h_ast_9 C dX8_takeReply_124 ct_i rfv_r ?_
      refine h_al_g C dX8_takeReply_126 rfl rfl rfv_r ?_
      refine h_null C dX8_takeReply_127 ?_
      refine pf_X8_356 none C dX8_takeReply_128 (CRep.kL hC he hb) rfl ?_
      have hT7 := hT6.tr (CKo.s136 hC he hb none none (Or.inl ⟨rfl, rfl⟩))
      refine h_abs (fun mc ec => ?_)
      have ec2 : mc = mb2.sfr 136 (P (16 + 3 * e + b)) none := ec
      rw [← ec2] at hT7
      have hC := hT7.C
      have hg := hg0.kl hT7.2
      have hQ1 : SesAt mc (8 + 32 * 40) (some q2) (some (TRSes S e b f0 g)) := hQ0.to (fun z _ => by rw [ec2]; rfl) (by rw [ec2]; rfl) (by rw [ec2]; rfl)
      refine h_al_g C dX8_takeReply_131 rfl rfl rfv_r ?_
      refine h_al_g C dX8_takeReply_132 rfl rfl rfv_r ?_
      refine gf_X8_214 C dX8_takeReply_133 hg.k hg.L.f100 ?_
      refine pf_X8_221 C dX8_takeReply_136 (CRep.kL hC (by assumption) (by assumption)) ?_
      have hT8 : CKo Z.G P μ ((S.sFl e b none).sLf 0 e b (g 0)) _ := hT7.tr (CKo.s132 hC he hb (g 0))
      refine h_abs (fun md ed => ?_)
      have ed2 : md = mc.sfi 132 (P (16 + 3 * e + b)) (g 0) := ed
      rw [← ed2] at hT8
      have hC := hT8.C
      have hqL : q2 ≠ P (16 + 3 * e + b) := fun z => by have h1 := hC.kL he hb; rw [← z, (kd_sfi' ed2), hQ1.kd] at h1; exact absurd h1 (by decide)
      have hQ2 : SesAt md (8 + 32 * 40) (some q2) (some (TRSes S e b f0 g)) := by
        rcases hQ1 with ⟨z, -⟩ | ⟨s8, r8, z1, z2, z3, z4⟩
        · cases z
        · cases z1
          refine Or.inr ⟨q2, r8, rfl, z2, (kd_sfi' ed2).trans z3, ?_⟩
          obtain ⟨y1, y2, y3, y4, y5, y6, y7, y8, y9, y0⟩ := z4
          exact ⟨(fi_ap ed2 (Or.inr hqL)).trans y1, (fi_ap ed2 (Or.inr hqL)).trans y2, (fi_ap ed2 (Or.inr hqL)).trans y3, (fi_ap ed2 (Or.inr hqL)).trans y4, (fi_ap ed2 (Or.inr hqL)).trans y5, (fi_ap ed2 (Or.inr hqL)).trans y6, (fi_ap ed2 (Or.inr hqL)).trans y7, (fi_ap ed2 (Or.inr hqL)).trans y8, (fi_ap ed2 (Or.inr hqL)).trans y9, (congrFun (congrFun (fl_i ed2) _) _).trans y0⟩
      have kL9 : md.kd (P (16 + 3 * e + b)) % 32 = 5 := hC.kL he hb
      obtain ⟨o, ho⟩ : ∃ o, md.fr 134 (P (16 + 3 * e + b)) = o := ⟨_, rfl⟩
      have m1k : SesAt md (KSES e b 1) o (S.ses e b 1) := by rw [← ho]; exact hC.2.2.2.2.2.2.2.2.2.1.at he hb (w := 1) (by decide)
      refine h_al_g C dX8_takeReply_139 rfl rfl rfv_r ?_
      refine h_al_g C dX8_takeReply_140 rfl rfl rfv_r ?_
      refine gf_X8_289 C dX8_takeReply_141 kL9 ho ?_
      refine pf_X8_446 _ C dX8_takeReply_144 kL9 rfl ?_
      refine h_abs (fun mf ef => ?_)
      have kL8 : mf.kd (P (16 + 3 * e + b)) % 32 = 5 := by rw [kd_sfr' ef]; exact kL9
      refine h_al_g C dX8_takeReply_147 rfl rfl rfv_r ?_
      refine h_al_w (j := 0) C dX8_takeReply_148 rfl rfv_r ?_
      refine pf_X8_289 (some _) C dX8_takeReply_150 kL8 rfl ?_
      refine h_abs (fun mg eg => ?_)
      refine h_kds (fun z => if z = q2 then KSES e b 1 else if o = some z then KSES e b 0 else md.kd z) (fun z => ?_) ?_
      · have e9 : mg.kd z = md.kd z := by rw [eg, ef]; rfl
        rw [e9]
        by_cases c : z = q2
        · rw [if_pos c, c]; exact ⟨by rw [KSES_m, hQ2.kd], fun _ => by rw [hQ2.kd]; decide⟩
        · rw [if_neg c]
          by_cases c2 : o = some z
          · rw [if_pos c2, m1k.mark c2, KSES_m, KSES_m]; exact ⟨rfl, fun _ => by unfold KSES; omega⟩
          · rw [if_neg c2]; exact ⟨rfl, fun h => h⟩
      refine h_abs (fun mz ez => ?_)
      have hT9 : CKo Z.G P μ (TRB S e b f0 g) mz := hT8.tr (CKo.begin hC he hb hQ2 ho ef eg ez)
      have hC := hT9.C
      obtain ⟨xs, hxs, hLR⟩ := hC.wt e b he hb
      have hlen : xs.length = (S.wt e b).length := hLR.1
      have hsc : SesCur P mz e b 1 q2 (TRSes S e b f0 g) := by
        have h9 := hC.2.2.2.2.2.2.2.2.2.1.at he hb (w := 1) (by decide)
        have h8 : SL P mz e b 1 = some q2 := by show mz.fr 134 (P (16 + 3 * e + b)) = some q2; rw [ez]; exact (beg_fr ef eg 134 _).trans (if_pos ⟨rfl, rfl⟩)
        rw [h8, show (TRB S e b f0 g).ses e b 1 = some (TRSes S e b f0 g) from ses_at] at h9
        exact ⟨SesAt.in h9, h8, hC.1 _ (by omega)⟩
      refine h_al_g C dX8_takeReply_153 rfl rfl rfv_r ?_
      refine gs_X8_237 C dX8_takeReply_154 (CRep.kL hC (by assumption) (by assumption)) (CRep.f131 hC (by assumption) (by assumption)) ?_
      refine h_callV0 (ci := 0) (a_ := .null) C (k_Jx4a65c_isEmpty_aae02 Z.l Z.G _ xs _ hxs) cw_X8_425 im_Jx4a65c_isEmpty_aae02 sl_Jx4a65c_isEmpty_aae02 rfl (by decide) hxs.1 dX8_takeReply_157 (by first | decide | exact Nat.le_of_ble_eq_true rfl) (by decide) (by decide) (by decide) (by decide) (kI fun r13 μ12 hp13 => ?_) kN
      obtain ⟨rfl, rfl⟩ := hp13
      refine h_if_eq (tgt := 177) C dX8_takeReply_160 (by decide) (fun cE => ?_) (fun cE => ?_)
      · have hE : ¬ (S.wt e b).length = 0 := fun h => by rw [if_pos (hlen.trans h)] at cE; exact absurd cE (by decide)
        refine h_al_g C dX8_takeReply_177 rfl rfl rfv_r ?_
        refine h_al_g C dX8_takeReply_178 rfl rfl rfv_r ?_
        refine h_al_g C dX8_takeReply_179 rfl rfl rfv_r ?_
        refine h_callV2 (ci := 8) C (k_X8_sendWaiting Z.l Z.G P _ _ hC e b he hb (hW4 b hb) (fun r9 h9 => by rw [show (TRB S e b f0 g).ses e b 1 = some (TRSes S e b f0 g) from ses_at] at h9; cases h9; exact ⟨_, MIX_lt _, rfl⟩)) cw_X8_449 im_X8_sendWaiting sl_X8_sendWaiting rfl (by decide) (CRep.kX hC) dX8_takeReply_180 (by first | decide | exact Nat.le_of_ble_eq_true rfl) (by decide) (by decide) (by decide) (by decide) (kV fun μ13 hp14 => ?_) kN
        have hD := hp14
        refine h_iconst (v := 3) C dX8_takeReply_183 (by decide) ?_
        refine h_iret C E dX8_takeReply_184 (by decide) (by decide) ?_
        exact ⟨_, rfl, _, Or.inr ⟨b, f0, hF, hf0, Or.inr ⟨hRt, rfl, rfl⟩⟩, by unfold TRS; rw [if_neg hE]; exact hT9.tr hD⟩
      · have hE : (S.wt e b).length = 0 := hlen.symm.trans (Decidable.byContradiction fun h => cE (if_neg h))
        refine h_al_g C dX8_takeReply_163 rfl rfl rfv_r ?_
        refine h_al_g C dX8_takeReply_164 rfl rfl rfv_r ?_
        refine h_al_g C dX8_takeReply_165 rfl rfl rfv_r ?_
        refine h_al_w (j := 0) C dX8_takeReply_166 rfl rfv_r ?_
        refine h_iconst (v := (-1)) C dX8_takeReply_168 (by decide) ?_
        refine h_iconst (v := (-1)) C dX8_takeReply_169 (by decide) ?_
        refine h_iconst (v := (-1)) C dX8_takeReply_170 (by decide) ?_
        refine h_callV6 (ci := 8) C (k_X8_sendData Z.l Z.G P _ _ hC e b he hb q2 (TRSes S e b f0 g) hsc ses_at (MIX [5, (TRK e b f0 g : Int), 0]) rfl (MIX_lt _) (-1) (-1) (-1)) cw_X8_143 im_X8_sendData sl_X8_sendData rfl (by decide) (CRep.kX hC) dX8_takeReply_171 (by first | decide | exact Nat.le_of_ble_eq_true rfl) (by decide) (by decide) (by decide) (by decide) (kV fun μ14 hp15 => ?_) kN
        obtain ⟨hD, _⟩ := hp15
        refine h_goto (tgt := 183) C dX8_takeReply_174 (by decide) ?_
        refine h_iconst (v := 3) C dX8_takeReply_183 (by decide) ?_
        refine h_iret C E dX8_takeReply_184 (by decide) (by decide) ?_
        exact ⟨_, rfl, _, Or.inr ⟨b, f0, hF, hf0, Or.inr ⟨hRt, rfl, rfl⟩⟩, by unfold TRS; rw [if_pos hE]; exact hT9.tr hD⟩
    · obtain ⟨rfl, hRt⟩ := hp10
      refine h_if_ne (tgt := 100) C dX8_takeReply_94 (by decide) (fun c3 => absurd c3 (by decide)) (fun c3 => ?_)
      refine h_bipush (v := (-2)) C dX8_takeReply_97 (by decide) ?_
      refine h_iret C E dX8_takeReply_99 (by decide) (by decide) ?_
      exact ⟨_, rfl, S, Or.inr ⟨b, f0, hF, hf0, Or.inl ⟨hRt, rfl, rfl⟩⟩, CKo.rf hC⟩

set_option maxRecDepth 100000 in
set_option maxHeartbeats 4000000 in
theorem k_X8_takeData (l : Launch) (G : Gx) (P : Nat → Nat) (S : Sx) (μ : Mem) (hC : CRep G P S μ) (e : Nat) (he : e < 3) (hoR : okR S e) (hW4 : ∀ b, b < 3 → (S.wt e b).length ≤ 4) (h512 : (OUT e S.ou).length < 512) (p fp : Nat) (g : Row) (hg : Got μ p fp g) (hk4 : TPn (g 2) = 5) : Kon l yX8_takeData cX8_takeData 5 (some .int) 11 14 5060 264 G [.ref (P 0), .ref (P (4 + e)), .ref p] μ (pI fun v μ' => ∃ S9, TDc S e g v S9 ∧ CTo G P μ S9 μ') noX := by
  refine Kon.ofG (by decide +kernel) (Nat.le_of_ble_eq_true rfl) (Nat.le_of_ble_eq_true rfl) (fun Z hZG C E NT MT => ?_)
  subst hZG
  have C : Cx Z RX8 cX8_takeData 11 14 5060 264 := C
  show HW Z 0 0 0 [some (.ref (P 0)), some (.ref (P (4 + e))), some (.ref p), none, none] [] μ
  have hg0 := hg
  refine h_al_g C dX8_takeData_0 rfl rfl rfv_r ?_
  refine h_al_g C dX8_takeData_1 rfl rfl rfv_r ?_
  refine h_iconst (v := 0) C dX8_takeData_2 (by decide) ?_
  refine h_callV1 (ci := 3) C (k_X2_fld Z.l Z.G _ p fp 0 0 (g 3) rfl (by decide) hg.k hg.f99 hg.kf hg.ln (hg.at (i := 0) (by decide))) cw_X8_203 im_X2_fieldAt sl_X2_fieldAt rfl (by decide) hg.k dX8_takeData_3 (by first | decide | exact Nat.le_of_ble_eq_true rfl) (by decide) (by decide) (by decide) (by decide) (kI fun r1 μ1 hp1 => ?_) kN
  obtain ⟨rfl, rfl⟩ := hp1
  refine h_callV1 (ci := 1) C (k_X0_linkWithSession Z.l Z.G P S _ hC e he _) cw_X8_454 im_X0_linkWithSession sl_X0_linkWithSession rfl (by decide) (CRep.kE hC he) dX8_takeData_6 (by first | decide | exact Nat.le_of_ble_eq_true rfl) (by decide) (by decide) (by decide) (by decide) (kO (fun μ2 hp2 => ?_) (fun r2 μ2 hp2 => ?_)) kN
  · obtain ⟨rfl, hnS⟩ := hp2
    refine h_ast_3 C dX8_takeData_9 ct_r rfv_n ?_
    refine h_al_g C dX8_takeData_10 rfl rfl rfv_n ?_
    refine h_ifnonnull_n C dX8_takeData_11 ?_
    refine h_null C dX8_takeData_14 ?_
    refine h_goto (tgt := 27) C dX8_takeData_15 (by decide) ?_
    refine h_ast_4 C dX8_takeData_27 ct_u rfv_n ?_
    refine h_al_w (j := 0) C dX8_takeData_29 rfl rfv_n ?_
    refine h_ifnonnull_n C dX8_takeData_31 ?_
    refine h_iconst (v := (-1)) C dX8_takeData_34 (by decide) ?_
    refine h_iret C E dX8_takeData_35 (by decide) (by decide) ?_
    exact ⟨_, rfl, S, Or.inl ⟨hnS, rfl, rfl⟩, CTo.rf hC⟩
  · obtain ⟨rfl, b, hL, rfl⟩ := hp2
    have hb := hL.1
    refine h_ast_3 C dX8_takeData_9 ct_r rfv_r ?_
    refine h_al_g C dX8_takeData_10 rfl rfl rfv_r ?_
    refine h_ifnonnull_r (tgt := 18) C dX8_takeData_11 (by decide) ?_
    refine h_al_g C dX8_takeData_18 rfl rfl rfv_r ?_
    refine h_al_g C dX8_takeData_19 rfl rfl rfv_r ?_
    refine h_iconst (v := 0) C dX8_takeData_20 (by decide) ?_
    refine h_callV1 (ci := 3) C (k_X2_fld Z.l Z.G _ p fp 0 0 (g 3) rfl (by decide) hg.k hg.f99 hg.kf hg.ln (hg.at (i := 0) (by decide))) cw_X8_203 im_X2_fieldAt sl_X2_fieldAt rfl (by decide) hg.k dX8_takeData_21 (by first | decide | exact Nat.le_of_ble_eq_true rfl) (by decide) (by decide) (by decide) (by decide) (kI fun r3 μ3 hp3 => ?_) kN
    obtain ⟨rfl, rfl⟩ := hp3
    refine h_callV1 (ci := 4) C (k_X3_sessionWith Z.l Z.G P S _ hC e b he hb _) cw_X8_457 im_X3_sessionWith sl_X3_sessionWith rfl (by decide) (CRep.kL hC he hb) dX8_takeData_24 (by first | decide | exact Nat.le_of_ble_eq_true rfl) (by decide) (by decide) (by decide) (by decide) (kO (fun μ4 hp4 => ?_) (fun s μ4 hp4 => ?_)) kN
    · obtain ⟨rfl, hnW⟩ := hp4
      exact absurd hL.2.1 (fun ⟨w, h1, h2⟩ => hnW w h1 h2)
    · obtain ⟨rfl, w, r, hWn, hr, hsl, hs⟩ := hp4
      have hw := hWn.1
      obtain ⟨⟨K, hK, hK3⟩, K2, hK2, hK4⟩ := hoR b w r hb hw hr
      have eK2 : cl (r.1 4) = K2 := by rw [hK4]; exact cl_of (by omega)
      refine h_ast_4 C dX8_takeData_27 ct_r rfv_r ?_
      refine h_al_w (j := 0) C dX8_takeData_29 rfl rfv_r ?_
      refine h_ifnonnull_r (tgt := 36) C dX8_takeData_31 (by decide) ?_
      refine h_al_g C dX8_takeData_36 rfl rfl rfv_r ?_
      refine h_al_w (j := 0) C dX8_takeData_37 rfl rfv_r ?_
      refine h_callV1 (ci := 8) C (k_X8_ageOf Z.l Z.G P S _ hC _ _ _ _ _ hs) cw_X8_293 im_X8_ageOf sl_X8_ageOf rfl (by decide) (CRep.kX hC) dX8_takeData_39 (by first | decide | exact Nat.le_of_ble_eq_true rfl) (by decide) (by decide) (by decide) (by decide) (kI fun r4 μ5 hp5 => ?_) kN
      obtain ⟨rfl, rfl⟩ := hp5
      refine h_bipush (v := 30) C dX8_takeData_42 (by decide) ?_
      refine h_icmp_lt (tgt := 50) C dX8_takeData_44 (by decide) (fun c1 => ?_) (fun c1 => ?_)
      · have h30 : ¬ 30 ≤ S.sc 0 - r.1 2 := Int32.not_le.mpr c1
        refine h_al_g C dX8_takeData_50 rfl rfl rfv_r ?_
        refine h_al_w (j := 0) C dX8_takeData_51 rfl rfv_r ?_
        refine gf_X8_460 C dX8_takeData_53 (SesIn.k hs) (SesIn.f229 hs) ?_
        refine h_callV1 (ci := 3) C (k_X2_isRightBy Z.l Z.G _ KLET p g hg.L (by decide) _ K2 hK4 hK2) cw_X8_300 im_X2_isRightBy sl_X2_isRightBy rfl (by decide) hg.k dX8_takeData_56 (by first | decide | exact Nat.le_of_ble_eq_true rfl) (by decide) (by decide) (by decide) (by decide) (kB (fun μ6 hp6 => ?_) (fun μ6 hp6 => ?_)) kN
        · obtain ⟨rfl, hRt⟩ := hp6
          rw [← eK2] at hRt
          refine h_if_ne (tgt := 65) C dX8_takeData_59 (by decide) (fun c2 => ?_) (fun c2 => absurd c2 (by decide))
          refine h_al_w (j := 0) C dX8_takeData_65 rfl rfv_r ?_
          refine h_al_g C dX8_takeData_67 rfl rfl rfv_r ?_
          refine h_iconst (v := 1) C dX8_takeData_68 (by decide) ?_
          refine h_callV1 (ci := 3) C (k_X2_fld Z.l Z.G _ p fp 1 1 (g 4) rfl (by decide) hg.k hg.f99 hg.kf hg.ln (hg.at (i := 1) (by decide))) cw_X8_203 im_X2_fieldAt sl_X2_fieldAt rfl (by decide) hg.k dX8_takeData_69 (by first | decide | exact Nat.le_of_ble_eq_true rfl) (by decide) (by decide) (by decide) (by decide) (kI fun r6 μ7 hp7 => ?_) kN
          obtain ⟨rfl, rfl⟩ := hp7
          refine h_callV1 (ci := 7) C (k_X7_canTake Z.l Z.G _ _ _ _ _ _ hs _) cw_X8_463 im_X7_canTake sl_X7_canTake rfl (by decide) (SesIn.k hs) dX8_takeData_72 (by first | decide | exact Nat.le_of_ble_eq_true rfl) (by decide) (by decide) (by decide) (by decide) (kB (fun μ8 hp8 => ?_) (fun μ8 hp8 => ?_)) kN
          · obtain ⟨rfl, hCt⟩ := hp8
            refine h_if_ne (tgt := 81) C dX8_takeData_75 (by decide) (fun c3 => ?_) (fun c3 => absurd c3 (by decide))
            refine h_al_w (j := 0) C dX8_takeData_81 rfl rfv_r ?_
            refine h_al_g C dX8_takeData_83 rfl rfl rfv_r ?_
            refine h_iconst (v := 1) C dX8_takeData_84 (by decide) ?_
            refine h_callV1 (ci := 3) C (k_X2_fld Z.l Z.G _ p fp 1 1 (g 4) rfl (by decide) hg.k hg.f99 hg.kf hg.ln (hg.at (i := 1) (by decide))) cw_X8_203 im_X2_fieldAt sl_X2_fieldAt rfl (by decide) hg.k dX8_takeData_85 (by first | decide | exact Nat.le_of_ble_eq_true rfl) (by decide) (by decide) (by decide) (by decide) (kI fun r8 μ9 hp9 => ?_) kN
            obtain ⟨rfl, rfl⟩ := hp9
            refine h_callV1 (ci := 7) C (k_X7_take Z.l Z.G P S _ hC e b w s r he hb hw hs hsl hr _) cw_X8_466 im_X7_take sl_X7_take rfl (by decide) (SesIn.k hs) dX8_takeData_88 (by first | decide | exact Nat.le_of_ble_eq_true rfl) (by decide) (by decide) (by decide) (by decide) (kV fun μ1 hp10 => ?_) kN
            obtain ⟨hT1, hfr⟩ := hp10
            have hC := hT1.C
            have hg := hg0.kl hT1.2
            refine h_al_g C dX8_takeData_91 rfl rfl rfv_r ?_
            refine h_al_g C dX8_takeData_92 rfl rfl rfv_r ?_
            refine gf_X8_214 C dX8_takeData_93 hg.k hg.L.f100 ?_
            refine pf_X8_221 C dX8_takeData_96 (CRep.kL hC (by assumption) (by assumption)) ?_
            have hT2 : CKo Z.G P μ (TDT S e b w r g) _ := hT1.tr (CKo.s132 hC he hb (g 0))
            refine h_abs (fun md ed => ?_)
            have ed2 : md = μ1.sfi 132 (P (16 + 3 * e + b)) (g 0) := ed
            rw [← ed2] at hT2
            have hC := hT2.C
            have hg := hg0.kl hT2.2
            have hsl2 : SL P md e b w = some s := by rw [ed2]; show SL P μ1 e b w = some s; unfold SL; rw [hfr]; exact hsl
            have hr2 : (TDT S e b w r g).ses e b w = some (TAKr r (g 4)) := ses_at
            have hS9 := hC.2.2.2.2.2.2.2.2.2.1
            have kL9 : md.kd (P (16 + 3 * e + b)) % 32 = 5 := hC.kL he hb
            obtain ⟨o5, ho5⟩ : ∃ o, md.fr 135 (P (16 + 3 * e + b)) = o := ⟨_, rfl⟩
            have hiff : some s = o5 ↔ w = 2 := ⟨fun h => by
              have m1 := (hS9.at he hb hw).mark hsl2
              have m2 := (hS9.at he hb (w := 2) (by decide)).mark (s := s) (by show md.fr 135 _ = some s; rw [ho5]; exact h.symm)
              exact Decidable.byContradiction fun c => KSES_ne hb hw hb (by decide) (fun z => c z.2.2) (m1.symm.trans m2), fun h => by
              subst h
              exact hsl2.symm.trans ho5⟩
            refine h_al_w (j := 0) C dX8_takeData_99 rfl rfv_r ?_
            refine h_al_g C dX8_takeData_101 rfl rfl rfv_r ?_
            refine gf_X8_410 C dX8_takeData_102 kL9 ho5 ?_
            refine (h_acmp_ne (rx := (some _)) (ry := _) (tgt := 133) C dX8_takeData_105 (by decide) (fun c5 => ?_) (fun c5 => ?_))
            · have hw2 : ¬ w = 2 := fun h => c5 (hiff.mpr h)
              have hT9 : CKo Z.G P μ (TDP S e b w r g) md := by unfold TDP; rw [if_neg hw2]; exact hT2
              have hC := hT9.C
              have hg := hg0.kl hT9.2
              refine h_al_g C dX8_takeData_133 rfl rfl rfv_r ?_
              refine h_al_g C dX8_takeData_134 rfl rfl rfv_r ?_
              refine h_al_g C dX8_takeData_135 rfl rfl rfv_r ?_
              refine h_al_g C dX8_takeData_136 rfl rfl rfv_r ?_
              refine h_callV3 (ci := 8) C (k_X8_bringOut Z.l Z.G P _ _ hC e b he hb (by rw [TDP_ou]; exact h512) p fp g hg) cw_X8_469 im_X8_bringOut sl_X8_bringOut rfl (by decide) (CRep.kX hC) dX8_takeData_137 (by first | decide | exact Nat.le_of_ble_eq_true rfl) (by decide) (by decide) (by decide) (by decide) (kI fun r10 μ10 hp11 => ?_) kN
              obtain ⟨hv, hBo⟩ := hp11
              refine h_iret C E dX8_takeData_140 (by decide) (by decide) ?_
              exact ⟨_, rfl, _, Or.inr ⟨b, _, r, hL, hWn, hr, Or.inr (Or.inr (Or.inr ⟨h30, hRt, hCt, hv, rfl⟩))⟩, hT9.1.tr hBo⟩
            · have hw2 : w = 2 := hiff.mp c5
              subst hw2
              obtain ⟨o, ho⟩ : ∃ o, md.fr 134 (P (16 + 3 * e + b)) = o := ⟨_, rfl⟩
              have m1k : SesAt md (KSES e b 1) o ((TDT S e b 2 r g).ses e b 1) := by rw [← ho]; exact hS9.at he hb (w := 1) (by decide)
              have hkS : md.kd s = KSES e b 2 := (hS9.at he hb (w := 2) (by decide)).mark hsl2
              refine h_al_g C dX8_takeData_108 rfl rfl rfv_r ?_
              refine h_al_g C dX8_takeData_109 rfl rfl rfv_r ?_
              refine gf_X8_289 C dX8_takeData_110 kL9 ho ?_
              refine pf_X8_446 _ C dX8_takeData_113 kL9 rfl ?_
              refine h_abs (fun mf ef => ?_)
              have kL8 : mf.kd (P (16 + 3 * e + b)) % 32 = 5 := by rw [kd_sfr' ef]; exact kL9
              refine h_al_g C dX8_takeData_116 rfl rfl rfv_r ?_
              refine h_al_w (j := 0) C dX8_takeData_117 rfl rfv_r ?_
              refine pf_X8_289 (some _) C dX8_takeData_119 kL8 rfl ?_
              refine h_abs (fun mg eg => ?_)
              have kL7 : mg.kd (P (16 + 3 * e + b)) % 32 = 5 := by rw [kd_sfr' eg]; exact kL8
              refine h_al_g C dX8_takeData_122 rfl rfl rfv_r ?_
              refine h_null C dX8_takeData_123 ?_
              refine pf_X8_410 none C dX8_takeData_124 kL7 rfl ?_
              refine h_abs (fun mh eh => ?_)
              refine h_kds (fun z => if z = s then KSES e b 1 else if o = some z then KSES e b 0 else md.kd z) (fun z => ?_) ?_
              · have e9 : mh.kd z = md.kd z := by rw [eh, eg, ef]; rfl
                rw [e9]
                by_cases c : z = s
                · rw [if_pos c, c]; exact ⟨by rw [KSES_m, hkS, KSES_m], fun _ => by rw [hkS]; unfold KSES; omega⟩
                · rw [if_neg c]
                  by_cases c2 : o = some z
                  · rw [if_pos c2, m1k.mark c2, KSES_m, KSES_m]; exact ⟨rfl, fun _ => by unfold KSES; omega⟩
                  · rw [if_neg c2]; exact ⟨rfl, fun h => h⟩
              refine h_abs (fun mz ez => ?_)
              have hT8 : CKo Z.G P μ (PRO (TDT S e b 2 r g) e b) mz := hT2.tr (CKo.promote hC he hb (show md.fr 135 _ = some s from hsl2) ho ef eg eh ez)
              have hC := hT8.C
              refine h_al_g C dX8_takeData_127 rfl rfl rfv_r ?_
              refine h_al_g C dX8_takeData_128 rfl rfl rfv_r ?_
              refine h_al_g C dX8_takeData_129 rfl rfl rfv_r ?_
              refine h_callV2 (ci := 8) C (k_X8_sendWaiting Z.l Z.G P _ _ hC e b he hb (hW4 b hb) (fun r9 h9 => by rw [show (PRO (TDT S e b 2 r g) e b).ses e b 1 = some (TAKr r (g 4)) from (w3_ne (fun z => absurd z.2.2 (by decide))).trans (w3_eq.trans hr2)] at h9; cases h9; exact ⟨K, hK, (show (TAKr r (g 4)).1 3 = r.1 3 from rfl).trans hK3⟩)) cw_X8_449 im_X8_sendWaiting sl_X8_sendWaiting rfl (by decide) (CRep.kX hC) dX8_takeData_130 (by first | decide | exact Nat.le_of_ble_eq_true rfl) (by decide) (by decide) (by decide) (by decide) (kV fun μ11 hp12 => ?_) kN
              have hD := hp12
              have hT9 : CKo Z.G P μ (TDP S e b 2 r g) μ11 := by unfold TDP; rw [if_pos rfl]; exact hT8.tr hD
              have hC := hT9.C
              have hg := hg0.kl hT9.2
              refine h_al_g C dX8_takeData_133 rfl rfl rfv_r ?_
              refine h_al_g C dX8_takeData_134 rfl rfl rfv_r ?_
              refine h_al_g C dX8_takeData_135 rfl rfl rfv_r ?_
              refine h_al_g C dX8_takeData_136 rfl rfl rfv_r ?_
              refine h_callV3 (ci := 8) C (k_X8_bringOut Z.l Z.G P _ _ hC e b he hb (by rw [TDP_ou]; exact h512) p fp g hg) cw_X8_469 im_X8_bringOut sl_X8_bringOut rfl (by decide) (CRep.kX hC) dX8_takeData_137 (by first | decide | exact Nat.le_of_ble_eq_true rfl) (by decide) (by decide) (by decide) (by decide) (kI fun r12 μ12 hp13 => ?_) kN
              obtain ⟨hv, hBo⟩ := hp13
              refine h_iret C E dX8_takeData_140 (by decide) (by decide) ?_
              exact ⟨_, rfl, _, Or.inr ⟨b, _, r, hL, hWn, hr, Or.inr (Or.inr (Or.inr ⟨h30, hRt, hCt, hv, rfl⟩))⟩, hT9.1.tr hBo⟩
          · obtain ⟨rfl, hCt⟩ := hp8
            refine h_if_ne (tgt := 81) C dX8_takeData_75 (by decide) (fun c5 => absurd c5 (by decide)) (fun c5 => ?_)
            refine h_bipush (v := (-3)) C dX8_takeData_78 (by decide) ?_
            refine h_iret C E dX8_takeData_80 (by decide) (by decide) ?_
            exact ⟨_, rfl, S, Or.inr ⟨b, w, r, hL, hWn, hr, Or.inr (Or.inr (Or.inl ⟨h30, hRt, hCt, rfl, rfl⟩))⟩, CTo.rf hC⟩
        · obtain ⟨rfl, hRt⟩ := hp6
          rw [← eK2] at hRt
          refine h_if_ne (tgt := 65) C dX8_takeData_59 (by decide) (fun c6 => absurd c6 (by decide)) (fun c6 => ?_)
          refine h_bipush (v := (-2)) C dX8_takeData_62 (by decide) ?_
          refine h_iret C E dX8_takeData_64 (by decide) (by decide) ?_
          exact ⟨_, rfl, S, Or.inr ⟨b, w, r, hL, hWn, hr, Or.inr (Or.inl ⟨h30, hRt, rfl, rfl⟩)⟩, CTo.rf hC⟩
      · refine h_bipush (v := (-4)) C dX8_takeData_47 (by decide) ?_
        refine h_iret C E dX8_takeData_49 (by decide) (by decide) ?_
        exact ⟨_, rfl, S, Or.inr ⟨b, w, r, hL, hWn, hr, Or.inl ⟨Int32.not_lt.mp c1, rfl, rfl⟩⟩, CTo.rf hC⟩

end
