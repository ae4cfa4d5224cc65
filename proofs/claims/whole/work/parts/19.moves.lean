section
def Sx.wSes (S : Sx) (v : Nat → Nat → Nat → Option Ses) : Sx := (S.sc, S.ef, S.lf, S.cd, S.fl, v, S.wt, S.rt, S.ou, S.nt)
theorem SesAt.re {μ : Mem} {k k' s : Nat} {v : Option Ses} (h : SesAt μ k (some s) v) : SesAt (μ.skd s k') k' (some s) v := by
  rcases h with ⟨h, -⟩ | ⟨s9, r, e1, e2, hk, h4⟩
  · cases h
  · cases e1
    exact Or.inr ⟨s, r, rfl, e2, kd_skd, h4⟩
theorem SesAt.kd {μ : Mem} {k s : Nat} {v : Option Ses} (h : SesAt μ k (some s) v) : μ.kd s = k := by
  rcases h with ⟨h, -⟩ | ⟨s9, r, e1, e2, hk, h4⟩
  · cases h
  · cases e1
    exact hk
theorem SesAt.to {μ μ' : Mem} {k : Nat} {o : Option Nat} {v : Option Ses} (h : SesAt μ k o v) (h1 : ∀ s, o = some s → μ'.kd s = μ.kd s) (h2 : μ'.fi = μ.fi) (h3 : μ'.fl = μ.fl) : SesAt μ' k o v := by
  rcases h with h | ⟨s, r, e1, e2, hk, h4⟩
  · exact Or.inl h
  · exact Or.inr ⟨s, r, e1, e2, (h1 s e1).trans hk, by rw [h2, h3]; exact h4⟩
/-- only slots and the marks of sessions change -/
theorem CRep.reses {G : Gx} {P : Nat → Nat} {S : Sx} {μ μ' : Mem} {ses' : Nat → Nat → Nat → Option Ses} (h : CRep G P S μ) (hk : ∀ q, μ.kd q % 32 ≠ 8 → μ'.kd q = μ.kd q) (hfi : μ'.fi = μ.fi) (hln : μ'.ln = μ.ln) (hei : μ'.ei = μ.ei) (her : μ'.er = μ.er) (hfr : ∀ f, f ≠ 133 → f ≠ 134 → f ≠ 135 → μ'.fr f = μ.fr f) (hs : cS P μ' ses') : CRep G P (S.wSes ses') μ' := by
  obtain ⟨h1, h2, h3, h4, h5, h6, h7, h8, h9, h10, h11, h12, h13, h14, h15⟩ := h
  have k1 : ∀ j, j < 34 → μ'.kd (P j) = μ.kd (P j) := fun j hj => hk _ (by rw [h1 j hj, KS_m]; split; omega; split; omega; split; omega; split; omega; split; omega; split; omega; split; omega; split <;> omega)
  have kl : ∀ ρ xs, ListAt G μ ρ xs → ListAt G μ' ρ xs := fun ρ xs hl => by
    obtain ⟨a1, a2, a3, a4, b, b1, b2⟩ := hl
    refine ⟨by rw [hk ρ (by omega)]; exact a1, a2, by rw [hfi]; exact a3, fun x hx => by rw [hk x (by have := a4 x hx; omega)]; exact a4 x hx, b, by rw [hfr 1 (by decide) (by decide) (by decide)]; exact b1, ?_⟩
    rcases b2 with b2 | ⟨b2, b3, b4, b5, b6⟩
    · exact Or.inl b2
    · exact Or.inr ⟨(hk b (by rw [b2, LM_m]; decide)).trans b2, by rw [hln]; exact b3, by rw [hln]; exact b4, by rw [hln]; exact b5, fun i x hi => by rw [her]; exact b6 i x hi⟩
  have kp : ∀ p w x y z, PkAt μ p w x y z → PkAt μ' p w x y z := fun p w x y z hp => ⟨(hk p (by rw [hp.1]; decide)).trans hp.1, by rw [hfi]; exact hp.2⟩
  refine ⟨fun j hj => (k1 j hj).trans (h1 j hj), ?_, ?_, ?_, ?_, ?_, ?_, ?_, ?_, hs, fun a b ha hb => ?_, fun a b ha hb => ?_, fun e he => ?_, fun e he => ?_, ?_⟩
  · unfold cX; rw [hfr 256 (by decide) (by decide) (by decide), hfr 257 (by decide) (by decide) (by decide), hfr 258 (by decide) (by decide) (by decide)]; exact h2
  · unfold cT; rw [hfi]; exact h3
  · unfold cA; rw [hln, her]; exact h4
  · unfold cC; rw [hei]; exact h5
  · unfold cE; rw [hfi, hfr 34 (by decide) (by decide) (by decide), hfr 35 (by decide) (by decide) (by decide), hfr 36 (by decide) (by decide) (by decide)]; exact h6
  · unfold cF; rw [hfi]; exact h7
  · unfold cL; rw [hfi, hfr 131 (by decide) (by decide) (by decide)]; exact h8
  · unfold cM; rw [hfi]; exact h9
  · rw [hfr 136 (by decide) (by decide) (by decide)]
    rcases h11 a b ha hb with g | ⟨s, r, e1, e2, hk9, g⟩
    · exact Or.inl g
    · exact Or.inr ⟨s, r, e1, e2, (hk s (by rw [hk9]; decide)).trans hk9, by rw [hfi]; exact g⟩
  · obtain ⟨xs, c1, c2⟩ := h12 a b ha hb
    exact ⟨xs, kl _ _ c1, c2.imp fun p _ r hp => kp _ _ _ _ _ hp⟩
  · obtain ⟨xs, c1, c2, c3⟩ := h13 e he
    exact ⟨xs, kl _ _ c1, c2, c3.imp fun p _ r hp => ⟨(hk p (by rw [hp.1]; unfold KRT; omega)).trans hp.1, by rw [hfi]; exact hp.2⟩⟩
  · obtain ⟨xs, c1, c2⟩ := h14 e he
    exact ⟨xs, kl _ _ c1, c2.imp fun p _ r hp => kp _ _ _ _ _ hp⟩
  · obtain ⟨xs, c1, c2, c3⟩ := h15
    refine ⟨xs, kl _ _ c1, c2, c3.imp fun p _ r hp => ?_⟩
    obtain ⟨hk9, a1, a2, a3, a4, a5, a6, a7, fa, b1, b2, b3, b4⟩ := hp
    refine ⟨(hk p (by rw [hk9]; decide)).trans hk9, by rw [hfi]; exact a1, by rw [hfi]; exact a2, by rw [hfi]; exact a3, by rw [hfi]; exact a4, by rw [hfi]; exact a5, by rw [hfi]; exact a6, by rw [hfi]; exact a7, fa, by rw [hfr 99 (by decide) (by decide) (by decide)]; exact b1, (hk fa (by rw [b2]; unfold FM; omega)).trans b2, by rw [hln]; exact b3, fun i hi => by rw [hei]; exact b4 i hi⟩
/-- the next slot takes a floating session -/
theorem CRep.offer {G : Gx} {P : Nat → Nat} {S : Sx} {μ : Mem} (h : CRep G P S μ) {a b q : Nat} {r : Ses} (ha : a < 3) (hb : b < 3) (hq : SesAt μ (8 + 32 * 40) (some q) (some r)) : CRep G P (S.sSes a b 2 (some r)) ((μ.skd q (KSES a b 2)).sfr 135 (P (16 + 3 * a + b)) (some q)) := by
  have hkq := hq.kd
  refine CRep.reses (S := S) (ses' := w3 S.ses a b 2 (some r)) h (fun q9 h9 => ke_skd (fun e => h9 (by rw [e, hkq]))) rfl rfl rfl rfl (fun f f1 f2 f3 => ?_) (cS.of fun a9 b9 w9 ha9 hb9 hw9 => ?_)
  · funext z
    show u2 μ.fr 135 _ _ f z = _
    unfold u2
    rw [if_neg f3]
  · by_cases c : a9 = a ∧ b9 = b ∧ w9 = 2
    · obtain ⟨rfl, rfl, rfl⟩ := c
      rw [w3_eq]
      show SesAt _ _ (u2 μ.fr 135 _ _ 135 _) _
      rw [u2_eq]
      exact (hq.re (k' := KSES a9 b9 2)).to (fun _ _ => rfl) rfl rfl
    · rw [w3_ne c]
      have m := h.2.2.2.2.2.2.2.2.2.1.at ha9 hb9 hw9
      have e : SL P ((μ.skd q (KSES a b 2)).sfr 135 (P (16 + 3 * a + b)) (some q)) a9 b9 w9 = SL P μ a9 b9 w9 := by
        unfold SL
        by_cases c0 : w9 = 0
        · rw [if_pos c0, if_pos c0]; rfl
        · rw [if_neg c0, if_neg c0]
          by_cases c1 : w9 = 1
          · rw [if_pos c1, if_pos c1]; rfl
          · rw [if_neg c1, if_neg c1]
            exact (fr_ap rfl (Or.inr (h.1.inj (i := 16 + 3 * a9 + b9) (j := 16 + 3 * a + b) (by omega) (by omega) (by omega)))).trans rfl
      rw [e]
      exact (m.skd (a := q) (k := KSES a b 2) (fun z => by rw [hkq] at z; unfold KSES at z; omega)).to (fun _ _ => rfl) rfl rfl

theorem SesAt.via {μ μ' : Mem} {k k' : Nat} {o : Option Nat} {v : Option Ses} (h : SesAt μ k o v) (h1 : ∀ s, o = some s → μ'.kd s = k') (h2 : μ'.fi = μ.fi) (h3 : μ'.fl = μ.fl) : SesAt μ' k' o v := by
  rcases h with h | ⟨s, r, e1, e2, hk, h4⟩
  · exact Or.inl h
  · exact Or.inr ⟨s, r, e1, e2, h1 s e1, by rw [h2, h3]; exact h4⟩
theorem SesAt.mark {μ : Mem} {k s : Nat} {o : Option Nat} {v : Option Ses} (h : SesAt μ k o v) (ho : o = some s) : μ.kd s = k := by
  subst ho
  exact h.kd
section
variable {G : Gx} {P : Nat → Nat} {S : Sx} {μ μ' : Mem}
/-- slots of the link (a, b) and marks of sessions change -/
theorem CRep.slots (h : CRep G P S μ) {a b : Nat} (ha : a < 3) (hb : b < 3) {ses' : Nat → Nat → Nat → Option Ses} (hkd : ∀ q, μ.kd q % 32 ≠ 8 → μ'.kd q = μ.kd q) (hfi : μ'.fi = μ.fi) (hfl : μ'.fl = μ.fl) (hln : μ'.ln = μ.ln) (hei : μ'.ei = μ.ei) (her : μ'.er = μ.er) (hfr : ∀ f z, (f ≠ 133 ∧ f ≠ 134 ∧ f ≠ 135) ∨ z ≠ P (16 + 3 * a + b) → μ'.fr f z = μ.fr f z)
    (hm : ∀ s a9 b9 w9, a9 < 3 → b9 < 3 → w9 < 3 → μ.kd s = KSES a9 b9 w9 → ¬ (a9 = a ∧ b9 = b) → μ'.kd s = μ.kd s) (ho : ∀ a9 b9 w9, ¬ (a9 = a ∧ b9 = b) → ses' a9 b9 w9 = S.ses a9 b9 w9)
    (h0 : SesAt μ' (KSES a b 0) (μ'.fr 133 (P (16 + 3 * a + b))) (ses' a b 0)) (h1 : SesAt μ' (KSES a b 1) (μ'.fr 134 (P (16 + 3 * a + b))) (ses' a b 1)) (h2 : SesAt μ' (KSES a b 2) (μ'.fr 135 (P (16 + 3 * a + b))) (ses' a b 2)) : CRep G P (S.wSes ses') μ' := by
  refine h.reses hkd hfi hln hei her (fun f f1 f2 f3 => funext fun z => hfr f z (Or.inl ⟨f1, f2, f3⟩)) (fun a9 b9 ha9 hb9 => ?_)
  by_cases c : a9 = a ∧ b9 = b
  · obtain ⟨rfl, rfl⟩ := c
    exact ⟨h0, h1, h2⟩
  · have hne : P (16 + 3 * a9 + b9) ≠ P (16 + 3 * a + b) := h.1.inj (by omega) (by omega) (by omega)
    have hS := h.2.2.2.2.2.2.2.2.2.1
    have key : ∀ w9, w9 < 3 → SesAt μ' (KSES a9 b9 w9) (SL P μ a9 b9 w9) (ses' a9 b9 w9) := fun w9 hw9 => by
      rw [ho a9 b9 w9 c]
      have m := hS.at ha9 hb9 hw9
      exact m.via (fun s e => (hm s a9 b9 w9 ha9 hb9 hw9 (m.mark e) c).trans (m.mark e)) hfi hfl
    rw [hfr 133 _ (Or.inr hne), hfr 134 _ (Or.inr hne), hfr 135 _ (Or.inr hne)]
    exact ⟨key 0 (by decide), key 1 (by decide), key 2 (by decide)⟩
theorem KSES_m (a b w : Nat) : KSES a b w % 32 = 8 := by unfold KSES; omega
/-- CURRENT becomes PREVIOUS, a floating session CURRENT -/
theorem CRep.begin (h : CRep G P S μ) {a b q : Nat} {r : Ses} {o : Option Nat} (ha : a < 3) (hb : b < 3) (hq : SesAt μ (8 + 32 * 40) (some q) (some r)) (ho : μ.fr 134 (P (16 + 3 * a + b)) = o)
    (hkd : ∀ z, μ'.kd z = if z = q then KSES a b 1 else if o = some z then KSES a b 0 else μ.kd z) (hfi : μ'.fi = μ.fi) (hfl : μ'.fl = μ.fl) (hln : μ'.ln = μ.ln) (hei : μ'.ei = μ.ei) (her : μ'.er = μ.er) (hfr : ∀ f z, μ'.fr f z = if z = P (16 + 3 * a + b) ∧ f = 134 then some q else if z = P (16 + 3 * a + b) ∧ f = 133 then o else μ.fr f z) : CRep G P ((S.sSes a b 0 (S.ses a b 1)).sSes a b 1 (some r)) μ' := by
  have hS := h.2.2.2.2.2.2.2.2.2.1
  have hkq := hq.kd
  have m1 : SesAt μ (KSES a b 1) o (S.ses a b 1) := by rw [← ho]; exact hS.at ha hb (w := 1) (by decide)
  have m2 : SesAt μ (KSES a b 2) (SL P μ a b 2) (S.ses a b 2) := hS.at ha hb (by decide)
  have qne : ∀ s a9 b9 w9, μ.kd s = KSES a9 b9 w9 → s ≠ q := fun s a9 b9 w9 e1 e => by rw [e, hkq] at e1; unfold KSES at e1; omega
  refine CRep.slots (ses' := w3 (w3 S.ses a b 0 (S.ses a b 1)) a b 1 (some r)) h ha hb (fun z hz => ?_) hfi hfl hln hei her (fun f z hz => ?_) (fun s a9 b9 w9 ha9 hb9 hw9 e c => ?_) (fun a9 b9 w9 c => ?_) ?_ ?_ ?_
  · rw [hkd z, if_neg (fun e => hz (by rw [e, hkq])), if_neg (fun e => hz (by rw [m1.mark e, KSES_m]))]
  · rw [hfr f z, if_neg (fun e => hz.elim (fun k => k.2.1 e.2) (fun k => k e.1)), if_neg (fun e => hz.elim (fun k => k.1 e.2) (fun k => k e.1))]
  · rw [hkd s, if_neg (qne s _ _ _ e), if_neg (fun z => KSES_ne hb9 hw9 hb (by decide) (fun k => c ⟨k.1, k.2.1⟩) (e.symm.trans (m1.mark z)))]
  · rw [w3_ne (fun k => c ⟨k.1, k.2.1⟩), w3_ne (fun k => c ⟨k.1, k.2.1⟩)]
  · rw [w3_ne (fun k => absurd k.2.2 (by decide)), w3_eq, hfr, if_neg (fun k => absurd k.2 (by decide)), if_pos ⟨rfl, rfl⟩]
    exact m1.via (fun s e => by rw [hkd s, if_neg (qne s _ _ _ (m1.mark e)), if_pos e]) hfi hfl
  · rw [w3_eq, hfr, if_pos ⟨rfl, rfl⟩]
    exact hq.via (fun s e => by cases e; rw [hkd q, if_pos rfl]) hfi hfl
  · rw [w3_ne (fun k => absurd k.2.2 (by decide)), w3_ne (fun k => absurd k.2.2 (by decide)), hfr, if_neg (fun k => absurd k.2 (by decide)), if_neg (fun k => absurd k.2 (by decide))]
    exact m2.via (fun s e => by rw [hkd s, if_neg (qne s _ _ _ (m2.mark e)), if_neg (fun z => KSES_ne hb (by decide) hb (by decide) (fun k => absurd k.2.2 (by decide)) ((m2.mark e).symm.trans (m1.mark z))), m2.mark e]) hfi hfl
/-- CURRENT becomes PREVIOUS, NEXT becomes CURRENT -/
theorem CRep.promote (h : CRep G P S μ) {a b q : Nat} {o : Option Nat} (ha : a < 3) (hb : b < 3) (hq : μ.fr 135 (P (16 + 3 * a + b)) = some q) (ho : μ.fr 134 (P (16 + 3 * a + b)) = o)
    (hkd : ∀ z, μ'.kd z = if z = q then KSES a b 1 else if o = some z then KSES a b 0 else μ.kd z) (hfi : μ'.fi = μ.fi) (hfl : μ'.fl = μ.fl) (hln : μ'.ln = μ.ln) (hei : μ'.ei = μ.ei) (her : μ'.er = μ.er) (hfr : ∀ f z, μ'.fr f z = if z = P (16 + 3 * a + b) ∧ f = 135 then none else if z = P (16 + 3 * a + b) ∧ f = 134 then some q else if z = P (16 + 3 * a + b) ∧ f = 133 then o else μ.fr f z) : CRep G P (((S.sSes a b 0 (S.ses a b 1)).sSes a b 1 (S.ses a b 2)).sSes a b 2 none) μ' := by
  have hS := h.2.2.2.2.2.2.2.2.2.1
  have m1 : SesAt μ (KSES a b 1) o (S.ses a b 1) := by rw [← ho]; exact hS.at ha hb (w := 1) (by decide)
  have m2 : SesAt μ (KSES a b 2) (some q) (S.ses a b 2) := by rw [← hq]; exact hS.at ha hb (w := 2) (by decide)
  have hkq := m2.kd
  have qne : ∀ s a9 b9 w9, b9 < 3 → w9 < 3 → μ.kd s = KSES a9 b9 w9 → ¬ (a9 = a ∧ b9 = b ∧ w9 = 2) → s ≠ q := fun s a9 b9 w9 hb9 hw9 e1 c e => by rw [e, hkq] at e1; exact KSES_ne hb9 hw9 hb (by decide) c e1.symm
  refine CRep.slots (ses' := w3 (w3 (w3 S.ses a b 0 (S.ses a b 1)) a b 1 (S.ses a b 2)) a b 2 none) h ha hb (fun z hz => ?_) hfi hfl hln hei her (fun f z hz => ?_) (fun s a9 b9 w9 ha9 hb9 hw9 e c => ?_) (fun a9 b9 w9 c => ?_) ?_ ?_ ?_
  · rw [hkd z, if_neg (fun e => hz (by rw [e, hkq, KSES_m])), if_neg (fun e => hz (by rw [m1.mark e, KSES_m]))]
  · rw [hfr f z, if_neg (fun e => hz.elim (fun k => k.2.2 e.2) (fun k => k e.1)), if_neg (fun e => hz.elim (fun k => k.2.1 e.2) (fun k => k e.1)), if_neg (fun e => hz.elim (fun k => k.1 e.2) (fun k => k e.1))]
  · rw [hkd s, if_neg (qne s _ _ _ hb9 hw9 e (fun k => c ⟨k.1, k.2.1⟩)), if_neg (fun z => KSES_ne hb9 hw9 hb (by decide) (fun k => c ⟨k.1, k.2.1⟩) (e.symm.trans (m1.mark z)))]
  · rw [w3_ne (fun k => c ⟨k.1, k.2.1⟩), w3_ne (fun k => c ⟨k.1, k.2.1⟩), w3_ne (fun k => c ⟨k.1, k.2.1⟩)]
  · rw [w3_ne (fun k => absurd k.2.2 (by decide)), w3_ne (fun k => absurd k.2.2 (by decide)), w3_eq, hfr, if_neg (fun k => absurd k.2 (by decide)), if_neg (fun k => absurd k.2 (by decide)), if_pos ⟨rfl, rfl⟩]
    exact m1.via (fun s e => by rw [hkd s, if_neg (qne s _ _ _ hb (by decide) (m1.mark e) (fun k => absurd k.2.2 (by decide))), if_pos e]) hfi hfl
  · rw [w3_ne (fun k => absurd k.2.2 (by decide)), w3_eq, hfr, if_neg (fun k => absurd k.2 (by decide)), if_pos ⟨rfl, rfl⟩]
    exact m2.via (fun s e => by cases e; rw [hkd q, if_pos rfl]) hfi hfl
  · rw [w3_eq, hfr, if_pos ⟨rfl, rfl⟩]
    exact Or.inl ⟨rfl, rfl⟩
/-- a letter of the net is written -/
theorem CRep.setNt (h : CRep G P S μ) {xs : List Nat} (hl : ListAt G μ (P 2) xs) (hn : xs.Nodup) (hx : LR (LeAt μ KLET) xs S.nt) {i p fa : Nat} {r' : Row} (hi : xs[i]? = some p) (hfa : μ.kd fa = FM p) (hs : ∀ q, q ≠ p → q ≠ fa → SameAt μ μ' q) (hkp : μ'.kd p = μ.kd p) (hkf : μ'.kd fa = μ.kd fa) (hp : LeAt μ' KLET p r') : CRep G P (S.sNt (S.nt.set i r')) μ' := by
  have hil := (List.getElem?_eq_some_iff.mp hi).1
  have hkl : μ.kd p = KLET := by
    obtain ⟨j, r, e1, e2, e3⟩ := hx.rk (List.mem_of_getElem? hi)
    exact e3.1
  have hf : FrK (fun k => k = KLET ∨ k = FM p) μ μ' := fun q => by
    by_cases c1 : q = p
    · subst c1
      exact ⟨fun _ => ⟨hkp, fun hw => absurd (Or.inl hkl) hw⟩, fun h0 => Or.inl (hkp.trans h0)⟩
    · by_cases c2 : q = fa
      · subst c2
        exact ⟨fun _ => ⟨hkf, fun hw => absurd (Or.inr hfa) hw⟩, fun h0 => Or.inl (hkf.trans h0)⟩
      · have s := hs q c1 c2
        exact ⟨fun _ => ⟨s.1, fun _ => s⟩, fun h0 => Or.inl (s.1.trans h0)⟩
  have n0 : ∀ k, k / 32 ≠ 41 → (k / 32 < 1000 ∨ k % 32 ≠ 11) → ¬ (k = KLET ∨ k = FM p) := fun k a1 a2 c => by
    rcases c with c | c
    · rw [c] at a1; exact a1 (by decide)
    · rw [c] at a2; unfold FM at a2; omega
  have n1 : ∀ j, j < 34 → ¬ (KS j = KLET ∨ KS j = FM p) := fun j hj => n0 _ (by rw [KS_div]; omega) (Or.inl (by rw [KS_div]; omega))
  have n2 : ∀ ρ, ¬ (LM ρ = KLET ∨ LM ρ = FM p) := fun ρ => n0 _ (by unfold LM; omega) (Or.inr (by rw [LM_m]; decide))
  obtain ⟨h1, h2, h3, h4, h5, h6, h7, h8, h9, h10, h11, h12, h13, h14, -⟩ := h
  refine ⟨h1.kept hf, h2.kept h1 hf (n1 0 (by decide)), h3.kept h1 hf (n1 0 (by decide)), h4.kept h1 hf (n1 1 (by decide)) (Or.inl fun k hk e => n1 3 (by decide) (by rw [← e]; exact hk)) (fun e he => n1 _ (by omega)), h5.kept h1 hf (n1 3 (by decide)), h6.kept h1 hf (fun e he => n1 _ (by omega)), h7.kept h1 hf (fun e he => n1 _ (by omega)), h8.kept h1 hf (fun a b ha hb => n1 _ (by omega)), h9.kept h1 hf (fun a b ha hb => n1 _ (by omega)),
    h10.kept h1 hf (fun a b ha hb => n1 _ (by omega)) (fun a b w ha hb hw => n0 _ (by unfold KSES; omega) (Or.inl (by unfold KSES; omega))), h11.kept h1 hf (fun a b ha hb => n1 _ (by omega)) (n0 _ (by decide) (Or.inl (by decide))), h12.kept h1 hf (fun a b ha hb => n1 _ (by omega)) (fun _ _ _ _ => n2 _) (n0 _ (by decide) (Or.inl (by decide))), h13.kept h1 hf (fun e he => n1 _ (by omega)) (fun _ _ => n2 _) (fun e he => n0 _ (by unfold KRT; omega) (Or.inl (by unfold KRT; omega))), h14.kept h1 hf (fun e he => n1 _ (by omega)) (fun _ _ => n2 _) (n0 _ (by decide) (Or.inl (by decide))),
    xs, hl.kept hf (by rw [h1 2 (by decide)]; exact n1 2 (by decide)) (n2 _), hn, by show xs.length = (S.nt.set i r').length; rw [List.length_set]; exact hx.1, fun j q r e1 e2 => ?_⟩
  by_cases c : j = i
  · subst c
    rw [hi] at e1
    cases e1
    have e3 : (S.nt.set j r')[j]? = some r' := by rw [List.getElem?_set, if_pos rfl, if_pos (by rw [← hx.1]; exact hil)]
    cases e3.symm.trans e2
    exact hp
  · have e3 : S.nt[j]? = some r := by
      have : (S.nt.set i r')[j]? = S.nt[j]? := by rw [List.getElem?_set, if_neg (Ne.symm c)]
      rw [← this]
      exact e2
    have hq := hx.2 j q r e1 e3
    have hqp : q ≠ p := fun e => by
      subst e
      exact c ((List.getElem?_inj (List.getElem?_eq_some_iff.mp e1).1 hn).mp (e1.trans hi.symm))
    obtain ⟨b0, a1, a2, a3, a4, a5, a6, a7, f9, b1, b2, b3, b4⟩ := hq
    have hff : f9 ≠ fa := fun e => by rw [e, hfa] at b2; unfold FM at b2; omega
    obtain ⟨s1, s2, s3, -⟩ := hs q hqp (fun e => by rw [e, hfa] at b0; have b9 : 11 + 32 * (1000 + p) = 4 + 32 * 41 := b0; omega)
    obtain ⟨t1, -, -, -, t5, t6, -⟩ := hs f9 (fun e => by rw [e, hkl] at b2; have b9 : 4 + 32 * 41 = 11 + 32 * (1000 + q) := b2; omega) hff
    exact ⟨by rw [s1]; exact b0, by rw [s2]; exact a1, by rw [s2]; exact a2, by rw [s2]; exact a3, by rw [s2]; exact a4, by rw [s2]; exact a5, by rw [s2]; exact a6, by rw [s2]; exact a7, f9, by rw [s3]; exact b1, by rw [t1]; exact b2, by rw [t5]; exact b3, fun i hi => by rw [t6]; exact b4 i hi⟩
/-- a route of a table is written -/
theorem CRep.setRt (h : CRep G P S μ) {e : Nat} (he : e < 3) {xs : List Nat} (hl : ListAt G μ (P (10 + e)) xs) (hn : xs.Nodup) (hx : LR (RtAt μ (KRT e)) xs (S.rt e)) {i p : Nat} {r' : Row} (hi : xs[i]? = some p) (hs : ∀ q, q ≠ p → SameAt μ μ' q) (hkp : μ'.kd p = μ.kd p) (hp : RtAt μ' (KRT e) p r') : CRep G P (S.sRt e ((S.rt e).set i r')) μ' := by
  have hil := (List.getElem?_eq_some_iff.mp hi).1
  have hkl : μ.kd p = KRT e := by
    obtain ⟨j, r, e1, e2, e3⟩ := hx.rk (List.mem_of_getElem? hi)
    exact e3.1
  have hf : FrK (fun k => k = KRT e) μ μ' := FrK.at hs hkp hkl
  have n0 : ∀ k, k / 32 ≠ 42 + e → ¬ (k = KRT e) := fun k a1 c => a1 (by rw [c]; unfold KRT; omega)
  have n1 : ∀ j, j < 34 → ¬ (KS j = KRT e) := fun j hj => n0 _ (by rw [KS_div]; omega)
  have n2 : ∀ ρ, ¬ (LM ρ = KRT e) := fun ρ => n0 _ (by unfold LM; omega)
  obtain ⟨h1, h2, h3, h4, h5, h6, h7, h8, h9, h10, h11, h12, h13, h14, h15⟩ := h
  refine ⟨h1.kept hf, h2.kept h1 hf (n1 0 (by decide)), h3.kept h1 hf (n1 0 (by decide)), h4.kept h1 hf (n1 1 (by decide)) (Or.inl fun k hk z => n1 3 (by decide) (by rw [← z]; exact hk)) (fun e he => n1 _ (by omega)), h5.kept h1 hf (n1 3 (by decide)), h6.kept h1 hf (fun e he => n1 _ (by omega)), h7.kept h1 hf (fun e he => n1 _ (by omega)), h8.kept h1 hf (fun a b ha hb => n1 _ (by omega)), h9.kept h1 hf (fun a b ha hb => n1 _ (by omega)),
    h10.kept h1 hf (fun a b ha hb => n1 _ (by omega)) (fun a b w ha hb hw => n0 _ (by unfold KSES; omega)), h11.kept h1 hf (fun a b ha hb => n1 _ (by omega)) (n0 _ (by unfold KFL; omega)), h12.kept h1 hf (fun a b ha hb => n1 _ (by omega)) (fun _ _ _ _ => n2 _) (n0 _ (by unfold KPK; omega)), fun e9 he9 => ?_, h14.kept h1 hf (fun e he => n1 _ (by omega)) (fun _ _ => n2 _) (n0 _ (by unfold KPK; omega)),
    h15.kept h1 hf (n1 2 (by decide)) (n2 _) (n0 _ (by unfold KLET; omega)) (fun q _ => n0 _ (by unfold FM; omega))⟩
  by_cases c : e9 = e
  · subst c
    refine ⟨xs, hl.kept hf (by rw [h1 _ (by omega)]; exact n1 _ (by omega)) (n2 _), hn, ?_, fun j q r e1 e2 => ?_⟩
    · show xs.length = (u1 S.rt e9 ((S.rt e9).set i r') e9).length
      rw [u1_eq, List.length_set]
      exact hx.1
    · rw [show (S.sRt e9 ((S.rt e9).set i r')).rt e9 = (S.rt e9).set i r' from u1_eq] at e2
      by_cases c : j = i
      · subst c
        rw [hi] at e1
        cases e1
        have e3 : ((S.rt e9).set j r')[j]? = some r' := by rw [List.getElem?_set, if_pos rfl, if_pos (by rw [← hx.1]; exact hil)]
        cases e3.symm.trans e2
        exact hp
      · have e3 : (S.rt e9)[j]? = some r := by
          have : ((S.rt e9).set i r')[j]? = (S.rt e9)[j]? := by rw [List.getElem?_set, if_neg (Ne.symm c)]
          rw [← this]
          exact e2
        have hq := hx.2 j q r e1 e3
        have hqp : q ≠ p := fun z => by
          subst z
          exact c ((List.getElem?_inj (List.getElem?_eq_some_iff.mp e1).1 hn).mp (e1.trans hi.symm))
        obtain ⟨b0, a1, a2, a3⟩ := hq
        obtain ⟨s1, s2, -⟩ := hs q hqp
        exact ⟨by rw [s1]; exact b0, by rw [s2]; exact a1, by rw [s2]; exact a2, by rw [s2]; exact a3⟩
  · obtain ⟨ys, g1, g2, g3⟩ := h13 e9 he9
    rw [show (S.sRt e ((S.rt e).set i r')).rt e9 = S.rt e9 from u1_ne c]
    exact ⟨ys, g1.kept hf (by rw [h1 _ (by omega)]; exact n1 _ (by omega)) (n2 _), g2, g3.imp fun p _ r hp => hp.kept hf (by unfold KRT; omega) (n0 _ (by unfold KRT; omega))⟩
/-! the two sides: what a call of the class leaves -/
def CTo (G : Gx) (P : Nat → Nat) (μ : Mem) (S' : Sx) (μ' : Mem) : Prop := CRep G P S' μ' ∧ FrS isC μ μ'
theorem CTo.rf (h : CRep G P S μ) : CTo G P μ S μ := ⟨h, FrS.rf⟩
theorem CTo.tr {S1 S2 : Sx} {μ1 μ2 μ3 : Mem} (h : CTo G P μ1 S1 μ2) (g : CTo G P μ2 S2 μ3) : CTo G P μ1 S2 μ3 := ⟨g.1, h.2.tr g.2⟩
theorem FrS.put {W : Nat → Prop} {a : Nat} (hs : ∀ q, q ≠ a → SameAt μ μ' q) (hk : μ'.kd a = μ.kd a) (hw : W (μ.kd a)) : FrS W μ μ' := (FrK.at (W := fun k => k = μ.kd a) hs hk rfl).S (fun k e => by rw [e]; exact hw)
theorem FrS.sfi {W : Nat → Prop} {f a : Nat} {v : Int32} (hw : W (μ.kd a)) : FrS W μ (μ.sfi f a v) := FrS.put (fun _ h => same_sfi h) rfl hw
theorem FrS.sfr {W : Nat → Prop} {f a : Nat} {v : Option Nat} (hw : W (μ.kd a)) : FrS W μ (μ.sfr f a v) := FrS.put (fun _ h => same_sfr h) rfl hw
theorem FrS.sfl {W : Nat → Prop} {f a : Nat} {v : Int64} (hw : W (μ.kd a)) : FrS W μ (μ.sfl f a v) := FrS.put (fun _ h => same_sfl h) rfl hw
theorem FrS.sei {W : Nat → Prop} {a i : Nat} {v : Int32} (hw : W (μ.kd a)) : FrS W μ (μ.sei a i v) := FrS.put (fun _ h => same_sei h) rfl hw
theorem isC_P (h : cK P μ) {j : Nat} (hj : j < 34) : isC (μ.kd (P j)) := by rw [h j hj]; exact isC_KS j hj
theorem isC_SES {a b w : Nat} (ha : a < 3) (hb : b < 3) (hw : w < 3) : isC (KSES a b w) := ⟨by unfold KSES; omega, Or.inl (by unfold KSES; omega)⟩
theorem isC_fl {k : Nat} (h : k / 32 = 40) : isC k := ⟨by omega, Or.inl (by omega)⟩
/-- floating work -/
theorem CTo.float {W : Nat → Prop} (h : CRep G P S μ) (hf : FrK W μ μ') (hW : ∀ k, W k → Wf μ k) (h0 : ∀ k, W k → k ≠ 0) : CTo G P μ S μ' := ⟨h.kept hf hW, hf.S fun k hk => by
  rcases hW k hk with g | ⟨q, rfl, -⟩
  · exact isC_fl g
  · exact isC_FM q⟩
theorem CTo.s259 (h : CRep G P S μ) (v : Int32) : CTo G P μ (S.sSc 0 v) (μ.sfi 259 (P 0) v) := ⟨h.s259 v, FrS.sfi (isC_P h.1 (by decide))⟩
theorem CTo.s260 (h : CRep G P S μ) (v : Int32) : CTo G P μ (S.sSc 1 v) (μ.sfi 260 (P 0) v) := ⟨h.s260 v, FrS.sfi (isC_P h.1 (by decide))⟩
theorem CTo.s261 (h : CRep G P S μ) (v : Int32) : CTo G P μ (S.sSc 2 v) (μ.sfi 261 (P 0) v) := ⟨h.s261 v, FrS.sfi (isC_P h.1 (by decide))⟩
theorem CTo.s37 (h : CRep G P S μ) {e : Nat} (he : e < 3) (v : Int32) : CTo G P μ (S.sEf 0 e v) (μ.sfi 37 (P (4 + e)) v) := ⟨h.s37 he v, FrS.sfi (isC_P h.1 (by omega))⟩
theorem CTo.s38 (h : CRep G P S μ) {e : Nat} (he : e < 3) (v : Int32) : CTo G P μ (S.sEf 1 e v) (μ.sfi 38 (P (4 + e)) v) := ⟨h.s38 he v, FrS.sfi (isC_P h.1 (by omega))⟩
theorem CTo.s132 (h : CRep G P S μ) {a b : Nat} (ha : a < 3) (hb : b < 3) (v : Int32) : CTo G P μ (S.sLf 0 a b v) (μ.sfi 132 (P (16 + 3 * a + b)) v) := ⟨h.s132 ha hb v, FrS.sfi (isC_P h.1 (by omega))⟩
theorem CTo.s137 (h : CRep G P S μ) {a b : Nat} (ha : a < 3) (hb : b < 3) (v : Int32) : CTo G P μ (S.sLf 1 a b v) (μ.sfi 137 (P (16 + 3 * a + b)) v) := ⟨h.s137 ha hb v, FrS.sfi (isC_P h.1 (by omega))⟩
theorem CTo.s138 (h : CRep G P S μ) {a b : Nat} (ha : a < 3) (hb : b < 3) (v : Int32) : CTo G P μ (S.sLf 2 a b v) (μ.sfi 138 (P (16 + 3 * a + b)) v) := ⟨h.s138 ha hb v, FrS.sfi (isC_P h.1 (by omega))⟩
theorem CTo.s139 (h : CRep G P S μ) {a b : Nat} (ha : a < 3) (hb : b < 3) (v : Int32) : CTo G P μ (S.sLf 3 a b v) (μ.sfi 139 (P (16 + 3 * a + b)) v) := ⟨h.s139 ha hb v, FrS.sfi (isC_P h.1 (by omega))⟩
theorem CTo.s140 (h : CRep G P S μ) {a b : Nat} (ha : a < 3) (hb : b < 3) (v : Int32) : CTo G P μ (S.sLf 4 a b v) (μ.sfi 140 (P (16 + 3 * a + b)) v) := ⟨h.s140 ha hb v, FrS.sfi (isC_P h.1 (by omega))⟩
theorem CTo.s136 (h : CRep G P S μ) {a b : Nat} (ha : a < 3) (hb : b < 3) (o : Option Nat) (v : Option Row) (hv : FlAt μ o v) : CTo G P μ (S.sFl a b v) (μ.sfr 136 (P (16 + 3 * a + b)) o) := ⟨h.s136 ha hb o v hv, FrS.sfr (isC_P h.1 (by omega))⟩
theorem CTo.sC (h : CRep G P S μ) {i : Nat} (hi : i < 11) (v : Int32) : CTo G P μ (S.sCd i v) (μ.sei (P 3) i v) := ⟨h.sC hi v, FrS.sei (isC_P h.1 (by decide))⟩
end
end
