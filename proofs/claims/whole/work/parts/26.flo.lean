section
/-- letters that lie in the net, or were taken out of it, stay -/
def KL (μ μ' : Mem) : Prop := ∀ p, μ.kd p = KLET → SameAt μ μ' p ∧ ∀ fp, μ.kd fp = FM p → SameAt μ μ' fp
def CKo (G : Gx) (P : Nat → Nat) (μ : Mem) (S' : Sx) (μ' : Mem) : Prop := CTo G P μ S' μ' ∧ KL μ μ'
theorem KL.rf {μ : Mem} : KL μ μ := fun p hp => ⟨SameAt.rf, fun fp hf => SameAt.rf⟩
theorem KL.tr {μ1 μ2 μ3 : Mem} (h : KL μ1 μ2) (g : KL μ2 μ3) : KL μ1 μ3 := fun p hp => by
  obtain ⟨h1, h2⟩ := h p hp
  obtain ⟨g1, g2⟩ := g p (h1.1.trans hp)
  exact ⟨h1.tr g1, fun fp hf => (h2 fp hf).tr (g2 fp ((h2 fp hf).1.trans hf))⟩
theorem KL.fr {W : Nat → Prop} {μ μ' : Mem} (hf : FrK W μ μ') (h1 : ¬ W KLET) (h2 : ∀ p, μ.kd p = KLET → ¬ W (FM p)) : KL μ μ' := fun p hp => ⟨hf.st hp (by decide) h1, fun fp hfp => hf.st hfp (by unfold FM; omega) (h2 p hp)⟩
theorem KL.m {μ μ' : Mem} {a : Nat} (hs : ∀ z, z ≠ a → SameAt μ μ' z) (hm : μ.kd a % 32 ≠ 4 ∧ μ.kd a % 32 ≠ 11) : KL μ μ' := fun p hp => ⟨hs p (fun e => hm.1 (by rw [← e, hp]; decide)), fun fp hf => hs fp (fun e => hm.2 (by rw [← e, hf]; unfold FM; omega))⟩
section
variable {G : Gx} {P : Nat → Nat} {S S' : Sx} {μ μ' : Mem}
theorem CKo.C (h : CKo G P μ S μ') : CRep G P S μ' := h.1.1
theorem CKo.rf (h : CRep G P S μ) : CKo G P μ S μ := ⟨CTo.rf h, KL.rf⟩
theorem CKo.tr {S1 S2 : Sx} {μ1 μ2 μ3 : Mem} (h : CKo G P μ1 S1 μ2) (g : CKo G P μ2 S2 μ3) : CKo G P μ1 S2 μ3 := ⟨h.1.tr g.1, h.2.tr g.2⟩
theorem CKo.float {W : Nat → Prop} (h : CRep G P S μ) (hf : FrK W μ μ') (hW : ∀ k, W k → Wf μ k) (h0 : ∀ k, W k → k ≠ 0) : CKo G P μ S μ' := ⟨CTo.float h hf hW h0, KL.fr hf (fun hw => by
  rcases hW _ hw with e | ⟨q, e, -⟩
  · exact absurd e (by decide)
  · have e9 : 4 + 32 * 41 = 11 + 32 * (1000 + q) := e
    omega) (fun p hp hw => by
  rcases hW _ hw with e | ⟨q, e, hn⟩
  · have e9 : (11 + 32 * (1000 + p)) / 32 = 40 := e
    omega
  · have e9 : 11 + 32 * (1000 + p) = 11 + 32 * (1000 + q) := e
    have : p = q := by omega
    exact hn (by rw [← this]; exact hp))⟩
theorem CKo.put (hT : CTo G P μ S' μ') {a : Nat} (hs : ∀ z, z ≠ a → SameAt μ μ' z) (hm : μ.kd a % 32 ≠ 4 ∧ μ.kd a % 32 ≠ 11) : CKo G P μ S' μ' := ⟨hT, KL.m hs hm⟩
theorem mX (h : CRep G P S μ) : μ.kd (P 0) % 32 ≠ 4 ∧ μ.kd (P 0) % 32 ≠ 11 := by rw [h.kX]; decide
theorem mL (h : CRep G P S μ) {a b : Nat} (ha : a < 3) (hb : b < 3) : μ.kd (P (16 + 3 * a + b)) % 32 ≠ 4 ∧ μ.kd (P (16 + 3 * a + b)) % 32 ≠ 11 := by rw [h.kL ha hb]; decide
theorem CKo.s259 (h : CRep G P S μ) (v : Int32) : CKo G P μ (S.sSc 0 v) (μ.sfi 259 (P 0) v) := CKo.put (CTo.s259 h v) (fun z hz => same_sfi hz) (mX h)
theorem CKo.s260 (h : CRep G P S μ) (v : Int32) : CKo G P μ (S.sSc 1 v) (μ.sfi 260 (P 0) v) := CKo.put (CTo.s260 h v) (fun z hz => same_sfi hz) (mX h)
theorem CKo.s261 (h : CRep G P S μ) (v : Int32) : CKo G P μ (S.sSc 2 v) (μ.sfi 261 (P 0) v) := CKo.put (CTo.s261 h v) (fun z hz => same_sfi hz) (mX h)
theorem CKo.s132 (h : CRep G P S μ) {a b : Nat} (ha : a < 3) (hb : b < 3) (v : Int32) : CKo G P μ (S.sLf 0 a b v) (μ.sfi 132 (P (16 + 3 * a + b)) v) := CKo.put (CTo.s132 h ha hb v) (fun z hz => same_sfi hz) (mL h ha hb)
theorem CKo.s137 (h : CRep G P S μ) {a b : Nat} (ha : a < 3) (hb : b < 3) (v : Int32) : CKo G P μ (S.sLf 1 a b v) (μ.sfi 137 (P (16 + 3 * a + b)) v) := CKo.put (CTo.s137 h ha hb v) (fun z hz => same_sfi hz) (mL h ha hb)
theorem CKo.s138 (h : CRep G P S μ) {a b : Nat} (ha : a < 3) (hb : b < 3) (v : Int32) : CKo G P μ (S.sLf 2 a b v) (μ.sfi 138 (P (16 + 3 * a + b)) v) := CKo.put (CTo.s138 h ha hb v) (fun z hz => same_sfi hz) (mL h ha hb)
theorem CKo.s139 (h : CRep G P S μ) {a b : Nat} (ha : a < 3) (hb : b < 3) (v : Int32) : CKo G P μ (S.sLf 3 a b v) (μ.sfi 139 (P (16 + 3 * a + b)) v) := CKo.put (CTo.s139 h ha hb v) (fun z hz => same_sfi hz) (mL h ha hb)
theorem CKo.s140 (h : CRep G P S μ) {a b : Nat} (ha : a < 3) (hb : b < 3) (v : Int32) : CKo G P μ (S.sLf 4 a b v) (μ.sfi 140 (P (16 + 3 * a + b)) v) := CKo.put (CTo.s140 h ha hb v) (fun z hz => same_sfi hz) (mL h ha hb)
theorem CKo.s136 (h : CRep G P S μ) {a b : Nat} (ha : a < 3) (hb : b < 3) (o : Option Nat) (v : Option Row) (hv : FlAt μ o v) : CKo G P μ (S.sFl a b v) (μ.sfr 136 (P (16 + 3 * a + b)) o) := CKo.put (CTo.s136 h ha hb o v hv) (fun z hz => same_sfr hz) (mL h ha hb)
end
/-- a letter that is being made: the class's picture stands beside it -/
def Flo (G : Gx) (P : Nat → Nat) (μ0 : Mem) (S : Sx) (μ : Mem) (q fa : Nat) (r : Row) : Prop := CKo G P μ0 S μ ∧ LeAt μ KFLO q r ∧ μ.fr 99 q = some fa ∧ μ.kd fa = FM q ∧ μ.ln fa = 6
section
variable {G : Gx} {P : Nat → Nat} {S S' : Sx} {μ0 μ μ' : Mem} {q fa : Nat} {r : Row}
theorem Flo.C (h : Flo G P μ0 S μ q fa r) : CRep G P S μ := h.1.1.1
theorem Flo.T (h : Flo G P μ0 S μ q fa r) : CKo G P μ0 S μ := h.1
theorem Flo.L (h : Flo G P μ0 S μ q fa r) : LeAt μ KFLO q r := h.2.1
theorem Flo.k (h : Flo G P μ0 S μ q fa r) : μ.kd q % 32 = 4 := by rw [h.2.1.1]; decide
theorem Flo.kf (h : Flo G P μ0 S μ q fa r) : μ.kd fa % 32 = 11 := by rw [h.2.2.2.1]; unfold FM; omega
theorem Flo.f99 (h : Flo G P μ0 S μ q fa r) : μ.fr 99 q = some fa := h.2.2.1
theorem Flo.inb (h : Flo G P μ0 S μ q fa r) {i : Nat} (hi : i < 6) : vp_in (nI i) (μ.ln fa) := by rw [h.2.2.2.2]; exact vp_in_nI hi (by decide)
theorem Flo.new (h : CKo G P μ0 S μ) (hq : μ.kd q = 0) {r : Row} (hl : LeAt μ' ((μ.newO q KFLO).kd q) q r) (hf : FrK (LeW (μ.newO q KFLO) q) (μ.newO q KFLO) μ') : ∃ fa, Flo G P μ0 S μ' q fa r := by
  rw [kd_newO] at hl
  obtain ⟨fa, g1, g2, g3, -⟩ := hl.2.2.2.2.2.2.2.2
  have h1 : CKo G P μ S (μ.newO q KFLO) := CKo.float (W := fun k => k = KFLO) h.C (FrK.newO hq rfl) (fun k e => Or.inl (by rw [e]; decide)) (fun k e => by rw [e]; decide)
  have hk : (μ.newO q KFLO).kd q = KFLO := kd_newO
  have h2 : CKo G P (μ.newO q KFLO) S μ' := CKo.float h1.C hf (LeW_Wf (by rw [hk]; decide)) (fun k e => (LeW_isC (by rw [hk]; exact isC_fl (by decide)) k e).1)
  exact ⟨fa, (h.tr h1).tr h2, hl, g1, g2, g3⟩
theorem Flo.sei (h : Flo G P μ0 S μ q fa r) {i : Nat} (hi : i < 6) (v : Int32) : Flo G P μ0 S (μ.sei fa i v) q fa (u1 r (3 + i) v) := by
  obtain ⟨h1, h2, h3, h4, h5⟩ := h
  have hkq : μ.kd q = KFLO := h2.1
  exact ⟨h1.tr (CKo.float (W := LeW μ q) h1.C (FrK.sei (Or.inr h4)) (LeW_Wf (by rw [hkq]; decide)) (fun k e => (LeW_isC (by rw [hkq]; exact isC_fl (by decide)) k e).1)), h2.sei h3 hi v, h3, h4, h5⟩
theorem Flo.work (h : Flo G P μ0 S μ q fa r) {r' : Row} (hl : LeAt μ' KFLO q r') (hf : FrK (LeW μ q) μ μ') : ∃ fa', Flo G P μ0 S μ' q fa' r' := by
  obtain ⟨h1, h2, h3, h4, h5⟩ := h
  have hkq : μ.kd q = KFLO := h2.1
  obtain ⟨fa2, g1, g2, g3, -⟩ := hl.2.2.2.2.2.2.2.2
  exact ⟨fa2, h1.tr (CKo.float h1.C hf (LeW_Wf (by rw [hkq]; decide)) (fun k e => (LeW_isC (by rw [hkq]; exact isC_fl (by decide)) k e).1)), hl, g1, g2, g3⟩
theorem LeAt.same {k p : Nat} {r : Row} (h : LeAt μ k p r) (hp : SameAt μ μ' p) (hf : ∀ fa, μ.fr 99 p = some fa → SameAt μ μ' fa) : LeAt μ' k p r := by
  obtain ⟨hk, a1, a2, a3, a4, a5, a6, a7, fa, b1, b2, b3, b4⟩ := h
  obtain ⟨s1, s2, s3, -⟩ := hp
  obtain ⟨t1, -, -, -, t5, t6, -⟩ := hf fa b1
  exact ⟨by rw [s1]; exact hk, by rw [s2]; exact a1, by rw [s2]; exact a2, by rw [s2]; exact a3, by rw [s2]; exact a4, by rw [s2]; exact a5, by rw [s2]; exact a6, by rw [s2]; exact a7, fa, by rw [s3]; exact b1, by rw [t1]; exact b2, by rw [t5]; exact b3, fun i hi => by rw [t6]; exact b4 i hi⟩
/-- the class's picture is written beside it -/
theorem Flo.put (h : Flo G P μ0 S μ q fa r) (hT : CKo G P μ S' μ') (hq : SameAt μ μ' q) (hf : SameAt μ μ' fa) : Flo G P μ0 S' μ' q fa r := by
  obtain ⟨h1, h2, h3, h4, h5⟩ := h
  refine ⟨h1.tr hT, h2.same hq (fun fb e => by cases h3.symm.trans e; exact hf), ?_, ?_, ?_⟩
  · rw [hq.2.2.1]; exact h3
  · rw [hf.1]; exact h4
  · rw [hf.2.2.2.2.1]; exact h5
theorem LeAt.ext {k p : Nat} {r r' : Row} (h : LeAt μ k p r) (ht : r 15 = -1) (he : ∀ j, j < 9 ∨ j = 15 ∨ j = 16 → r' j = r j) : LeAt μ k p r' := by
  obtain ⟨hk, a1, a2, a3, a4, a5, a6, a7, fa, b1, b2, b3, b4⟩ := h
  have e15 := he 15 (Or.inr (Or.inl rfl))
  refine ⟨hk, a1.trans (he 2 (Or.inl (by decide))).symm, a2.trans (he 1 (Or.inl (by decide))).symm, ?_, a4.trans (he 0 (Or.inl (by decide))).symm, a5.trans (he 16 (Or.inr (Or.inr rfl))).symm, a6.trans e15.symm, ?_, fa, b1, b2, b3, fun i hi => (b4 i hi).trans (he _ (Or.inl (by omega))).symm⟩
  · rw [he 2 (Or.inl (by decide))]; exact a3
  · rw [a7, ORIG_0 ht, ORIG_0 (e15.trans ht)]
theorem Flo.ext (h : Flo G P μ0 S μ q fa r) {r' : Row} (ht : r 15 = -1) (he : ∀ j, j < 9 ∨ j = 15 ∨ j = 16 → r' j = r j) : Flo G P μ0 S μ q fa r' := ⟨h.1, h.2.1.ext ht he, h.2.2⟩
end
section
variable {G : Gx} {P : Nat → Nat} {S : Sx} {μ0 μ μ' : Mem} {q fa : Nat} {r : Row}
theorem Flo.ln (h : Flo G P μ0 S μ q fa r) : μ.ln fa = 6 := h.2.2.2.2
/-- a field of a letter that is being made is put -/
theorem Flo.putE (h : Flo G P μ0 S μ q fa r) {i : Nat} (hi : i < 6) {v : Int32} (e : μ' = μ.sei fa i v) : Flo G P μ0 S μ' q fa (u1 r (3 + i) v) ∧ ∀ z, z ≠ fa → SameAt μ μ' z := ⟨by rw [e]; exact h.sei hi v, fun z hz => by rw [e]; exact same_sei hz⟩
end
/-! the words of what is sent -/
def mkL (fr to kind : Int32) (fs : List Int32) (key : Int32) : Row := fun j => if j = 0 then fr else if j = 1 then to else if j = 2 then kind else if j < 9 then fs.getD (j - 3) 0 else if j < 15 then fs.getD (j - 9) 0 else if j = 15 then -1 else if j = 16 then key else 0
def SEALN (K : Nat) (kind : Int32) (fs : List Int32) : Int32 := nI (SEALc K kind.toInt (fun i => (fs.getD i 0).toInt) fs.length).toNat
theorem SEALR_N {K : Nat} {r : Row} {kind : Int32} {fs : List Int32} (hk : r 2 = kind) (hl : TPn kind = fs.length) (hf : ∀ i, i < fs.length → r (3 + i) = fs.getD i 0) : SEALR K r = SEALN K kind fs := by
  unfold SEALR SEALN
  rw [hk, hl]
  congr 2
  exact hz_cong _ _ _ (fun i hi => by rw [hf i hi])
def POSTS (S : Sx) (r : Row) : Sx := S.sNt (if S.nt.length < 60 then S.nt ++ [r] else S.nt)
section
variable {G : Gx} {P : Nat → Nat} {S S' : Sx} {μ0 μ μ' : Mem} {q fa : Nat} {r : Row}
theorem CRep.newO (h : CRep G P S μ) (hq : μ.kd q = 0) : CRep G P S (μ.newO q KFLO) := (CTo.float (W := fun k => k = KFLO) h (FrK.newO hq rfl) (fun k e => Or.inl (by rw [e]; decide)) (fun k e => by rw [e]; decide)).1
theorem Flo.re (h : Flo G P μ0 S μ q fa r) : Flo G P μ S μ q fa r := ⟨CKo.rf h.C, h.2⟩
theorem SesIn.same {a b w s : Nat} {r : Ses} (h : SesIn μ a b w s r) (hs : SameAt μ μ' s) : SesIn μ' a b w s r := by
  obtain ⟨s1, s2, s3, s4, -⟩ := hs
  obtain ⟨h0, h1, h2, h3, h4, h5, h6, h7, h8, h9, h10⟩ := h
  exact ⟨by rw [s1]; exact h0, by rw [s2]; exact h1, by rw [s2]; exact h2, by rw [s2]; exact h3, by rw [s2]; exact h4, by rw [s2]; exact h5, by rw [s2]; exact h6, by rw [s2]; exact h7, by rw [s2]; exact h8, by rw [s2]; exact h9, by rw [s4]; exact h10⟩
/-- the session that stands in a slot -/
def SesCur (P : Nat → Nat) (μ : Mem) (a b w s : Nat) (r : Ses) : Prop := SesIn μ a b w s r ∧ SL P μ a b w = some s ∧ μ.kd (P (16 + 3 * a + b)) = KS (16 + 3 * a + b)
theorem SL_same {P : Nat → Nat} {a b w : Nat} (h : SameAt μ μ' (P (16 + 3 * a + b))) : SL P μ' a b w = SL P μ a b w := by
  unfold SL
  rw [h.2.2.1, h.2.2.1, h.2.2.1]
theorem SesCur.same {a b w s : Nat} {r : Ses} (h : SesCur P μ a b w s r) (hs : SameAt μ μ' s) (hp : SameAt μ μ' (P (16 + 3 * a + b))) : SesCur P μ' a b w s r := ⟨h.1.same hs, by rw [SL_same hp]; exact h.2.1, by rw [hp.1]; exact h.2.2⟩
theorem SesCur.kept {W : Nat → Prop} {a b w s : Nat} {r : Ses} (h : SesCur P μ a b w s r) (hf : FrK W μ μ') (h1 : ¬ W (KSES a b w)) (h2 : ¬ W (KS (16 + 3 * a + b))) : SesCur P μ' a b w s r := h.same (hf.st h.1.1 (by unfold KSES; omega) h1) (hf.st h.2.2 (KS_ne _) h2)
theorem SesCur.keptS {a b w s : Nat} {r : Ses} (h : SesCur P μ a b w s r) (hf : ∀ z, z ≠ fa → SameAt μ μ' z) (hk : μ.kd fa % 32 = 11) (ha : a < 3) (hb : b < 3) : SesCur P μ' a b w s r := h.same (hf s (fun e => by rw [← e, h.1.k] at hk; omega)) (hf _ (fun e => by rw [← e, h.2.2, show 16 + 3 * a + b = 16 + (3 * a + b) by omega, KS_LK (by omega)] at hk; omega))
theorem nLeW_S {a b w : Nat} (hq : μ.kd q / 32 = 40) : ¬ LeW μ q (KSES a b w) := fun h => h.elim (fun e => by rw [← e] at hq; unfold KSES at hq; omega) (fun e => by unfold KSES FM at e; omega)
theorem nLeW_K {j : Nat} (hj : j < 34) (hq : μ.kd q / 32 = 40) : ¬ LeW μ q (KS j) := fun h => h.elim (fun e => by rw [← e, KS_div] at hq; omega) (fun e => by have := KS_div j; rw [e] at this; unfold FM at this; omega)
theorem nKFLO_S {a b w : Nat} : ¬ KSES a b w = KFLO := fun e => by have e9 : KSES a b w = 4 + 32 * 40 := e; unfold KSES at e9; omega
theorem nKFLO_K {j : Nat} (hj : j < 34) : ¬ KS j = KFLO := fun e => by have e9 : KS j = 4 + 32 * 40 := e; have := KS_div j; omega
end
/-- a field of a letter that is being made is written -/
theorem h_fput {Z : Zx} {own : String} {cc : ByteArray} {rf rc rs rl k n pc : Nat} {L : List (Option Value)} {st : List Value} {P : Nat → Nat} {S : Sx} {μ0 μ : Mem} {q fa i : Nat} {r : Row} {x v : Int32} (C : Cx Z own cc rf rc rs rl) (d : decode cc pc = .ok (.iastore, 1)) (hFl : Flo Z.G P μ0 S μ q fa r) (hi : i < 6) (hx : x = nI i) (kk : ∀ μ' : Mem, Flo Z.G P μ0 S μ' q fa (u1 r (3 + i) v) → (∀ z, z ≠ fa → SameAt μ μ' z) → HW Z k n (pc + 1) L st μ') : HW Z k n pc L (.int v :: .int x :: .ref fa :: st) μ := by
  subst hx
  refine h_iast C d hFl.kf (hFl.inb hi) ?_
  rw [nI_clamp (by omega)]
  exact kk _ (hFl.sei hi v) (fun z hz => same_sei hz)
/-- DATA -/
def DATR (S : Sx) (a b : Nat) (r : Ses) (x y z : Int32) : Row := mkL (S.ef 0 a) (S.lf 0 a b) 4 [r.1 1, r.1 5, x, y, z, SEALN (cl (r.1 3)) 4 [r.1 1, r.1 5, x, y, z]] (r.1 3)
def DATS (S : Sx) (a b : Nat) (r : Ses) (x y z : Int32) : Sx := POSTS (S.sSes a b 1 (some (u1 r.1 5 (r.1 5 + 1), r.2))) (DATR S a b r x y z)
/-- COOKIE -/
def CKEY (e : Nat) (t : Int32) : Nat := MIX [3, (NAME e : Int), t.toInt]
def COOR (S : Sx) (e : Nat) (g : Row) (c : Int32) : Row := mkL (S.ef 0 e) (g 0) 3 [g 3, c, SEALN (CKEY e (TAGR g)) 3 [g 3, c]] (nI (CKEY e (TAGR g)))
def COOS (S : Sx) (e : Nat) (g : Row) (c : Int32) : Sx := POSTS S (COOR S e g c)
/-- HELLO -/
def HKY (a b x : Nat) : Nat := MIX [1, (PW (NAME b) x : Int), (PW (NAME b) (211 + 307 * a) : Int)]
def HSTA (S : Sx) (a b : Nat) : Int32 := if 4 * S.sc 0 < S.lf 2 a b + 1 then S.lf 2 a b + 1 else 4 * S.sc 0
def HPRO (S : Sx) (a b : Nat) (t : Int32) : Int32 := if YCK S a b = -1 then 0 else nI (MIX [2, (YCK S a b).toInt, t.toInt])
def HNUM (S : Sx) : Int32 := S.sc 1 + 1
def HSEC (S : Sx) : Nat := SEC (cl (HNUM S))
def HF4 (S : Sx) (a b : Nat) : List Int32 := [HNUM S, nI (PW 7 (HSEC S)), nI (10 * a + b), HSTA S a b]
def HTAG (S : Sx) (a b : Nat) : Int32 := SEALN (HKY a b (HSEC S)) 1 (HF4 S a b)
def HELR (S : Sx) (a b : Nat) : Row := mkL (S.ef 0 a) (S.lf 0 a b) 1 [HNUM S, nI (PW 7 (HSEC S)), nI (10 * a + b), HSTA S a b, HTAG S a b, HPRO S a b (HTAG S a b)] (nI (HKY a b (HSEC S)))
def mkF (n x t s : Int32) : Row := fun j => if j = 0 then n else if j = 1 then x else if j = 2 then t else s
def HELS (S : Sx) (a b : Nat) : Sx := POSTS (((S.sSc 1 (HNUM S)).sLf 2 a b (HSTA S a b)).sFl a b (some (mkF (HNUM S) (nI (HSEC S)) (HTAG S a b) (S.sc 0)))) (HELR S a b)
/-- REPLY: k, the hello's key; n its INDEX, x its PUBLIC number -/
def RKEY (b k : Nat) (x y : Nat) : Nat := MIX [4, (k : Int), (PW x y : Int), (PW (NAME b) y : Int)]
def mkS (i o m s r9 began : Int32) : Row := fun j => if j = 0 then i else if j = 1 then o else if j = 2 then m else if j = 3 then s else if j = 4 then r9 else if j = 6 then began else if j = 7 then -1 else 0
def RKY (S : Sx) (b k : Nat) (g : Row) : Nat := RKEY b k (cl (g 4)) (HSEC S)
def REPR (S : Sx) (e b k : Nat) (g : Row) : Row := mkL (S.ef 0 e) (S.lf 0 e b) 2 [HNUM S, g 3, nI (PW 7 (HSEC S)), SEALN (RKY S b k g) 2 [HNUM S, g 3, nI (PW 7 (HSEC S))]] (nI (RKY S b k g))
def REPS (S : Sx) (e b k : Nat) (g : Row) : Sx := (POSTS (S.sSc 1 (HNUM S)) (REPR S e b k g)).sSes e b 2 (some (mkS (HNUM S) (g 3) (S.sc 0) (nI (MIX [5, (RKY S b k g : Int), 1])) (nI (MIX [5, (RKY S b k g : Int), 0])) 0, 0))
section
variable {G : Gx} {P : Nat → Nat} {S S' : Sx} {μ0 μ μ' : Mem} {q fa p fp : Nat} {r g : Row}
/-- a letter that was taken out of the net -/
def Got (μ : Mem) (p fp : Nat) (g : Row) : Prop := LeAt μ KLET p g ∧ μ.fr 99 p = some fp ∧ μ.kd fp = FM p ∧ μ.ln fp = 6 ∧ ∀ i, i < 6 → μ.ei fp i = g (3 + i)
theorem LeAt.got (h : LeAt μ KLET p g) : ∃ fp, Got μ p fp g := by
  obtain ⟨fp, b1, b2, b3, b4⟩ := h.2.2.2.2.2.2.2.2
  exact ⟨fp, h, b1, b2, b3, b4⟩
theorem Got.L (h : Got μ p fp g) : LeAt μ KLET p g := h.1
theorem Got.k (h : Got μ p fp g) : μ.kd p % 32 = 4 := by rw [h.1.1]; decide
theorem Got.kf (h : Got μ p fp g) : μ.kd fp % 32 = 11 := by rw [h.2.2.1]; unfold FM; omega
theorem Got.f99 (h : Got μ p fp g) : μ.fr 99 p = some fp := h.2.1
theorem Got.inb (h : Got μ p fp g) {i : Nat} (hi : i < 6) : vp_in (nI i) (μ.ln fp) := by rw [h.2.2.2.1]; exact vp_in_nI hi (by decide)
theorem Got.ln (h : Got μ p fp g) : μ.ln fp = 6 := h.2.2.2.1
theorem Got.at (h : Got μ p fp g) {i : Nat} (hi : i < 6) : μ.ei fp i = g (3 + i) := h.2.2.2.2 i hi
theorem Got.same (h : Got μ p fp g) (hp : SameAt μ μ' p) (hf : SameAt μ μ' fp) : Got μ' p fp g := by
  obtain ⟨h1, h2, h3, h4, h5⟩ := h
  refine ⟨h1.same hp (fun fb e => by cases h2.symm.trans e; exact hf), by rw [hp.2.2.1]; exact h2, by rw [hf.1]; exact h3, by rw [hf.2.2.2.2.1]; exact h4, fun i hi => by rw [hf.2.2.2.2.2.1]; exact h5 i hi⟩
theorem Got.kept {W : Nat → Prop} (h : Got μ p fp g) (hf : FrK W μ μ') (h1 : ¬ W KLET) (h2 : ¬ W (FM p)) : Got μ' p fp g := h.same (hf.st h.1.1 (by decide) h1) (hf.st h.2.2.1 (by unfold FM; omega) h2)
theorem Got.ne (h : Got μ p fp g) (hq : μ.kd q = 0) : p ≠ q := fun e => by rw [← e, h.1.1] at hq; exact absurd hq (by decide)
theorem nLeW_LET (hq : μ.kd q / 32 = 40) : ¬ LeW μ q KLET := fun h => h.elim (fun e => by rw [← e] at hq; exact absurd hq (by decide)) (fun e => by have e9 : 4 + 32 * 41 = 11 + 32 * (1000 + q) := e; omega)
theorem nLeW_FM (hq : μ.kd q / 32 = 40) (hne : p ≠ q) : ¬ LeW μ q (FM p) := fun h => h.elim (fun e => by rw [← e] at hq; have e9 : (11 + 32 * (1000 + p)) / 32 = 40 := hq; omega) (fun e => by have e9 : 11 + 32 * (1000 + p) = 11 + 32 * (1000 + q) := e; omega)
theorem nKFLO_LET : ¬ KLET = KFLO := by decide
theorem nKFLO_FM : ¬ FM p = KFLO := fun e => by have e9 : 11 + 32 * (1000 + p) = 4 + 32 * 40 := e; omega
/-- a write into another letter's fields -/
theorem Got.keptS (h : Got μ p fp g) (hF : Flo G P μ0 S μ q fa r) (hs : ∀ z, z ≠ fa → SameAt μ μ' z) (hne : p ≠ q) : Got μ' p fp g := h.same (hs p (fun e => by have h1 := h.k; rw [e, hF.kf] at h1; exact absurd h1 (by decide))) (hs fp (fun e => by
  have h1 := h.2.2.1
  have h2 := hF.2.2.2.1
  rw [e, h2] at h1
  have e9 : 11 + 32 * (1000 + q) = 11 + 32 * (1000 + p) := h1
  omega))
theorem NAME_lt (b : Nat) : NAME b < 2039 := PW_lt _ _
theorem NAME_i (b : Nat) : (nI (NAME b)).toInt = (NAME b : Int) := nI_toInt (by have := NAME_lt b; omega)
theorem PW_i (b e : Nat) : (nI (PW b e)).toInt = (PW b e : Int) := nI_toInt (by have := PW_lt b e; omega)
theorem MIX_i (vs : List Int) : (nI (MIX vs)).toInt = (MIX vs : Int) := nI_toInt (by have := MIX_lt vs; omega)
end
theorem KLmark {μ : Mem} {q : Nat} (hk : μ.kd q = KFLO) : KL μ (μ.skd q KLET) := fun p hp => ⟨same_skd (fun e => by rw [e, hk] at hp; exact absurd hp (by decide)), fun fp hf => same_skd (fun e => by rw [e, hk] at hf; have e9 : 4 + 32 * 40 = 11 + 32 * (1000 + p) := hf; omega)⟩
theorem nLW_hi {G : Gx} {P : Nat → Nat} {S : Sx} {μ : Mem} (h : CRep G P S μ) {j : Nat} (hj : j < 34) (k : Nat) (h0 : k ≠ 0) (h1 : 34 < k / 32) (h2 : k / 32 < 1000) : ¬ LW μ (P j) k := fun c => by
  rcases c with c | c
  · rw [h.1 j hj] at c
    have := KS_div j
    rw [← c] at this
    omega
  · unfold LM at c; omega
theorem nLW_FM {G : Gx} {P : Nat → Nat} {S : Sx} {μ : Mem} (h : CRep G P S μ) {j : Nat} (hj : j < 34) (q : Nat) : ¬ LW μ (P j) (FM q) := fun c => by
  rcases c with c | c
  · rw [h.1 j hj] at c
    have e9 : 11 + 32 * (1000 + q) = KS j := c
    have := KS_div j
    omega
  · unfold LM at c; have e9 : 11 + 32 * (1000 + q) = 14 + 32 * (1000 + P j) := c; omega
theorem Got.kl {μ μ' : Mem} {p fp : Nat} {g : Row} (h : Got μ p fp g) (hk : KL μ μ') : Got μ' p fp g := h.same (hk p h.1.1).1 ((hk p h.1.1).2 fp h.2.2.1)
def mkP (x y z : Int32) : Row := fun j => if j = 0 then x else if j = 1 then y else z
def PTW (ws : List Row) (r : Row) : List Row := (if 4 ≤ ws.length then ws.eraseIdx 0 else ws) ++ [r]
/-- the WAITING packets are sent -/
def SWT (a b : Nat) : Nat → Sx → Sx
  | 0, S => S
  | m + 1, S => match USE S a b with
    | none => S
    | some r => match S.wt a b with
      | [] => S
      | p :: ps => SWT a b m (DATS (S.sWt a b ps) a b r (p 0) (p 1) (p 2))
def okK (S : Sx) (a b : Nat) : Prop := ∀ r, S.ses a b 1 = some r → ∃ K, K < 65521 ∧ r.1 3 = nI K
theorem w2_w2 {α : Type} {f : Nat → Nat → α} {a b : Nat} {v w : α} : w2 (w2 f a b v) a b w = w2 f a b w := funext fun i => funext fun j => by
  by_cases c : i = a ∧ j = b
  · obtain ⟨rfl, rfl⟩ := c
    rw [w2_eq, w2_eq]
  · rw [w2_ne c, w2_ne c, w2_ne c]
theorem sWt_sWt {S : Sx} {a b : Nat} {v w : List Row} : (S.sWt a b v).sWt a b w = S.sWt a b w := congrArg (fun f => (S.sc, S.ef, S.lf, S.cd, S.fl, S.ses, f, S.rt, S.ou, S.nt)) w2_w2
theorem nLW_K {G : Gx} {P : Nat → Nat} {S : Sx} {μ : Mem} (h : CRep G P S μ) {i j : Nat} (hi : i < 34) (hj : j < 34) (hne : i ≠ j) : ¬ LW μ (P j) (KS i) := fun c => by
  rcases c with c | c
  · rw [h.1 j hj] at c; exact KS_ap hne c
  · exact KS_LM hi c.symm
theorem DATS_wt {S : Sx} {a b : Nat} {r : Ses} {x y z : Int32} : (DATS S a b r x y z).wt = S.wt := rfl
theorem DATS_ses {S : Sx} {a b : Nat} {r : Ses} {x y z : Int32} : (DATS S a b r x y z).ses = w3 S.ses a b 1 (some (u1 r.1 5 (r.1 5 + 1), r.2)) := rfl
theorem okK.dats {S : Sx} {a b : Nat} {r : Ses} {x y z : Int32} {ps : List Row} (h : okK S a b) (hr : S.ses a b 1 = some r) : okK (DATS (S.sWt a b ps) a b r x y z) a b := fun r9 h9 => by
  rw [DATS_ses, w3_eq] at h9
  cases h9
  obtain ⟨K, h1, h2⟩ := h r hr
  exact ⟨K, h1, (show u1 r.1 5 (r.1 5 + 1) 3 = r.1 3 from u1_ne (by decide)).trans h2⟩
/-- sessions and links stay -/
def NS (μ μ' : Mem) : Prop := ∀ z, (μ.kd z % 32 = 8 ∨ μ.kd z % 32 = 5) → SameAt μ μ' z
theorem NS_list {G : Gx} {P : Nat → Nat} {S : Sx} {μ μ' : Mem} (h : CRep G P S μ) {j : Nat} (hj : j < 34) (h1 : μ.kd (P j) % 32 = 1) (hf : FrK (LW μ (P j)) μ μ') : NS μ μ' := fun z hz => hf.st (k := μ.kd z) rfl (by omega) (fun c => by
  rcases c with c | c
  · rw [c, h1] at hz; exact absurd hz (by decide)
  · rw [c, LM_m] at hz; exact absurd hz (by decide))

set_option maxRecDepth 100000 in
set_option maxHeartbeats 4000000 in
theorem k_X8_post (l : Launch) (G : Gx) (P : Nat → Nat) (S : Sx) (μ : Mem) (q fa : Nat) (r : Row) (hFl : Flo G P μ S μ q fa r) : Kon l yX8_post cX8_post 2 none 8 1 1000 191 G [.ref (P 0), .ref q] μ (pV fun μ' => CKo G P μ (POSTS S r) μ' ∧ NS μ μ') noX := by
  refine Kon.ofG (by decide +kernel) (Nat.le_of_ble_eq_true rfl) (Nat.le_of_ble_eq_true rfl) (fun Z hZG C E NT MT => ?_)
  subst hZG
  have C : Cx Z RX8 cX8_post 8 1 1000 191 := C
  show HW Z 0 0 0 [some (.ref (P 0)), some (.ref q)] [] μ
  have hC := hFl.C
  obtain ⟨xs, hx, hnd, hR⟩ := hC.nt
  have hlen := hR.1
  have hmx := hx.2.1
  refine h_al_g C dX8_post_0 rfl rfl rfv_r ?_
  refine gs_X8_18 C dX8_post_1 (CRep.kX hC) (CRep.f257 hC) ?_
  refine h_callV0 (ci := 0) (a_ := .null) C (k_Jx4a65c_size_8abf5 Z.l Z.G _ xs _ hx) cw_X8_86 im_Jx4a65c_size_8abf5 sl_Jx4a65c_size_8abf5 rfl (by decide) hx.1 dX8_post_4 (by first | decide | exact Nat.le_of_ble_eq_true rfl) (by decide) (by decide) (by decide) (by decide) (kI fun r1 μ1 hp1 => ?_) kN
  obtain ⟨rfl, rfl⟩ := hp1
  refine h_bipush (v := 60) C dX8_post_7 (by decide) ?_
  refine h_icmp_ge (tgt := 21) C dX8_post_9 (by decide) (fun c1 => ?_) (fun c1 => ?_)
  · refine h_ret C E dX8_post_21 (by decide) (by decide) ?_
    exact ⟨rfl, by unfold POSTS; rw [if_neg (fun h => by rw [Int32.le_iff_toInt_le, tl_60, nI_toInt (by omega)] at c1; omega)]; exact ⟨CKo.rf hC, fun z hz => SameAt.rf⟩⟩
  · have h60 : S.nt.length < 60 := by
      rw [Int32.le_iff_toInt_le, tl_60, nI_toInt (by omega)] at c1
      omega
    have hkq : μ.kd q = KFLO := hFl.2.1.1
    refine h_skd q KLET (by rw [hkq]; decide) (by rw [hkq]; decide) ?_
    have hC1 := hC.skd (a := q) (k := KLET) (by rw [hkq]; decide) (by rw [hkq]; decide) (by rw [hkq]; decide) (by rw [hkq]; decide)
    have hF1 : FrS isC μ (μ.skd q KLET) := FrS.skd (by rw [hkq]; decide) (by rw [hkq]; exact isC_fl (by decide)) ⟨by decide, Or.inl (by decide)⟩
    have hl1 : LeAt (μ.skd q KLET) KLET q r := hFl.2.1.mark (by decide)
    have hqx : q ∉ xs := fun h => by
      obtain ⟨i, r9, _, _, e3⟩ := hR.rk h
      rw [e3.1] at hkq
      exact absurd hkq (by decide)
    have nF : ∀ k, k ≠ 0 → 34 < k / 32 → k / 32 < 1000 → ¬ LW (μ.skd q KLET) (P 2) k := nLW_hi hC1 (by decide)
    have nG : ∀ p, ¬ LW (μ.skd q KLET) (P 2) (FM p) := nLW_FM hC1 (by decide)
    have hx1 : ListAt Z.G (μ.skd q KLET) (P 2) xs := hx.skd (by rw [hkq]; decide) (by rw [hkq, hC.1 2 (by decide)]; decide) (by rw [hkq]; decide)
    have hR1 : LR (LeAt (μ.skd q KLET) KLET) xs S.nt := hR.imp fun p _ r hp => hp.skd (by rw [hkq]; decide) (by rw [hkq]; decide)
    refine h_al_g C dX8_post_12 rfl rfl rfv_r ?_
    refine gs_X8_18 C dX8_post_13 (CRep.kX hC1) (CRep.f257 hC1) ?_
    refine h_al_g C dX8_post_16 rfl rfl rfv_r ?_
    refine h_callV1 (ci := 0) C (k_Jx4a65c_add_9ea2d Z.l Z.G _ _ _ _ hx1 (by omega) (Or.inl (by rw [kd_skd]; decide))) cw_X8_103 im_Jx4a65c_add_9ea2d sl_Jx4a65c_add_9ea2d rfl (by decide) hx1.1 dX8_post_17 (by first | decide | exact Nat.le_of_ble_eq_true rfl) (by decide) (by decide) (by decide) (by decide) (kI fun r2 μ2 hp2 => ?_) kN
    obtain ⟨hl3, hf3⟩ := hp2
    refine h_pop C dX8_post_20 rfl ?_
    refine h_ret C E dX8_post_21 (by decide) (by decide) ?_
    exact ⟨rfl, by unfold POSTS; rw [if_pos h60]; exact ⟨⟨⟨CRep.addNt hC1 hnd hR1 hl1 hqx hl3 hf3, hF1.tr (hf3.S (LW_isC hC1 (by decide)))⟩, (KLmark hkq).tr (KL.fr hf3 (nF _ (by decide) (by decide) (by decide)) (fun p _ => nG p))⟩, fun z hz => (same_skd (fun e => by rw [e, hkq] at hz; exact absurd hz (by decide))).tr (NS_list hC1 (by decide) (by rw [hC1.1 2 (by decide)]; decide) hf3 z (by rw [ke_skd (fun e => by rw [e, hkq] at hz; exact absurd hz (by decide))]; exact hz))⟩⟩

end
