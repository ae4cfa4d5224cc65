section
/-! THE STATE, as both sides hold it. A row is numbered as the reference's rows are. -/
abbrev Row : Type := Nat → Int32
abbrev Ses : Type := Row × Int64
abbrev Sx : Type := (Nat → Int32) × (Nat → Nat → Int32) × (Nat → Nat → Nat → Int32) × (Nat → Int32) × (Nat → Nat → Option Row) × (Nat → Nat → Nat → Option Ses) × (Nat → Nat → List Row) × (Nat → List Row) × List Row × List Row
/-- 0 now, 1 the last number, 2 delivered -/
def Sx.sc (S : Sx) : Nat → Int32 := S.1
/-- 0 address, 1 loaded -/
def Sx.ef (S : Sx) : Nat → Nat → Int32 := S.2.1
/-- 0 known, 1 taken, 2 stamped, 3 cookie, 4 when it came -/
def Sx.lf (S : Sx) : Nat → Nat → Nat → Int32 := S.2.2.1
def Sx.cd (S : Sx) : Nat → Int32 := S.2.2.2.1
/-- 0 index, 1 secret, 2 tag, 3 sent -/
def Sx.fl (S : Sx) : Nat → Nat → Option Row := S.2.2.2.2.1
def Sx.ses (S : Sx) : Nat → Nat → Nat → Option Ses := S.2.2.2.2.2.1
def Sx.wt (S : Sx) : Nat → Nat → List Row := S.2.2.2.2.2.2.1
def Sx.rt (S : Sx) : Nat → List Row := S.2.2.2.2.2.2.2.1
/-- 0 end, 1 peer, 2 source, 3 dest, 4 load -/
def Sx.ou (S : Sx) : List Row := S.2.2.2.2.2.2.2.2.1
/-- 0 from, 1 to, 2 kind, 3.. fields, 9.. as sealed, 15 turned field, 16 key -/
def Sx.nt (S : Sx) : List Row := S.2.2.2.2.2.2.2.2.2
def w2 {α : Type} (f : Nat → Nat → α) (a b : Nat) (v : α) : Nat → Nat → α := fun i j => if i = a ∧ j = b then v else f i j
def w3 {α : Type} (f : Nat → Nat → Nat → α) (a b c : Nat) (v : α) : Nat → Nat → Nat → α := fun i j k => if i = a ∧ j = b ∧ k = c then v else f i j k
def Sx.sSc (S : Sx) (i : Nat) (v : Int32) : Sx := (u1 S.sc i v, S.ef, S.lf, S.cd, S.fl, S.ses, S.wt, S.rt, S.ou, S.nt)
def Sx.sEf (S : Sx) (f e : Nat) (v : Int32) : Sx := (S.sc, w2 S.ef f e v, S.lf, S.cd, S.fl, S.ses, S.wt, S.rt, S.ou, S.nt)
def Sx.sLf (S : Sx) (f a b : Nat) (v : Int32) : Sx := (S.sc, S.ef, w3 S.lf f a b v, S.cd, S.fl, S.ses, S.wt, S.rt, S.ou, S.nt)
def Sx.sCd (S : Sx) (i : Nat) (v : Int32) : Sx := (S.sc, S.ef, S.lf, u1 S.cd i v, S.fl, S.ses, S.wt, S.rt, S.ou, S.nt)
def Sx.sFl (S : Sx) (a b : Nat) (v : Option Row) : Sx := (S.sc, S.ef, S.lf, S.cd, w2 S.fl a b v, S.ses, S.wt, S.rt, S.ou, S.nt)
def Sx.sSes (S : Sx) (a b w : Nat) (v : Option Ses) : Sx := (S.sc, S.ef, S.lf, S.cd, S.fl, w3 S.ses a b w v, S.wt, S.rt, S.ou, S.nt)
def Sx.sWt (S : Sx) (a b : Nat) (v : List Row) : Sx := (S.sc, S.ef, S.lf, S.cd, S.fl, S.ses, w2 S.wt a b v, S.rt, S.ou, S.nt)
def Sx.sRt (S : Sx) (e : Nat) (v : List Row) : Sx := (S.sc, S.ef, S.lf, S.cd, S.fl, S.ses, S.wt, u1 S.rt e v, S.ou, S.nt)
def Sx.sOu (S : Sx) (v : List Row) : Sx := (S.sc, S.ef, S.lf, S.cd, S.fl, S.ses, S.wt, S.rt, v, S.nt)
def Sx.sNt (S : Sx) (v : List Row) : Sx := (S.sc, S.ef, S.lf, S.cd, S.fl, S.ses, S.wt, S.rt, S.ou, v)
/-! THE CLASS'S PICTURE. Places of what stays: 0 the object, 1 its ends, 2 the net, 3 the counts, 4.. ends, 7.. their links' rows, 10.. routes, 13.. outs, 16 + 3 a + b links, 25 + 3 a + b what waits there -/
def KS (j : Nat) : Nat := (if j = 0 then 9 else if j = 1 then 15 else if j = 2 then 1 else if j = 3 then 11 else if j < 7 then 2 else if j < 10 then 16 else if j < 16 then 1 else if j < 25 then 5 else 1) + 32 * (1 + j)
theorem KS_div (j : Nat) : KS j / 32 = 1 + j := by unfold KS; split; omega; split; omega; split; omega; split; omega; split; omega; split; omega; split; omega; split <;> omega
theorem KS_inj {i j : Nat} (h : KS i = KS j) : i = j := by
  have h1 := KS_div i
  have h2 := KS_div j
  rw [h] at h1
  omega
theorem KS_ne (j : Nat) : KS j ≠ 0 := fun h => by
  have h1 := KS_div j
  rw [h] at h1
  omega
/-- a letter that lies in the net -/
abbrev KLET : Nat := 4 + 32 * 41
abbrev KRT (e : Nat) : Nat := 7 + 32 * (42 + e)
abbrev KSES (a b w : Nat) : Nat := 8 + 32 * (50 + 9 * a + 3 * b + w)
/-- a made packet, a made flight -/
abbrev KPK : Nat := 6 + 32 * 39
abbrev KFL : Nat := 3 + 32 * 39
/-- the row of a letter's fields -/
abbrev FM (q : Nat) : Nat := 11 + 32 * (1000 + q)
def NAME (b : Nat) : Nat := PW 7 (211 + 307 * b)
def TP (k : Int32) : Int32 := if k = 1 then 4 else if k = 2 then 3 else if k = 3 then 2 else 5
def LR (R : Nat → Row → Prop) (xs : List Nat) (rs : List Row) : Prop := xs.length = rs.length ∧ ∀ (i p : Nat) (r : Row), xs[i]? = some p → rs[i]? = some r → R p r
def SesAt (μ : Mem) (k : Nat) (o : Option Nat) (v : Option Ses) : Prop := (o = none ∧ v = none) ∨ ∃ s r, o = some s ∧ v = some r ∧ μ.kd s = k ∧ μ.fi 224 s = r.1 0 ∧ μ.fi 225 s = r.1 1 ∧ μ.fi 226 s = r.1 2 ∧ μ.fi 227 s = r.1 6 ∧ μ.fi 228 s = r.1 3 ∧ μ.fi 229 s = r.1 4 ∧ μ.fi 230 s = r.1 5 ∧ μ.fi 231 s = r.1 8 ∧ μ.fi 232 s = r.1 7 ∧ μ.fl 233 s = r.2
def FlAt (μ : Mem) (o : Option Nat) (v : Option Row) : Prop := (o = none ∧ v = none) ∨ ∃ s r, o = some s ∧ v = some r ∧ μ.kd s = KFL ∧ μ.fi 64 s = r 0 ∧ μ.fi 65 s = r 1 ∧ μ.fi 66 s = r 2 ∧ μ.fi 67 s = r 3
def PkAt (μ : Mem) (p : Nat) (w x y z : Int32) : Prop := μ.kd p = KPK ∧ μ.fi 160 p = w ∧ μ.fi 161 p = x ∧ μ.fi 162 p = y ∧ μ.fi 163 p = z
def RtAt (μ : Mem) (k p : Nat) (r : Row) : Prop := μ.kd p = k ∧ μ.fi 192 p = r 0 ∧ μ.fi 193 p = r 1 ∧ μ.fi 194 p = r 2
def ORIG (r : Row) : Int32 := if r 15 = -1 then 0 else r (9 + (r 15).toNatClampNeg)
def LeAt (μ : Mem) (k p : Nat) (r : Row) : Prop := μ.kd p = k ∧ μ.fi 96 p = r 2 ∧ μ.fi 97 p = r 1 ∧ μ.fi 98 p = TP (r 2) ∧ μ.fi 100 p = r 0 ∧ μ.fi 101 p = r 16 ∧ μ.fi 102 p = r 15 ∧ μ.fi 103 p = ORIG r ∧ ∃ fa, μ.fr 99 p = some fa ∧ μ.kd fa = FM p ∧ μ.ln fa = 6 ∧ ∀ i, i < 6 → μ.ei fa i = r (3 + i)
def OUT (e : Nat) (ou : List Row) : List Row := ou.filter (fun r => decide (r 0 = nI e))
def cK (P : Nat → Nat) (μ : Mem) : Prop := ∀ j, j < 34 → μ.kd (P j) = KS j
def cX (P : Nat → Nat) (μ : Mem) : Prop := μ.fr 256 (P 0) = some (P 1) ∧ μ.fr 257 (P 0) = some (P 2) ∧ μ.fr 258 (P 0) = some (P 3)
def cT (P : Nat → Nat) (μ : Mem) (sc : Nat → Int32) : Prop := μ.fi 259 (P 0) = sc 0 ∧ μ.fi 260 (P 0) = sc 1 ∧ μ.fi 261 (P 0) = sc 2
def cA (P : Nat → Nat) (μ : Mem) : Prop := μ.ln (P 1) = 3 ∧ μ.ln (P 3) = 11 ∧ ∀ e, e < 3 → μ.er (P 1) e = some (P (4 + e)) ∧ μ.ln (P (7 + e)) = 3 ∧ ∀ b, b < 3 → μ.er (P (7 + e)) b = some (P (16 + 3 * e + b))
def cC (P : Nat → Nat) (μ : Mem) (cd : Nat → Int32) : Prop := ∀ i, i < 11 → μ.ei (P 3) i = cd i
def cE (P : Nat → Nat) (μ : Mem) : Prop := ∀ e, e < 3 → μ.fi 32 (P (4 + e)) = nI e ∧ μ.fi 33 (P (4 + e)) = nI (211 + 307 * e) ∧ μ.fr 34 (P (4 + e)) = some (P (7 + e)) ∧ μ.fr 35 (P (4 + e)) = some (P (10 + e)) ∧ μ.fr 36 (P (4 + e)) = some (P (13 + e))
def cF (P : Nat → Nat) (μ : Mem) (ef : Nat → Nat → Int32) : Prop := ∀ e, e < 3 → μ.fi 37 (P (4 + e)) = ef 0 e ∧ μ.fi 38 (P (4 + e)) = ef 1 e
def cL (P : Nat → Nat) (μ : Mem) : Prop := ∀ a b, a < 3 → b < 3 → μ.fi 128 (P (16 + 3 * a + b)) = nI b ∧ μ.fi 129 (P (16 + 3 * a + b)) = nI (NAME b) ∧ μ.fi 130 (P (16 + 3 * a + b)) = nI (PW (NAME b) (211 + 307 * a)) ∧ μ.fr 131 (P (16 + 3 * a + b)) = some (P (25 + 3 * a + b))
def cM (P : Nat → Nat) (μ : Mem) (lf : Nat → Nat → Nat → Int32) : Prop := ∀ a b, a < 3 → b < 3 → μ.fi 132 (P (16 + 3 * a + b)) = lf 0 a b ∧ μ.fi 137 (P (16 + 3 * a + b)) = lf 1 a b ∧ μ.fi 138 (P (16 + 3 * a + b)) = lf 2 a b ∧ μ.fi 139 (P (16 + 3 * a + b)) = lf 3 a b ∧ μ.fi 140 (P (16 + 3 * a + b)) = lf 4 a b
def cS (P : Nat → Nat) (μ : Mem) (ses : Nat → Nat → Nat → Option Ses) : Prop := ∀ a b, a < 3 → b < 3 → SesAt μ (KSES a b 0) (μ.fr 133 (P (16 + 3 * a + b))) (ses a b 0) ∧ SesAt μ (KSES a b 1) (μ.fr 134 (P (16 + 3 * a + b))) (ses a b 1) ∧ SesAt μ (KSES a b 2) (μ.fr 135 (P (16 + 3 * a + b))) (ses a b 2)
def cFl (P : Nat → Nat) (μ : Mem) (fl : Nat → Nat → Option Row) : Prop := ∀ a b, a < 3 → b < 3 → FlAt μ (μ.fr 136 (P (16 + 3 * a + b))) (fl a b)
def cW (G : Gx) (P : Nat → Nat) (μ : Mem) (wt : Nat → Nat → List Row) : Prop := ∀ a b, a < 3 → b < 3 → ∃ xs, ListAt G μ (P (25 + 3 * a + b)) xs ∧ LR (fun p r => PkAt μ p (nI b) (r 0) (r 1) (r 2)) xs (wt a b)
def cR (G : Gx) (P : Nat → Nat) (μ : Mem) (rt : Nat → List Row) : Prop := ∀ e, e < 3 → ∃ xs, ListAt G μ (P (10 + e)) xs ∧ xs.Nodup ∧ LR (RtAt μ (KRT e)) xs (rt e)
def cO (G : Gx) (P : Nat → Nat) (μ : Mem) (ou : List Row) : Prop := ∀ e, e < 3 → ∃ xs, ListAt G μ (P (13 + e)) xs ∧ LR (fun p r => PkAt μ p (r 1) (r 2) (r 3) (r 4)) xs (OUT e ou)
def cN (G : Gx) (P : Nat → Nat) (μ : Mem) (nt : List Row) : Prop := ∃ xs, ListAt G μ (P 2) xs ∧ xs.Nodup ∧ LR (LeAt μ KLET) xs nt
def CRep (G : Gx) (P : Nat → Nat) (S : Sx) (μ : Mem) : Prop := cK P μ ∧ cX P μ ∧ cT P μ S.sc ∧ cA P μ ∧ cC P μ S.cd ∧ cE P μ ∧ cF P μ S.ef ∧ cL P μ ∧ cM P μ S.lf ∧ cS P μ S.ses ∧ cFl P μ S.fl ∧ cW G P μ S.wt ∧ cR G P μ S.rt ∧ cO G P μ S.ou ∧ cN G P μ S.nt
/-! what stays -/
theorem FrK.ke {W : Nat → Prop} {μ μ' : Mem} (hf : FrK W μ μ') {q : Nat} (h : μ.kd q ≠ 0) : μ'.kd q = μ.kd q := ((hf q).1 h).1
theorem FrK.st {W : Nat → Prop} {μ μ' : Mem} (hf : FrK W μ μ') {q k : Nat} (h : μ.kd q = k) (h0 : k ≠ 0) (hw : ¬ W k) : SameAt μ μ' q := ((hf q).1 (by rw [h]; exact h0)).2 (by rw [h]; exact hw)
theorem SesAt.kept {W : Nat → Prop} {μ μ' : Mem} {k : Nat} {o : Option Nat} {v : Option Ses} (h : SesAt μ k o v) (hf : FrK W μ μ') (h0 : k ≠ 0) (hw : ¬ W k) : SesAt μ' k o v := by
  rcases h with h | ⟨s, r, e1, e2, hk, a1, a2, a3, a4, a5, a6, a7, a8, a9, a10⟩
  · exact Or.inl h
  · obtain ⟨s1, s2, s3, s4, -⟩ := hf.st hk h0 hw
    exact Or.inr ⟨s, r, e1, e2, by rw [s1]; exact hk, by rw [s2]; exact a1, by rw [s2]; exact a2, by rw [s2]; exact a3, by rw [s2]; exact a4, by rw [s2]; exact a5, by rw [s2]; exact a6, by rw [s2]; exact a7, by rw [s2]; exact a8, by rw [s2]; exact a9, by rw [s4]; exact a10⟩
theorem FlAt.kept {W : Nat → Prop} {μ μ' : Mem} {o : Option Nat} {v : Option Row} (h : FlAt μ o v) (hf : FrK W μ μ') (hw : ¬ W KFL) : FlAt μ' o v := by
  rcases h with h | ⟨s, r, e1, e2, hk, a1, a2, a3, a4⟩
  · exact Or.inl h
  · obtain ⟨s1, s2, -⟩ := hf.st hk (by decide) hw
    exact Or.inr ⟨s, r, e1, e2, by rw [s1]; exact hk, by rw [s2]; exact a1, by rw [s2]; exact a2, by rw [s2]; exact a3, by rw [s2]; exact a4⟩
theorem PkAt.kept {W : Nat → Prop} {μ μ' : Mem} {p : Nat} {w x y z : Int32} (h : PkAt μ p w x y z) (hf : FrK W μ μ') (hw : ¬ W KPK) : PkAt μ' p w x y z := by
  obtain ⟨hk, a1, a2, a3, a4⟩ := h
  obtain ⟨s1, s2, -⟩ := hf.st hk (by decide) hw
  exact ⟨by rw [s1]; exact hk, by rw [s2]; exact a1, by rw [s2]; exact a2, by rw [s2]; exact a3, by rw [s2]; exact a4⟩
theorem RtAt.kept {W : Nat → Prop} {μ μ' : Mem} {k p : Nat} {r : Row} (h : RtAt μ k p r) (hf : FrK W μ μ') (h0 : k ≠ 0) (hw : ¬ W k) : RtAt μ' k p r := by
  obtain ⟨hk, a1, a2, a3⟩ := h
  obtain ⟨s1, s2, -⟩ := hf.st hk h0 hw
  exact ⟨by rw [s1]; exact hk, by rw [s2]; exact a1, by rw [s2]; exact a2, by rw [s2]; exact a3⟩
theorem LeAt.kept {W : Nat → Prop} {μ μ' : Mem} {k p : Nat} {r : Row} (h : LeAt μ k p r) (hf : FrK W μ μ') (h0 : k ≠ 0) (hw : ¬ W k) (hw2 : ¬ W (FM p)) : LeAt μ' k p r := by
  obtain ⟨hk, a1, a2, a3, a4, a5, a6, a7, fa, b1, b2, b3, b4⟩ := h
  obtain ⟨s1, s2, s3, -⟩ := hf.st hk h0 hw
  obtain ⟨t1, -, -, -, t5, t6, -⟩ := hf.st b2 (by unfold FM; omega) hw2
  exact ⟨by rw [s1]; exact hk, by rw [s2]; exact a1, by rw [s2]; exact a2, by rw [s2]; exact a3, by rw [s2]; exact a4, by rw [s2]; exact a5, by rw [s2]; exact a6, by rw [s2]; exact a7, fa, by rw [s3]; exact b1, by rw [t1]; exact b2, by rw [t5]; exact b3, fun i hi => by rw [t6]; exact b4 i hi⟩
theorem LR.imp {R R' : Nat → Row → Prop} {xs : List Nat} {rs : List Row} (h : LR R xs rs) (hi : ∀ p ∈ xs, ∀ r, R p r → R' p r) : LR R' xs rs := ⟨h.1, fun i p r h1 h2 => hi p (List.mem_of_getElem? h1) r (h.2 i p r h1 h2)⟩
theorem cK.kept {W : Nat → Prop} {P : Nat → Nat} {μ μ' : Mem} (h : cK P μ) (hf : FrK W μ μ') : cK P μ' := fun j hj => by rw [hf.ke (by rw [h j hj]; exact KS_ne j)]; exact h j hj
theorem cX.kept {W : Nat → Prop} {P : Nat → Nat} {μ μ' : Mem} (h : cX P μ) (hk : cK P μ) (hf : FrK W μ μ') (hw : ¬ W (KS 0)) : cX P μ' := by
  obtain ⟨s1, s2, s3, -⟩ := hf.st (hk 0 (by decide)) (KS_ne 0) hw
  exact ⟨by rw [s3]; exact h.1, by rw [s3]; exact h.2.1, by rw [s3]; exact h.2.2⟩
theorem cT.kept {W : Nat → Prop} {P : Nat → Nat} {μ μ' : Mem} {sc : Nat → Int32} (h : cT P μ sc) (hk : cK P μ) (hf : FrK W μ μ') (hw : ¬ W (KS 0)) : cT P μ' sc := by
  obtain ⟨s1, s2, -⟩ := hf.st (hk 0 (by decide)) (KS_ne 0) hw
  exact ⟨by rw [s2]; exact h.1, by rw [s2]; exact h.2.1, by rw [s2]; exact h.2.2⟩
theorem cA.kept {W : Nat → Prop} {P : Nat → Nat} {μ μ' : Mem} (h : cA P μ) (hk : cK P μ) (hf : FrK W μ μ') (h1 : ¬ W (KS 1)) (h3 : (∀ k, W k → k ≠ KS 3) ∨ μ'.ln (P 3) = μ.ln (P 3)) (h7 : ∀ e, e < 3 → ¬ W (KS (7 + e))) : cA P μ' := by
  obtain ⟨-, -, -, -, s5, -, s7, -⟩ := hf.st (hk 1 (by decide)) (KS_ne 1) h1
  refine ⟨by rw [s5]; exact h.1, ?_, fun e he => ?_⟩
  · rcases h3 with h3 | h3
    · obtain ⟨-, -, -, -, t5, -⟩ := hf.st (hk 3 (by decide)) (KS_ne 3) (fun c => h3 _ c rfl)
      rw [t5]; exact h.2.1
    · rw [h3]; exact h.2.1
  · obtain ⟨-, -, -, -, t5, -, t7, -⟩ := hf.st (hk (7 + e) (by omega)) (KS_ne _) (h7 e he)
    have h9 := h.2.2 e he
    exact ⟨by rw [s7]; exact h9.1, by rw [t5]; exact h9.2.1, fun b hb => by rw [t7]; exact h9.2.2 b hb⟩
theorem cC.kept {W : Nat → Prop} {P : Nat → Nat} {μ μ' : Mem} {cd : Nat → Int32} (h : cC P μ cd) (hk : cK P μ) (hf : FrK W μ μ') (hw : ¬ W (KS 3)) : cC P μ' cd := by
  obtain ⟨-, -, -, -, -, s6, -⟩ := hf.st (hk 3 (by decide)) (KS_ne 3) hw
  exact fun i hi => by rw [s6]; exact h i hi
theorem cE.kept {W : Nat → Prop} {P : Nat → Nat} {μ μ' : Mem} (h : cE P μ) (hk : cK P μ) (hf : FrK W μ μ') (hw : ∀ e, e < 3 → ¬ W (KS (4 + e))) : cE P μ' := fun e he => by
  obtain ⟨s1, s2, s3, -⟩ := hf.st (hk (4 + e) (by omega)) (KS_ne _) (hw e he)
  rw [s2, s2, s3, s3, s3]
  exact h e he
theorem cF.kept {W : Nat → Prop} {P : Nat → Nat} {μ μ' : Mem} {ef : Nat → Nat → Int32} (h : cF P μ ef) (hk : cK P μ) (hf : FrK W μ μ') (hw : ∀ e, e < 3 → ¬ W (KS (4 + e))) : cF P μ' ef := fun e he => by
  obtain ⟨s1, s2, s3, -⟩ := hf.st (hk (4 + e) (by omega)) (KS_ne _) (hw e he)
  rw [s2, s2]
  exact h e he
theorem cL.kept {W : Nat → Prop} {P : Nat → Nat} {μ μ' : Mem} (h : cL P μ) (hk : cK P μ) (hf : FrK W μ μ') (hw : ∀ a b, a < 3 → b < 3 → ¬ W (KS (16 + 3 * a + b))) : cL P μ' := fun a b ha hb => by
  obtain ⟨s1, s2, s3, -⟩ := hf.st (hk (16 + 3 * a + b) (by omega)) (KS_ne _) (hw a b ha hb)
  rw [s2, s2, s2, s3]
  exact h a b ha hb
theorem cM.kept {W : Nat → Prop} {P : Nat → Nat} {μ μ' : Mem} {lf : Nat → Nat → Nat → Int32} (h : cM P μ lf) (hk : cK P μ) (hf : FrK W μ μ') (hw : ∀ a b, a < 3 → b < 3 → ¬ W (KS (16 + 3 * a + b))) : cM P μ' lf := fun a b ha hb => by
  obtain ⟨s1, s2, s3, -⟩ := hf.st (hk (16 + 3 * a + b) (by omega)) (KS_ne _) (hw a b ha hb)
  rw [s2, s2, s2, s2, s2]
  exact h a b ha hb
theorem cS.kept {W : Nat → Prop} {P : Nat → Nat} {μ μ' : Mem} {ses : Nat → Nat → Nat → Option Ses} (h : cS P μ ses) (hk : cK P μ) (hf : FrK W μ μ') (hw : ∀ a b, a < 3 → b < 3 → ¬ W (KS (16 + 3 * a + b))) (hw2 : ∀ a b w, a < 3 → b < 3 → w < 3 → ¬ W (KSES a b w)) : cS P μ' ses := fun a b ha hb => by
  obtain ⟨s1, s2, s3, -⟩ := hf.st (hk (16 + 3 * a + b) (by omega)) (KS_ne _) (hw a b ha hb)
  rw [s3, s3, s3]
  obtain ⟨h1, h2, h3⟩ := h a b ha hb
  exact ⟨h1.kept hf (by unfold KSES; omega) (hw2 a b 0 ha hb (by decide)), h2.kept hf (by unfold KSES; omega) (hw2 a b 1 ha hb (by decide)), h3.kept hf (by unfold KSES; omega) (hw2 a b 2 ha hb (by decide))⟩
theorem cFl.kept {W : Nat → Prop} {P : Nat → Nat} {μ μ' : Mem} {fl : Nat → Nat → Option Row} (h : cFl P μ fl) (hk : cK P μ) (hf : FrK W μ μ') (hw : ∀ a b, a < 3 → b < 3 → ¬ W (KS (16 + 3 * a + b))) (hw2 : ¬ W KFL) : cFl P μ' fl := fun a b ha hb => by
  obtain ⟨s1, s2, s3, -⟩ := hf.st (hk (16 + 3 * a + b) (by omega)) (KS_ne _) (hw a b ha hb)
  rw [s3]
  exact (h a b ha hb).kept hf hw2
theorem cW.kept {W : Nat → Prop} {G : Gx} {P : Nat → Nat} {μ μ' : Mem} {wt : Nat → Nat → List Row} (h : cW G P μ wt) (hk : cK P μ) (hf : FrK W μ μ') (hw : ∀ a b, a < 3 → b < 3 → ¬ W (KS (25 + 3 * a + b))) (hL : ∀ a b, a < 3 → b < 3 → ¬ W (LM (P (25 + 3 * a + b)))) (hw2 : ¬ W KPK) : cW G P μ' wt := fun a b ha hb => by
  obtain ⟨xs, h1, h2⟩ := h a b ha hb
  exact ⟨xs, h1.kept hf (by rw [hk _ (by omega)]; exact hw a b ha hb) (hL a b ha hb), h2.imp fun p _ r hp => hp.kept hf hw2⟩
theorem cR.kept {W : Nat → Prop} {G : Gx} {P : Nat → Nat} {μ μ' : Mem} {rt : Nat → List Row} (h : cR G P μ rt) (hk : cK P μ) (hf : FrK W μ μ') (hw : ∀ e, e < 3 → ¬ W (KS (10 + e))) (hL : ∀ e, e < 3 → ¬ W (LM (P (10 + e)))) (hw2 : ∀ e, e < 3 → ¬ W (KRT e)) : cR G P μ' rt := fun e he => by
  obtain ⟨xs, h1, h2, h3⟩ := h e he
  exact ⟨xs, h1.kept hf (by rw [hk _ (by omega)]; exact hw e he) (hL e he), h2, h3.imp fun p _ r hp => hp.kept hf (by unfold KRT; omega) (hw2 e he)⟩
theorem cO.kept {W : Nat → Prop} {G : Gx} {P : Nat → Nat} {μ μ' : Mem} {ou : List Row} (h : cO G P μ ou) (hk : cK P μ) (hf : FrK W μ μ') (hw : ∀ e, e < 3 → ¬ W (KS (13 + e))) (hL : ∀ e, e < 3 → ¬ W (LM (P (13 + e)))) (hw2 : ¬ W KPK) : cO G P μ' ou := fun e he => by
  obtain ⟨xs, h1, h2⟩ := h e he
  exact ⟨xs, h1.kept hf (by rw [hk _ (by omega)]; exact hw e he) (hL e he), h2.imp fun p _ r hp => hp.kept hf hw2⟩
theorem LR.rk {R : Nat → Row → Prop} {xs : List Nat} {rs : List Row} (h : LR R xs rs) {p : Nat} (hp : p ∈ xs) : ∃ (i : Nat) (r : Row), xs[i]? = some p ∧ rs[i]? = some r ∧ R p r := by
  obtain ⟨i, hi⟩ := List.getElem?_of_mem hp
  have hl := (List.getElem?_eq_some_iff.mp hi).1
  have hl2 : i < rs.length := by rw [← h.1]; exact hl
  have hr : rs[i]? = some rs[i] := List.getElem?_eq_getElem hl2
  exact ⟨i, _, hi, hr, h.2 i p _ hi hr⟩
theorem cN.kept {W : Nat → Prop} {G : Gx} {P : Nat → Nat} {μ μ' : Mem} {nt : List Row} (h : cN G P μ nt) (hk : cK P μ) (hf : FrK W μ μ') (hw : ¬ W (KS 2)) (hL : ¬ W (LM (P 2))) (hw2 : ¬ W KLET) (hw3 : ∀ q, μ.kd q = KLET → ¬ W (FM q)) : cN G P μ' nt := by
  obtain ⟨xs, h1, h2, h3⟩ := h
  exact ⟨xs, h1.kept hf (by rw [hk _ (by omega)]; exact hw) hL, h2, h3.imp fun p _ r hp => hp.kept hf (by decide) hw2 (hw3 p hp.1)⟩
/-- kinds that the class's picture doesn't read -/
def Wf (μ : Mem) (k : Nat) : Prop := k / 32 = 40 ∨ ∃ q, k = FM q ∧ μ.kd q ≠ KLET
theorem Wf.no {μ : Mem} {W : Nat → Prop} (hW : ∀ k, W k → Wf μ k) {k : Nat} (h1 : ¬ k / 32 = 40) (h2 : k % 32 = 11 → k / 32 < 1000) : ¬ W k := fun c => by
  rcases hW k c with h | ⟨q, h, -⟩
  · exact h1 h
  · have := h2 (by rw [h]; unfold FM; omega)
    rw [h] at this
    unfold FM at this
    omega
theorem CRep.kept {W : Nat → Prop} {G : Gx} {P : Nat → Nat} {S : Sx} {μ μ' : Mem} (h : CRep G P S μ) (hf : FrK W μ μ') (hW : ∀ k, W k → Wf μ k) : CRep G P S μ' := by
  obtain ⟨h1, h2, h3, h4, h5, h6, h7, h8, h9, h10, h11, h12, h13, h14, h15⟩ := h
  have n1 : ∀ j, j < 34 → ¬ W (KS j) := fun j hj => Wf.no hW (by rw [KS_div]; omega) (fun _ => by rw [KS_div]; omega)
  have n2 : ∀ ρ, ¬ W (LM ρ) := fun ρ => Wf.no hW (by unfold LM; omega) (fun h => by unfold LM at h; omega)
  exact ⟨h1.kept hf, h2.kept h1 hf (n1 0 (by decide)), h3.kept h1 hf (n1 0 (by decide)), h4.kept h1 hf (n1 1 (by decide)) (Or.inl fun k hk e => n1 3 (by decide) (by rw [← e]; exact hk)) (fun e he => n1 _ (by omega)), h5.kept h1 hf (n1 3 (by decide)), h6.kept h1 hf (fun e he => n1 _ (by omega)), h7.kept h1 hf (fun e he => n1 _ (by omega)), h8.kept h1 hf (fun a b ha hb => n1 _ (by omega)), h9.kept h1 hf (fun a b ha hb => n1 _ (by omega)),
    h10.kept h1 hf (fun a b ha hb => n1 _ (by omega)) (fun a b w ha hb hw => Wf.no hW (by unfold KSES; omega) (fun h => by unfold KSES at h; omega)), h11.kept h1 hf (fun a b ha hb => n1 _ (by omega)) (Wf.no hW (by decide) (by decide)), h12.kept h1 hf (fun a b ha hb => n1 _ (by omega)) (fun _ _ _ _ => n2 _) (Wf.no hW (by decide) (by decide)), h13.kept h1 hf (fun e he => n1 _ (by omega)) (fun _ _ => n2 _) (fun e he => Wf.no hW (by unfold KRT; omega) (fun h => by unfold KRT at h; omega)), h14.kept h1 hf (fun e he => n1 _ (by omega)) (fun _ _ => n2 _) (Wf.no hW (by decide) (by decide)),
    h15.kept h1 hf (n1 2 (by decide)) (n2 _) (Wf.no hW (by decide) (by decide)) (fun q hq c => by
      rcases hW _ c with h | ⟨q', h, hn⟩
      · unfold FM at h; omega
      · have : q = q' := by unfold FM at h; omega
        exact hn (by rw [← this]; exact hq))⟩
end
