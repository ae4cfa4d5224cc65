section
theorem tl_m10000 : ((-10000) : Int32).toInt = (-10000) := rfl
theorem tl_m1000 : ((-1000) : Int32).toInt = (-1000) := rfl
theorem tl_m500 : ((-500) : Int32).toInt = (-500) := rfl
theorem tl_m7 : ((-7) : Int32).toInt = (-7) := rfl
theorem tl_m6 : ((-6) : Int32).toInt = (-6) := rfl
theorem tl_m5 : ((-5) : Int32).toInt = (-5) := rfl
theorem tl_m4 : ((-4) : Int32).toInt = (-4) := rfl
theorem tl_m3 : ((-3) : Int32).toInt = (-3) := rfl
theorem tl_m2 : ((-2) : Int32).toInt = (-2) := rfl
theorem tl_m1 : ((-1) : Int32).toInt = (-1) := rfl
theorem tl_0 : (0 : Int32).toInt = 0 := rfl
theorem tl_1 : (1 : Int32).toInt = 1 := rfl
theorem tl_2 : (2 : Int32).toInt = 2 := rfl
theorem tl_3 : (3 : Int32).toInt = 3 := rfl
theorem tl_4 : (4 : Int32).toInt = 4 := rfl
theorem tl_5 : (5 : Int32).toInt = 5 := rfl
theorem tl_6 : (6 : Int32).toInt = 6 := rfl
theorem tl_7 : (7 : Int32).toInt = 7 := rfl
theorem tl_8 : (8 : Int32).toInt = 8 := rfl
theorem tl_9 : (9 : Int32).toInt = 9 := rfl
theorem tl_10 : (10 : Int32).toInt = 10 := rfl
theorem tl_11 : (11 : Int32).toInt = 11 := rfl
theorem tl_15 : (15 : Int32).toInt = 15 := rfl
theorem tl_16 : (16 : Int32).toInt = 16 := rfl
theorem tl_20 : (20 : Int32).toInt = 20 := rfl
theorem tl_30 : (30 : Int32).toInt = 30 := rfl
theorem tl_40 : (40 : Int32).toInt = 40 := rfl
theorem tl_60 : (60 : Int32).toInt = 60 := rfl
theorem tl_99 : (99 : Int32).toInt = 99 := rfl
theorem tl_100 : (100 : Int32).toInt = 100 := rfl
theorem tl_211 : (211 : Int32).toInt = 211 := rfl
theorem tl_255 : (255 : Int32).toInt = 255 := rfl
theorem tl_307 : (307 : Int32).toInt = 307 := rfl
theorem tl_500 : (500 : Int32).toInt = 500 := rfl
theorem tl_1018 : (1018 : Int32).toInt = 1018 := rfl
theorem tl_2038 : (2038 : Int32).toInt = 2038 := rfl
theorem tl_2039 : (2039 : Int32).toInt = 2039 := rfl
theorem tl_9999 : (9999 : Int32).toInt = 9999 := rfl
theorem tl_10000 : (10000 : Int32).toInt = 10000 := rfl
theorem tl_65280 : (65280 : Int32).toInt = 65280 := rfl
theorem tl_65520 : (65520 : Int32).toInt = 65520 := rfl
theorem tl_65521 : (65521 : Int32).toInt = 65521 := rfl
theorem tl_1000000 : (1000000 : Int32).toInt = 1000000 := rfl
theorem tl_500000000 : (500000000 : Int32).toInt = 500000000 := rfl
theorem h_callV6 {Z : Zx} {own : String} {cc : ByteArray} {rf rc rs rl k n pc mc ms rf' rl' idx nL' ci : Nat} {L : List (Option Value)} {rest : List Value} {a0 a1 a2 a3 a4 a5 : Value} {μ : Mem} {Post : Option Value → Mem → Prop} {PostX : String → Mem → Prop} {y : MethodName} {bytes : ByteArray} {ret : Option FieldType} {b : Nat} {T : u_T} {N : Nat} (C : Cx Z own cc rf rc rs rl) (hM : Kon Z.l y bytes nL' ret rf' mc ms rl' Z.G (.ref b :: [a0, a1, a2, a3, a4, a5]) μ Post PostX) (cw : CwB own idx y bytes nL' ret 6) (hi : Cond.instanceMethod y ∈ lw_good) (hse : Cond.selects y.cls y y ∈ lw_good) (hc : vwCl[ci]? = some (y.cls, T, N)) (hci : ci < 10) (hk : μ.kd b % 32 = ci + 1) (d : decode cc pc = .ok (.invokevirtual idx, 3)) (hw : (rest.map fun v => v.category).sum ≤ 8) (hf : rf' + 1 ≤ rf) (hlo : 8 + (nL' + 11) + rl' ≤ rl) (hcl : k + mc ≤ rc) (hsl : n + ms ≤ rs)
    (kk : ∀ (v : Option Value) (μ' : Mem), Post v μ' → HW Z (k + mc) (n + ms) (pc + 3) L (v.toList ++ rest) μ') (kx : ∀ (E : String) (μ' : Mem), PostX E μ' → HX Z (k + mc) (n + ms) pc L E μ') : HW Z k n pc L (a5 :: a4 :: a3 :: a2 :: a1 :: a0 :: .ref b :: rest) μ := h_callV_g (As := [a0, a1, a2, a3, a4, a5]) C hM cw hi hse hc hci hk rfl hw hf hlo hcl hsl d kk kx
theorem ne_of_new {μ : Mem} {a q : Nat} (h : μ.kd a = 0) (hq : μ.kd q ≠ 0) : q ≠ a := fun e => hq (by rw [e]; exact h)
theorem h_ldcw {Z : Zx} {own : String} {cc : ByteArray} {rf rc rs rl k n pc : Nat} {L : List (Option Value)} {st : List Value} {μ : Mem} {idx : Nat} {v : Int32} (C : Cx Z own cc rf rc rs rl) (hm : Cond.constant own idx v ∈ lw_good) (d : decode cc pc = .ok (.ldc_w idx, 3)) (kk : HW Z k n (pc + 3) L (.int v :: st) μ) : HW Z k n pc L st μ := by
  refine HW.go C ?_ kk
  obtain ⟨p, l, e, R, s, m, args, below, meth, c, G, A, nL, Q⟩ := Z
  intro hx hb hown hts H locs ls hl kk
  exact lv_ldcw hx hb hown (hts _ hm) d (kk ls hl)

abbrev cl (x : Int32) : Nat := x.toNatClampNeg
theorem cl_eq {x : Int32} (h : 0 ≤ x.toInt) : (cl x : Int) = x.toInt := by
  show ((x.toInt.toNat : Nat) : Int) = x.toInt
  omega
theorem cl_nI {x : Int32} (h : 0 ≤ x.toInt) : x = nI (cl x) := nI_of_toInt (cl_eq h).symm
abbrev isE (x : Int32) : Prop := 0 ≤ x.toInt ∧ x.toInt < 3
theorem isE.lt {x : Int32} (h : isE x) : cl x < 3 := by have := cl_eq h.1; have := h.2; omega
theorem isE.nI {x : Int32} (h : isE x) : x = nI (cl x) := cl_nI h.1
theorem isE.ne {x y : Int32} (hx : isE x) (hy : isE y) (h : ¬ x = y) : cl x ≠ cl y := fun e => h (by rw [hx.nI, hy.nI, e])
theorem nI_isE {e : Nat} (h : e < 3) : isE (nI e) := by have := nI_toInt (n := e) (by omega); exact ⟨by omega, by omega⟩
theorem cl_of {n : Nat} (h : n < 2 ^ 31) : cl (nI n) = n := nI_clamp h
theorem vp_isE {x : Int32} {n : Nat} (h : 0 ≤ x.toInt) (h2 : x.toInt < n) (hn : n < 2 ^ 31) : vp_in x n := by
  rw [cl_nI h]
  exact vp_in_nI (by have := cl_eq h; omega) hn
section
variable {G : Gx} {P : Nat → Nat} {S : Sx} {μ : Mem}
theorem CRep.kX (h : CRep G P S μ) : μ.kd (P (0)) % 32 = 9 := by rw [h.1 _ (by omega)]; exact KS_m
theorem CRep.kEA (h : CRep G P S μ) : μ.kd (P (1)) % 32 = 15 := by rw [h.1 _ (by omega)]; exact KS_m
theorem CRep.kNT (h : CRep G P S μ) : μ.kd (P (2)) % 32 = 1 := by rw [h.1 _ (by omega)]; exact KS_m
theorem CRep.kTL (h : CRep G P S μ) : μ.kd (P (3)) % 32 = 11 := by rw [h.1 _ (by omega)]; exact KS_m
theorem CRep.kE (h : CRep G P S μ) {e : Nat} (he : e < 3) : μ.kd (P (4 + e)) % 32 = 2 := by rw [h.1 _ (by omega)]; exact KS_E he
theorem CRep.kLA (h : CRep G P S μ) {e : Nat} (he : e < 3) : μ.kd (P (7 + e)) % 32 = 16 := by rw [h.1 _ (by omega)]; exact KS_LA he
theorem CRep.kRO (h : CRep G P S μ) {e : Nat} (he : e < 3) : μ.kd (P (10 + e)) % 32 = 1 := by rw [h.1 _ (by omega)]; exact KS_RO (by omega)
theorem CRep.kOU (h : CRep G P S μ) {e : Nat} (he : e < 3) : μ.kd (P (13 + e)) % 32 = 1 := by rw [h.1 _ (by omega)]; exact by rw [show 13 + e = 10 + (3 + e) by omega]; exact KS_RO (by omega)
theorem CRep.kL (h : CRep G P S μ) {a b : Nat} (ha : a < 3) (hb : b < 3) : μ.kd (P (16 + 3 * a + b)) % 32 = 5 := by rw [h.1 _ (by omega)]; exact by rw [show 16 + 3 * a + b = 16 + (3 * a + b) by omega]; exact KS_LK (by omega)
theorem CRep.kW (h : CRep G P S μ) {a b : Nat} (ha : a < 3) (hb : b < 3) : μ.kd (P (25 + 3 * a + b)) % 32 = 1 := by rw [h.1 _ (by omega)]; exact by rw [show 25 + 3 * a + b = 25 + (3 * a + b) by omega]; exact KS_WT
theorem CRep.f256 (h : CRep G P S μ) : μ.fr 256 (P 0) = some (P 1) := h.2.1.1
theorem CRep.f257 (h : CRep G P S μ) : μ.fr 257 (P 0) = some (P 2) := h.2.1.2.1
theorem CRep.f258 (h : CRep G P S μ) : μ.fr 258 (P 0) = some (P 3) := h.2.1.2.2
theorem CRep.f259 (h : CRep G P S μ) : μ.fi 259 (P 0) = S.sc 0 := h.2.2.1.1
theorem CRep.f260 (h : CRep G P S μ) : μ.fi 260 (P 0) = S.sc 1 := h.2.2.1.2.1
theorem CRep.f261 (h : CRep G P S μ) : μ.fi 261 (P 0) = S.sc 2 := h.2.2.1.2.2
theorem CRep.lnE (h : CRep G P S μ) : μ.ln (P 1) = 3 := h.2.2.2.1.1
theorem CRep.lnT (h : CRep G P S μ) : μ.ln (P 3) = 11 := h.2.2.2.1.2.1
theorem CRep.eE (h : CRep G P S μ) {e : Nat} (he : e < 3) : μ.er (P 1) e = some (P (4 + e)) := (h.2.2.2.1.2.2 e he).1
theorem CRep.lnL (h : CRep G P S μ) {e : Nat} (he : e < 3) : μ.ln (P (7 + e)) = 3 := (h.2.2.2.1.2.2 e he).2.1
theorem CRep.eL (h : CRep G P S μ) {a b : Nat} (ha : a < 3) (hb : b < 3) : μ.er (P (7 + a)) b = some (P (16 + 3 * a + b)) := (h.2.2.2.1.2.2 a ha).2.2 b hb
theorem CRep.eT (h : CRep G P S μ) {i : Nat} (hi : i < 11) : μ.ei (P 3) i = S.cd i := h.2.2.2.2.1 i hi
theorem CRep.f32 (h : CRep G P S μ) {e : Nat} (he : e < 3) : μ.fi 32 (P (4 + e)) = nI e := (h.2.2.2.2.2.1 e he).1
theorem CRep.f33 (h : CRep G P S μ) {e : Nat} (he : e < 3) : μ.fi 33 (P (4 + e)) = nI (211 + 307 * e) := (h.2.2.2.2.2.1 e he).2.1
theorem CRep.f34 (h : CRep G P S μ) {e : Nat} (he : e < 3) : μ.fr 34 (P (4 + e)) = some (P (7 + e)) := (h.2.2.2.2.2.1 e he).2.2.1
theorem CRep.f35 (h : CRep G P S μ) {e : Nat} (he : e < 3) : μ.fr 35 (P (4 + e)) = some (P (10 + e)) := (h.2.2.2.2.2.1 e he).2.2.2.1
theorem CRep.f36 (h : CRep G P S μ) {e : Nat} (he : e < 3) : μ.fr 36 (P (4 + e)) = some (P (13 + e)) := (h.2.2.2.2.2.1 e he).2.2.2.2
theorem CRep.f37 (h : CRep G P S μ) {e : Nat} (he : e < 3) : μ.fi 37 (P (4 + e)) = S.ef 0 e := (h.2.2.2.2.2.2.1 e he).1
theorem CRep.f38 (h : CRep G P S μ) {e : Nat} (he : e < 3) : μ.fi 38 (P (4 + e)) = S.ef 1 e := (h.2.2.2.2.2.2.1 e he).2
theorem CRep.f128 (h : CRep G P S μ) {a b : Nat} (ha : a < 3) (hb : b < 3) : μ.fi 128 (P (16 + 3 * a + b)) = nI b := (h.2.2.2.2.2.2.2.1 a b ha hb).1
theorem CRep.f129 (h : CRep G P S μ) {a b : Nat} (ha : a < 3) (hb : b < 3) : μ.fi 129 (P (16 + 3 * a + b)) = nI (NAME b) := (h.2.2.2.2.2.2.2.1 a b ha hb).2.1
theorem CRep.f130 (h : CRep G P S μ) {a b : Nat} (ha : a < 3) (hb : b < 3) : μ.fi 130 (P (16 + 3 * a + b)) = nI (PW (NAME b) (211 + 307 * a)) := (h.2.2.2.2.2.2.2.1 a b ha hb).2.2.1
theorem CRep.f131 (h : CRep G P S μ) {a b : Nat} (ha : a < 3) (hb : b < 3) : μ.fr 131 (P (16 + 3 * a + b)) = some (P (25 + 3 * a + b)) := (h.2.2.2.2.2.2.2.1 a b ha hb).2.2.2
theorem CRep.f132 (h : CRep G P S μ) {a b : Nat} (ha : a < 3) (hb : b < 3) : μ.fi 132 (P (16 + 3 * a + b)) = S.lf 0 a b := (h.2.2.2.2.2.2.2.2.1 a b ha hb).1
theorem CRep.f137 (h : CRep G P S μ) {a b : Nat} (ha : a < 3) (hb : b < 3) : μ.fi 137 (P (16 + 3 * a + b)) = S.lf 1 a b := (h.2.2.2.2.2.2.2.2.1 a b ha hb).2.1
theorem CRep.f138 (h : CRep G P S μ) {a b : Nat} (ha : a < 3) (hb : b < 3) : μ.fi 138 (P (16 + 3 * a + b)) = S.lf 2 a b := (h.2.2.2.2.2.2.2.2.1 a b ha hb).2.2.1
theorem CRep.f139 (h : CRep G P S μ) {a b : Nat} (ha : a < 3) (hb : b < 3) : μ.fi 139 (P (16 + 3 * a + b)) = S.lf 3 a b := (h.2.2.2.2.2.2.2.2.1 a b ha hb).2.2.2.1
theorem CRep.f140 (h : CRep G P S μ) {a b : Nat} (ha : a < 3) (hb : b < 3) : μ.fi 140 (P (16 + 3 * a + b)) = S.lf 4 a b := (h.2.2.2.2.2.2.2.2.1 a b ha hb).2.2.2.2
/-- a session that stands -/
def SesIn (μ : Mem) (a b w s : Nat) (r : Ses) : Prop := μ.kd s = KSES a b w ∧ μ.fi 224 s = r.1 0 ∧ μ.fi 225 s = r.1 1 ∧ μ.fi 226 s = r.1 2 ∧ μ.fi 227 s = r.1 6 ∧ μ.fi 228 s = r.1 3 ∧ μ.fi 229 s = r.1 4 ∧ μ.fi 230 s = r.1 5 ∧ μ.fi 231 s = r.1 8 ∧ μ.fi 232 s = r.1 7 ∧ μ.fl 233 s = r.2
def FlIn (μ : Mem) (s : Nat) (r : Row) : Prop := μ.kd s = KFL ∧ μ.fi 64 s = r 0 ∧ μ.fi 65 s = r 1 ∧ μ.fi 66 s = r 2 ∧ μ.fi 67 s = r 3
theorem SesIn.k {a b w s : Nat} {r : Ses} (h : SesIn μ a b w s r) : μ.kd s % 32 = 8 := by rw [h.1]; unfold KSES; omega
theorem FlIn.k {s : Nat} {r : Row} (h : FlIn μ s r) : μ.kd s % 32 = 3 := by rw [h.1]; decide
theorem SesIn.at {a b w s : Nat} {r : Ses} (h : SesIn μ a b w s r) : SesAt μ (KSES a b w) (some s) (some r) := Or.inr ⟨s, r, rfl, rfl, h⟩
theorem FlIn.at {s : Nat} {r : Row} (h : FlIn μ s r) : FlAt μ (some s) (some r) := Or.inr ⟨s, r, rfl, rfl, h⟩
theorem SesAt.in {a b w s : Nat} {r : Ses} (h : SesAt μ (KSES a b w) (some s) (some r)) : SesIn μ a b w s r := by
  rcases h with ⟨h, -⟩ | ⟨s9, r9, e1, e2, h⟩
  · cases h
  · cases e1; cases e2; exact h
theorem FlAt.in {s : Nat} {r : Row} (h : FlAt μ (some s) (some r)) : FlIn μ s r := by
  rcases h with ⟨h, -⟩ | ⟨s9, r9, e1, e2, h⟩
  · cases h
  · cases e1; cases e2; exact h
theorem SesIn.f224 {a b w s : Nat} {r : Ses} (h : SesIn μ a b w s r) : μ.fi 224 s = r.1 0 := h.2.1
theorem SesIn.f225 {a b w s : Nat} {r : Ses} (h : SesIn μ a b w s r) : μ.fi 225 s = r.1 1 := h.2.2.1
theorem SesIn.f226 {a b w s : Nat} {r : Ses} (h : SesIn μ a b w s r) : μ.fi 226 s = r.1 2 := h.2.2.2.1
theorem SesIn.f227 {a b w s : Nat} {r : Ses} (h : SesIn μ a b w s r) : μ.fi 227 s = r.1 6 := h.2.2.2.2.1
theorem SesIn.f228 {a b w s : Nat} {r : Ses} (h : SesIn μ a b w s r) : μ.fi 228 s = r.1 3 := h.2.2.2.2.2.1
theorem SesIn.f229 {a b w s : Nat} {r : Ses} (h : SesIn μ a b w s r) : μ.fi 229 s = r.1 4 := h.2.2.2.2.2.2.1
theorem SesIn.f230 {a b w s : Nat} {r : Ses} (h : SesIn μ a b w s r) : μ.fi 230 s = r.1 5 := h.2.2.2.2.2.2.2.1
theorem SesIn.f231 {a b w s : Nat} {r : Ses} (h : SesIn μ a b w s r) : μ.fi 231 s = r.1 8 := h.2.2.2.2.2.2.2.2.1
theorem SesIn.f232 {a b w s : Nat} {r : Ses} (h : SesIn μ a b w s r) : μ.fi 232 s = r.1 7 := h.2.2.2.2.2.2.2.2.2.1
theorem SesIn.f233 {a b w s : Nat} {r : Ses} (h : SesIn μ a b w s r) : μ.fl 233 s = r.2 := h.2.2.2.2.2.2.2.2.2.2
theorem FlIn.f64 {s : Nat} {r : Row} (h : FlIn μ s r) : μ.fi 64 s = r 0 := h.2.1
theorem FlIn.f65 {s : Nat} {r : Row} (h : FlIn μ s r) : μ.fi 65 s = r 1 := h.2.2.1
theorem FlIn.f66 {s : Nat} {r : Row} (h : FlIn μ s r) : μ.fi 66 s = r 2 := h.2.2.2.1
theorem FlIn.f67 {s : Nat} {r : Row} (h : FlIn μ s r) : μ.fi 67 s = r 3 := h.2.2.2.2
theorem CRep.c133 (h : CRep G P S μ) {a b : Nat} (ha : a < 3) (hb : b < 3) : (μ.fr 133 (P (16 + 3 * a + b)) = none ∧ S.ses a b 0 = none) ∨ ∃ s r, μ.fr 133 (P (16 + 3 * a + b)) = some s ∧ S.ses a b 0 = some r ∧ SesIn μ a b 0 s r := by
  rcases (h.2.2.2.2.2.2.2.2.2.1 a b ha hb).1 with g | ⟨s, r, e1, e2, g⟩
  · exact Or.inl g
  · exact Or.inr ⟨s, r, e1, e2, g⟩
theorem CRep.c134 (h : CRep G P S μ) {a b : Nat} (ha : a < 3) (hb : b < 3) : (μ.fr 134 (P (16 + 3 * a + b)) = none ∧ S.ses a b 1 = none) ∨ ∃ s r, μ.fr 134 (P (16 + 3 * a + b)) = some s ∧ S.ses a b 1 = some r ∧ SesIn μ a b 1 s r := by
  rcases (h.2.2.2.2.2.2.2.2.2.1 a b ha hb).2.1 with g | ⟨s, r, e1, e2, g⟩
  · exact Or.inl g
  · exact Or.inr ⟨s, r, e1, e2, g⟩
theorem CRep.c135 (h : CRep G P S μ) {a b : Nat} (ha : a < 3) (hb : b < 3) : (μ.fr 135 (P (16 + 3 * a + b)) = none ∧ S.ses a b 2 = none) ∨ ∃ s r, μ.fr 135 (P (16 + 3 * a + b)) = some s ∧ S.ses a b 2 = some r ∧ SesIn μ a b 2 s r := by
  rcases (h.2.2.2.2.2.2.2.2.2.1 a b ha hb).2.2 with g | ⟨s, r, e1, e2, g⟩
  · exact Or.inl g
  · exact Or.inr ⟨s, r, e1, e2, g⟩
theorem CRep.c136 (h : CRep G P S μ) {a b : Nat} (ha : a < 3) (hb : b < 3) : (μ.fr 136 (P (16 + 3 * a + b)) = none ∧ S.fl a b = none) ∨ ∃ s r, μ.fr 136 (P (16 + 3 * a + b)) = some s ∧ S.fl a b = some r ∧ FlIn μ s r := by
  rcases h.2.2.2.2.2.2.2.2.2.2.1 a b ha hb with g | ⟨s, r, e1, e2, g⟩
  · exact Or.inl g
  · exact Or.inr ⟨s, r, e1, e2, g⟩
/-! letters, packets, routes -/
theorem LeAt.k {k p : Nat} {r : Row} (h : LeAt μ k p r) (hk : k % 32 = 4) : μ.kd p % 32 = 4 := by rw [h.1]; exact hk
theorem LeAt.f96 {k p : Nat} {r : Row} (h : LeAt μ k p r) : μ.fi 96 p = r 2 := h.2.1
theorem LeAt.f97 {k p : Nat} {r : Row} (h : LeAt μ k p r) : μ.fi 97 p = r 1 := h.2.2.1
theorem LeAt.f98 {k p : Nat} {r : Row} (h : LeAt μ k p r) : μ.fi 98 p = TP (r 2) := h.2.2.2.1
theorem LeAt.f100 {k p : Nat} {r : Row} (h : LeAt μ k p r) : μ.fi 100 p = r 0 := h.2.2.2.2.1
theorem LeAt.f101 {k p : Nat} {r : Row} (h : LeAt μ k p r) : μ.fi 101 p = r 16 := h.2.2.2.2.2.1
theorem LeAt.f102 {k p : Nat} {r : Row} (h : LeAt μ k p r) : μ.fi 102 p = r 15 := h.2.2.2.2.2.2.1
theorem LeAt.f103 {k p : Nat} {r : Row} (h : LeAt μ k p r) : μ.fi 103 p = ORIG r := h.2.2.2.2.2.2.2.1
theorem LeAt.fa {k p : Nat} {r : Row} (h : LeAt μ k p r) : ∃ fa, μ.fr 99 p = some fa ∧ μ.kd fa % 32 = 11 ∧ μ.ln fa = 6 ∧ ∀ i, i < 6 → μ.ei fa i = r (3 + i) := by
  obtain ⟨fa, b1, b2, b3, b4⟩ := h.2.2.2.2.2.2.2.2
  exact ⟨fa, b1, by rw [b2]; unfold FM; omega, b3, b4⟩
end
end
