section
theorem LR.app {R : Nat → Row → Prop} {xs : List Nat} {rs : List Row} {q : Nat} {r : Row} (h : LR R xs rs) (hq : R q r) : LR R (xs ++ [q]) (rs ++ [r]) := by
  refine ⟨by rw [List.length_append, List.length_append, h.1]; rfl, fun i p r9 h1 h2 => ?_⟩
  by_cases c : i < xs.length
  · rw [List.getElem?_append_left c] at h1
    rw [List.getElem?_append_left (by rw [← h.1]; exact c)] at h2
    exact h.2 i p r9 h1 h2
  · rw [List.getElem?_append_right (by omega)] at h1
    rw [List.getElem?_append_right (by rw [← h.1]; omega), ← h.1] at h2
    have h0 : i - xs.length = 0 := by
      have := (List.getElem?_eq_some_iff.mp h1).1
      have e : ([q] : List Nat).length = 1 := rfl
      omega
    rw [h0] at h1 h2
    cases h1
    cases h2
    exact hq
theorem LR.erase {R : Nat → Row → Prop} {xs : List Nat} {rs : List Row} (h : LR R xs rs) (i : Nat) : LR R (xs.eraseIdx i) (rs.eraseIdx i) := by
  refine ⟨by rw [List.length_eraseIdx, List.length_eraseIdx, h.1], fun j p r h1 h2 => ?_⟩
  rw [List.getElem?_eraseIdx] at h1 h2
  by_cases c : j < i
  · rw [if_pos c] at h1 h2
    exact h.2 j p r h1 h2
  · rw [if_neg c] at h1 h2
    exact h.2 (j + 1) p r h1 h2
theorem nodup_app {xs : List Nat} {q : Nat} (h : xs.Nodup) (hq : q ∉ xs) : (xs ++ [q]).Nodup := List.nodup_append.mpr ⟨h, List.nodup_cons.mpr ⟨(fun z => (nomatch z)), List.nodup_nil⟩, fun a ha b hb e => by
  rw [List.mem_singleton.mp hb] at e
  exact hq (by rw [← e]; exact ha)⟩
theorem nodup_erase {xs : List Nat} (h : xs.Nodup) (i : Nat) : (xs.eraseIdx i).Nodup := List.Nodup.sublist (List.eraseIdx_sublist xs i) h
theorem nodup_gone {xs : List Nat} (h : xs.Nodup) {i q : Nat} (hi : xs[i]? = some q) : q ∉ xs.eraseIdx i := fun hq => by
  obtain ⟨j, hj⟩ := List.getElem?_of_mem hq
  rw [List.getElem?_eraseIdx] at hj
  by_cases c : j < i
  · rw [if_pos c] at hj
    have := (List.getElem?_inj (List.getElem?_eq_some_iff.mp hj).1 h).mp (hj.trans hi.symm)
    omega
  · rw [if_neg c] at hj
    have := (List.getElem?_inj (List.getElem?_eq_some_iff.mp hj).1 h).mp (hj.trans hi.symm)
    omega
theorem LM_inj {x y : Nat} (h : LM x = LM y) : x = y := by unfold LM at h; omega
/-- when list j0 has changed: all the rest stands -/
theorem CRep.lw {G : Gx} {P : Nat → Nat} {S : Sx} {μ μ' : Mem} (h : CRep G P S μ) {j0 : Nat} (hj : j0 < 34) (hl : j0 = 2 ∨ (10 ≤ j0 ∧ j0 < 16) ∨ 25 ≤ j0) (hf : FrK (LW μ (P j0)) μ μ') :
    (cK P μ' ∧ cX P μ' ∧ cT P μ' S.sc ∧ cA P μ' ∧ cC P μ' S.cd ∧ cE P μ' ∧ cF P μ' S.ef ∧ cL P μ' ∧ cM P μ' S.lf ∧ cS P μ' S.ses ∧ cFl P μ' S.fl) ∧
    (∀ a b, a < 3 → b < 3 → 25 + 3 * a + b ≠ j0 → ∃ xs, ListAt G μ' (P (25 + 3 * a + b)) xs ∧ LR (fun p r => PkAt μ' p (nI b) (r 0) (r 1) (r 2)) xs (S.wt a b)) ∧
    (∀ e, e < 3 → 10 + e ≠ j0 → ∃ xs, ListAt G μ' (P (10 + e)) xs ∧ xs.Nodup ∧ LR (RtAt μ' (KRT e)) xs (S.rt e)) ∧
    (∀ e, e < 3 → 13 + e ≠ j0 → ∃ xs, ListAt G μ' (P (13 + e)) xs ∧ LR (fun p r => PkAt μ' p (r 1) (r 2) (r 3) (r 4)) xs (OUT e S.ou)) ∧
    (2 ≠ j0 → cN G P μ' S.nt) ∧ (∀ k, k ≠ 0 → 34 < k / 32 → k / 32 < 1000 → ¬ LW μ (P j0) k) ∧ (∀ q, ¬ LW μ (P j0) (FM q)) := by
  obtain ⟨h1, h2, h3, h4, h5, h6, h7, h8, h9, h10, h11, h12, h13, h14, h15⟩ := h
  have hk0 := h1 j0 hj
  have n1 : ∀ j, j < 34 → j ≠ j0 → ¬ LW μ (P j0) (KS j) := fun j hj9 hne c => by
    rcases c with c | c
    · rw [hk0] at c; exact KS_ap hne c
    · exact KS_LM hj9 c.symm
  have n2 : ∀ i, i < 34 → i ≠ j0 → ¬ LW μ (P j0) (LM (P i)) := fun i hi hne c => by
    rcases c with c | c
    · rw [hk0] at c; exact KS_LM hj c
    · exact h1.inj hi hj hne (LM_inj c)
  have n3 : ∀ k, k ≠ 0 → 34 < k / 32 → k / 32 < 1000 → ¬ LW μ (P j0) k := fun k _ ha hb c => by
    rcases c with c | c
    · rw [hk0] at c
      have := KS_div j0
      rw [← c] at this
      omega
    · unfold LM at c; omega
  have n4 : ∀ q, ¬ LW μ (P j0) (FM q) := fun q c => by
    rcases c with c | c
    · rw [hk0] at c
      have := KS_div j0
      rw [← c] at this
      unfold FM at this
      omega
    · unfold LM FM at c; omega
  refine ⟨⟨h1.kept hf, h2.kept h1 hf (n1 0 (by decide) (by omega)), h3.kept h1 hf (n1 0 (by decide) (by omega)), h4.kept h1 hf (n1 1 (by decide) (by omega)) (Or.inl fun k hk e => n1 3 (by decide) (by omega) (by rw [← e]; exact hk)) (fun e he => n1 _ (by omega) (by omega)), h5.kept h1 hf (n1 3 (by decide) (by omega)), h6.kept h1 hf (fun e he => n1 _ (by omega) (by omega)), h7.kept h1 hf (fun e he => n1 _ (by omega) (by omega)), h8.kept h1 hf (fun a b ha hb => n1 _ (by omega) (by omega)), h9.kept h1 hf (fun a b ha hb => n1 _ (by omega) (by omega)),
    h10.kept h1 hf (fun a b ha hb => n1 _ (by omega) (by omega)) (fun a b w ha hb hw => n3 _ (by unfold KSES; omega) (by unfold KSES; omega) (by unfold KSES; omega)), h11.kept h1 hf (fun a b ha hb => n1 _ (by omega) (by omega)) (n3 _ (by decide) (by decide) (by decide))⟩, fun a b ha hb hne => ?_, fun e he hne => ?_, fun e he hne => ?_, fun hne => ?_, n3, n4⟩
  · obtain ⟨xs, g1, g2⟩ := h12 a b ha hb
    exact ⟨xs, g1.kept hf (by rw [h1 _ (by omega)]; exact n1 _ (by omega) hne) (n2 _ (by omega) hne), g2.imp fun p _ r hp => hp.kept hf (n3 _ (by decide) (by decide) (by decide))⟩
  · obtain ⟨xs, g1, g2, g3⟩ := h13 e he
    exact ⟨xs, g1.kept hf (by rw [h1 _ (by omega)]; exact n1 _ (by omega) hne) (n2 _ (by omega) hne), g2, g3.imp fun p _ r hp => hp.kept hf (by unfold KRT; omega) (n3 _ (by unfold KRT; omega) (by unfold KRT; omega) (by unfold KRT; omega))⟩
  · obtain ⟨xs, g1, g2⟩ := h14 e he
    exact ⟨xs, g1.kept hf (by rw [h1 _ (by omega)]; exact n1 _ (by omega) hne) (n2 _ (by omega) hne), g2.imp fun p _ r hp => hp.kept hf (n3 _ (by decide) (by decide) (by decide))⟩
  · exact h15.kept h1 hf (n1 2 (by decide) hne) (n2 2 (by decide) hne) (n3 _ (by decide) (by decide) (by decide)) (fun q _ => n4 q)
section
variable {G : Gx} {P : Nat → Nat} {S : Sx} {μ μ' : Mem} {xs : List Nat}
theorem CRep.addNt (h : CRep G P S μ) (hn : xs.Nodup) (hx : LR (LeAt μ KLET) xs S.nt) {q : Nat} {r : Row} (hq : LeAt μ KLET q r) (hqx : q ∉ xs) (hl : ListAt G μ' (P 2) (xs ++ [q])) (hf : FrK (LW μ (P 2)) μ μ') : CRep G P (S.sNt (S.nt ++ [r])) μ' := by
  obtain ⟨⟨g1, g2, g3, g4, g5, g6, g7, g8, g9, g10, g11⟩, g12, g13, g14, -, n3, n4⟩ := h.lw (j0 := 2) (by decide) (by omega) hf
  have kp : ∀ p r, LeAt μ KLET p r → LeAt μ' KLET p r := fun p r hp => hp.kept hf (by decide) (n3 _ (by decide) (by decide) (by decide)) (n4 p)
  exact ⟨g1, g2, g3, g4, g5, g6, g7, g8, g9, g10, g11, fun a b ha hb => g12 a b ha hb (by omega), fun e he => g13 e he (by omega), fun e he => g14 e he (by omega), xs ++ [q], hl, nodup_app hn hqx, (hx.imp fun p _ r hp => kp p r hp).app (kp q r hq)⟩
theorem CRep.rmNt (h : CRep G P S μ) (hn : xs.Nodup) (hx : LR (LeAt μ KLET) xs S.nt) (i : Nat) (hl : ListAt G μ' (P 2) (xs.eraseIdx i)) (hf : FrK (LW μ (P 2)) μ μ') : CRep G P (S.sNt (S.nt.eraseIdx i)) μ' := by
  obtain ⟨⟨g1, g2, g3, g4, g5, g6, g7, g8, g9, g10, g11⟩, g12, g13, g14, -, n3, n4⟩ := h.lw (j0 := 2) (by decide) (by omega) hf
  have kp : ∀ p r, LeAt μ KLET p r → LeAt μ' KLET p r := fun p r hp => hp.kept hf (by decide) (n3 _ (by decide) (by decide) (by decide)) (n4 p)
  exact ⟨g1, g2, g3, g4, g5, g6, g7, g8, g9, g10, g11, fun a b ha hb => g12 a b ha hb (by omega), fun e he => g13 e he (by omega), fun e he => g14 e he (by omega), xs.eraseIdx i, hl, nodup_erase hn i, (hx.imp fun p _ r hp => kp p r hp).erase i⟩
theorem CRep.wtAll (h : CRep G P S μ) {a b : Nat} (ha : a < 3) (hb : b < 3) {rs : List Row} (hl : ∃ xs, ListAt G μ' (P (25 + 3 * a + b)) xs ∧ LR (fun p r => PkAt μ' p (nI b) (r 0) (r 1) (r 2)) xs rs) (hf : FrK (LW μ (P (25 + 3 * a + b))) μ μ') : CRep G P (S.sWt a b rs) μ' := by
  obtain ⟨⟨g1, g2, g3, g4, g5, g6, g7, g8, g9, g10, g11⟩, g12, g13, g14, g15, n3, n4⟩ := h.lw (j0 := 25 + 3 * a + b) (by omega) (by omega) hf
  refine ⟨g1, g2, g3, g4, g5, g6, g7, g8, g9, g10, g11, fun a9 b9 ha9 hb9 => ?_, fun e he => g13 e he (by omega), fun e he => g14 e he (by omega), g15 (by omega)⟩
  by_cases c : a9 = a ∧ b9 = b
  · obtain ⟨rfl, rfl⟩ := c
    show ∃ xs, ListAt G μ' (P (25 + 3 * a9 + b9)) xs ∧ LR (fun p r => PkAt μ' p (nI b9) (r 0) (r 1) (r 2)) xs (w2 S.wt a9 b9 rs a9 b9)
    rw [w2_eq]
    exact hl
  · show ∃ xs, ListAt G μ' (P (25 + 3 * a9 + b9)) xs ∧ LR (fun p r => PkAt μ' p (nI b9) (r 0) (r 1) (r 2)) xs (w2 S.wt a b rs a9 b9)
    rw [w2_ne c]
    exact g12 a9 b9 ha9 hb9 (by omega)
theorem CRep.pkKept (h : CRep G P S μ) {j0 : Nat} (hj : j0 < 34) (hl : j0 = 2 ∨ (10 ≤ j0 ∧ j0 < 16) ∨ 25 ≤ j0) (hf : FrK (LW μ (P j0)) μ μ') {p : Nat} {w x y z : Int32} (hp : PkAt μ p w x y z) : PkAt μ' p w x y z := hp.kept hf ((h.lw hj hl hf).2.2.2.2.2.1 _ (by decide) (by decide) (by decide))
theorem CRep.addWt (h : CRep G P S μ) {a b : Nat} (ha : a < 3) (hb : b < 3) (hx : LR (fun p r => PkAt μ p (nI b) (r 0) (r 1) (r 2)) xs (S.wt a b)) {q : Nat} {r : Row} (hq : PkAt μ q (nI b) (r 0) (r 1) (r 2)) (hl : ListAt G μ' (P (25 + 3 * a + b)) (xs ++ [q])) (hf : FrK (LW μ (P (25 + 3 * a + b))) μ μ') : CRep G P (S.sWt a b (S.wt a b ++ [r])) μ' :=
  h.wtAll ha hb ⟨_, hl, (hx.imp fun p _ r hp => h.pkKept (by omega) (by omega) hf hp).app (h.pkKept (by omega) (by omega) hf hq)⟩ hf
theorem CRep.rmWt (h : CRep G P S μ) {a b : Nat} (ha : a < 3) (hb : b < 3) (hx : LR (fun p r => PkAt μ p (nI b) (r 0) (r 1) (r 2)) xs (S.wt a b)) (i : Nat) (hl : ListAt G μ' (P (25 + 3 * a + b)) (xs.eraseIdx i)) (hf : FrK (LW μ (P (25 + 3 * a + b))) μ μ') : CRep G P (S.sWt a b ((S.wt a b).eraseIdx i)) μ' :=
  h.wtAll ha hb ⟨_, hl, (hx.imp fun p _ r hp => h.pkKept (by omega) (by omega) hf hp).erase i⟩ hf
theorem CRep.rtAll (h : CRep G P S μ) {e : Nat} (he : e < 3) {rs : List Row} (hl : ∃ xs, ListAt G μ' (P (10 + e)) xs ∧ xs.Nodup ∧ LR (RtAt μ' (KRT e)) xs rs) (hf : FrK (LW μ (P (10 + e))) μ μ') : CRep G P (S.sRt e rs) μ' := by
  obtain ⟨⟨g1, g2, g3, g4, g5, g6, g7, g8, g9, g10, g11⟩, g12, g13, g14, g15, n3, n4⟩ := h.lw (j0 := 10 + e) (by omega) (by omega) hf
  refine ⟨g1, g2, g3, g4, g5, g6, g7, g8, g9, g10, g11, fun a9 b9 ha9 hb9 => g12 a9 b9 ha9 hb9 (by omega), fun e9 he9 => ?_, fun e he => g14 e he (by omega), g15 (by omega)⟩
  by_cases c : e9 = e
  · subst c
    show ∃ xs, ListAt G μ' (P (10 + e9)) xs ∧ xs.Nodup ∧ LR (RtAt μ' (KRT e9)) xs (u1 S.rt e9 rs e9)
    rw [u1_eq]
    exact hl
  · show ∃ xs, ListAt G μ' (P (10 + e9)) xs ∧ xs.Nodup ∧ LR (RtAt μ' (KRT e9)) xs (u1 S.rt e rs e9)
    rw [u1_ne c]
    exact g13 e9 he9 (by omega)
theorem CRep.rtKept (h : CRep G P S μ) {e : Nat} (he : e < 3) (hf : FrK (LW μ (P (10 + e))) μ μ') {p : Nat} {r : Row} (hp : RtAt μ (KRT e) p r) : RtAt μ' (KRT e) p r := hp.kept hf (by unfold KRT; omega) ((h.lw (j0 := 10 + e) (by omega) (by omega) hf).2.2.2.2.2.1 _ (by unfold KRT; omega) (by unfold KRT; omega) (by unfold KRT; omega))
theorem CRep.addRt (h : CRep G P S μ) {e : Nat} (he : e < 3) (hn : xs.Nodup) (hx : LR (RtAt μ (KRT e)) xs (S.rt e)) {q : Nat} {r : Row} (hq : RtAt μ (KRT e) q r) (hqx : q ∉ xs) (hl : ListAt G μ' (P (10 + e)) (xs ++ [q])) (hf : FrK (LW μ (P (10 + e))) μ μ') : CRep G P (S.sRt e (S.rt e ++ [r])) μ' :=
  h.rtAll he ⟨_, hl, nodup_app hn hqx, (hx.imp fun p _ r hp => h.rtKept he hf hp).app (h.rtKept he hf hq)⟩ hf
theorem CRep.rmRt (h : CRep G P S μ) {e : Nat} (he : e < 3) (hn : xs.Nodup) (hx : LR (RtAt μ (KRT e)) xs (S.rt e)) (i : Nat) (hl : ListAt G μ' (P (10 + e)) (xs.eraseIdx i)) (hf : FrK (LW μ (P (10 + e))) μ μ') : CRep G P (S.sRt e ((S.rt e).eraseIdx i)) μ' :=
  h.rtAll he ⟨_, hl, nodup_erase hn i, (hx.imp fun p _ r hp => h.rtKept he hf hp).erase i⟩ hf
theorem OUT_app {e : Nat} {ou : List Row} {r : Row} : OUT e (ou ++ [r]) = if r 0 = nI e then OUT e ou ++ [r] else OUT e ou := by
  unfold OUT
  rw [List.filter_append]
  by_cases c : r 0 = nI e
  · rw [if_pos c]; simp [c]
  · rw [if_neg c]; simp [c]
theorem CRep.addOu (h : CRep G P S μ) {e : Nat} (he : e < 3) (hx : LR (fun p r => PkAt μ p (r 1) (r 2) (r 3) (r 4)) xs (OUT e S.ou)) {q : Nat} {r : Row} (hr : r 0 = nI e) (hq : PkAt μ q (r 1) (r 2) (r 3) (r 4)) (hl : ListAt G μ' (P (13 + e)) (xs ++ [q])) (hf : FrK (LW μ (P (13 + e))) μ μ') : CRep G P (S.sOu (S.ou ++ [r])) μ' := by
  obtain ⟨⟨g1, g2, g3, g4, g5, g6, g7, g8, g9, g10, g11⟩, g12, g13, g14, g15, n3, n4⟩ := h.lw (j0 := 13 + e) (by omega) (by omega) hf
  refine ⟨g1, g2, g3, g4, g5, g6, g7, g8, g9, g10, g11, fun a9 b9 ha9 hb9 => g12 a9 b9 ha9 hb9 (by omega), fun e he => g13 e he (by omega), fun e9 he9 => ?_, g15 (by omega)⟩
  show ∃ xs, ListAt G μ' (P (13 + e9)) xs ∧ LR (fun p r => PkAt μ' p (r 1) (r 2) (r 3) (r 4)) xs (OUT e9 (S.ou ++ [r]))
  rw [OUT_app, hr]
  by_cases c : e9 = e
  · subst c
    rw [if_pos rfl]
    exact ⟨_, hl, (hx.imp fun p _ r hp => h.pkKept (by omega) (by omega) hf hp).app (h.pkKept (by omega) (by omega) hf hq)⟩
  · rw [if_neg (fun z => c ((nI_eq (by omega) (by omega)).mp z).symm)]
    exact g14 e9 he9 (by omega)
end
/-! a floating thing's mark changes -/
theorem ke_skd {μ : Mem} {a k q : Nat} (h : q ≠ a) : (μ.skd a k).kd q = μ.kd q := (same_skd h).1
theorem FlAt.skd {μ : Mem} {a k : Nat} {o : Option Nat} {v : Option Row} (h : FlAt μ o v) (ha : μ.kd a ≠ KFL) : FlAt (μ.skd a k) o v := by
  rcases h with h | ⟨s, r, e1, e2, hk, h4⟩
  · exact Or.inl h
  · exact Or.inr ⟨s, r, e1, e2, (ke_skd (fun e => ha (by rw [← e]; exact hk))).trans hk, h4⟩
theorem SesAt.skd {μ : Mem} {a k k9 : Nat} {o : Option Nat} {v : Option Ses} (h : SesAt μ k9 o v) (ha : μ.kd a ≠ k9) : SesAt (μ.skd a k) k9 o v := by
  rcases h with h | ⟨s, r, e1, e2, hk, h4⟩
  · exact Or.inl h
  · exact Or.inr ⟨s, r, e1, e2, (ke_skd (fun e => ha (by rw [← e]; exact hk))).trans hk, h4⟩
theorem PkAt.skd {μ : Mem} {a k p : Nat} {w x y z : Int32} (h : PkAt μ p w x y z) (ha : μ.kd a ≠ KPK) : PkAt (μ.skd a k) p w x y z := ⟨(ke_skd (fun e => ha (by rw [← e]; exact h.1))).trans h.1, h.2⟩
theorem RtAt.skd {μ : Mem} {a k k9 p : Nat} {r : Row} (h : RtAt μ k9 p r) (ha : μ.kd a ≠ k9) : RtAt (μ.skd a k) k9 p r := ⟨(ke_skd (fun e => ha (by rw [← e]; exact h.1))).trans h.1, h.2⟩
theorem LeAt.skd {μ : Mem} {a k k9 p : Nat} {r : Row} (h : LeAt μ k9 p r) (ha : μ.kd a ≠ k9) (hm : μ.kd a % 32 ≠ 11) : LeAt (μ.skd a k) k9 p r := by
  obtain ⟨hk, a1, a2, a3, a4, a5, a6, a7, fa, b1, b2, b3, b4⟩ := h
  exact ⟨(ke_skd (fun e => ha (by rw [← e]; exact hk))).trans hk, a1, a2, a3, a4, a5, a6, a7, fa, b1, (ke_skd (fun e => hm (by rw [← e, b2]; unfold FM; omega))).trans b2, b3, b4⟩
theorem ListAt.skd {G : Gx} {μ : Mem} {a k ρ : Nat} {xs : List Nat} (h : ListAt G μ ρ xs) (ha : μ.kd a % 32 ≠ 14) (hρ : μ.kd a ≠ μ.kd ρ) (hk : k % 32 = μ.kd a % 32) : ListAt G (μ.skd a k) ρ xs := by
  obtain ⟨a1, a2, a3, a4, b, b1, b2⟩ := h
  refine ⟨by rw [ke_skd (fun e => hρ (by rw [e]))]; exact a1, a2, a3, fun x hx => ?_, b, b1, ?_⟩
  · by_cases e : x = a
    · subst e
      rw [kd_skd, hk]
      exact a4 x hx
    · rw [ke_skd e]; exact a4 x hx
  · rcases b2 with b2 | ⟨b2, b3⟩
    · exact Or.inl b2
    · exact Or.inr ⟨(ke_skd (fun e => ha (by rw [← e, b2]; exact LM_m ρ))).trans b2, b3⟩
theorem CRep.skd {G : Gx} {P : Nat → Nat} {S : Sx} {μ : Mem} (h : CRep G P S μ) {a k : Nat} (ha : μ.kd a / 32 = 40) (h14 : μ.kd a % 32 ≠ 14) (h11 : μ.kd a % 32 ≠ 11) (hk : k % 32 = μ.kd a % 32) : CRep G P S (μ.skd a k) := by
  obtain ⟨h1, h2, h3, h4, h5, h6, h7, h8, h9, g10, g11, g12, g13, g14, g15⟩ := h
  have n1 : ∀ j, j < 34 → μ.kd a ≠ μ.kd (P j) := fun j hj e => by
    have := KS_div j
    rw [e, h1 j hj] at ha
    omega
  refine ⟨fun j hj => (ke_skd (fun e => n1 j hj (by rw [e]))).trans (h1 j hj), h2, h3, h4, h5, h6, h7, h8, h9, fun a9 b9 ha9 hb9 => ?_, fun a9 b9 ha9 hb9 => (g11 a9 b9 ha9 hb9).skd (fun e => by rw [e] at ha; exact absurd ha (by decide)), fun a9 b9 ha9 hb9 => ?_, fun e he => ?_, fun e he => ?_, ?_⟩
  · obtain ⟨m0, m1, m2⟩ := g10 a9 b9 ha9 hb9
    exact ⟨m0.skd (fun e => by rw [e] at ha; unfold KSES at ha; omega), m1.skd (fun e => by rw [e] at ha; unfold KSES at ha; omega), m2.skd (fun e => by rw [e] at ha; unfold KSES at ha; omega)⟩
  · obtain ⟨xs, c1, c2⟩ := g12 a9 b9 ha9 hb9
    exact ⟨xs, c1.skd h14 (n1 _ (by omega)) hk, c2.imp fun p _ r hp => hp.skd (fun e => by rw [e] at ha; exact absurd ha (by decide))⟩
  · obtain ⟨xs, c1, c2, c3⟩ := g13 e he
    exact ⟨xs, c1.skd h14 (n1 _ (by omega)) hk, c2, c3.imp fun p _ r hp => hp.skd (fun z => by rw [z] at ha; unfold KRT at ha; omega)⟩
  · obtain ⟨xs, c1, c2⟩ := g14 e he
    exact ⟨xs, c1.skd h14 (n1 _ (by omega)) hk, c2.imp fun p _ r hp => hp.skd (fun z => by rw [z] at ha; exact absurd ha (by decide))⟩
  · obtain ⟨xs, c1, c2, c3⟩ := g15
    exact ⟨xs, c1.skd h14 (n1 2 (by decide)) hk, c2, c3.imp fun p _ r hp => hp.skd (fun z => by rw [z] at ha; exact absurd ha (by decide)) h11⟩

end
