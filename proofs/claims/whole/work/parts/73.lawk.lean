section
/-- the cells whose kind is outside W stay -/
def FrX (W : Nat → Prop) (μ μ' : Mem) : Prop := ∀ q, μ.kd q ≠ 0 → ¬ W (μ.kd q) → SameAt μ μ' q
theorem FrX.st {W : Nat → Prop} {μ μ' : Mem} (hf : FrX W μ μ') {q k : Nat} (h : μ.kd q = k) (h0 : k ≠ 0) (hw : ¬ W k) : SameAt μ μ' q := hf q (by rw [h]; exact h0) (by rw [h]; exact hw)
theorem SesAt.kepX {W : Nat → Prop} {μ μ' : Mem} {k : Nat} {o : Option Nat} {v : Option Ses} (h : SesAt μ k o v) (hf : FrX W μ μ') (h0 : k ≠ 0) (hw : ¬ W k) : SesAt μ' k o v := by
  rcases h with h | ⟨s, r, e1, e2, hk, a1, a2, a3, a4, a5, a6, a7, a8, a9, a10⟩
  · exact Or.inl h
  · obtain ⟨s1, s2, s3, s4, -⟩ := hf.st hk h0 hw
    exact Or.inr ⟨s, r, e1, e2, by rw [s1]; exact hk, by rw [s2]; exact a1, by rw [s2]; exact a2, by rw [s2]; exact a3, by rw [s2]; exact a4, by rw [s2]; exact a5, by rw [s2]; exact a6, by rw [s2]; exact a7, by rw [s2]; exact a8, by rw [s2]; exact a9, by rw [s4]; exact a10⟩
theorem FlAt.kepX {W : Nat → Prop} {μ μ' : Mem} {o : Option Nat} {v : Option Row} (h : FlAt μ o v) (hf : FrX W μ μ') (hw : ¬ W KFL) : FlAt μ' o v := by
  rcases h with h | ⟨s, r, e1, e2, hk, a1, a2, a3, a4⟩
  · exact Or.inl h
  · obtain ⟨s1, s2, -⟩ := hf.st hk (by decide) hw
    exact Or.inr ⟨s, r, e1, e2, by rw [s1]; exact hk, by rw [s2]; exact a1, by rw [s2]; exact a2, by rw [s2]; exact a3, by rw [s2]; exact a4⟩
theorem PkAt.kepX {W : Nat → Prop} {μ μ' : Mem} {p : Nat} {w x y z : Int32} (h : PkAt μ p w x y z) (hf : FrX W μ μ') (hw : ¬ W KPK) : PkAt μ' p w x y z := by
  obtain ⟨hk, a1, a2, a3, a4⟩ := h
  obtain ⟨s1, s2, -⟩ := hf.st hk (by decide) hw
  exact ⟨by rw [s1]; exact hk, by rw [s2]; exact a1, by rw [s2]; exact a2, by rw [s2]; exact a3, by rw [s2]; exact a4⟩
theorem RtAt.kepX {W : Nat → Prop} {μ μ' : Mem} {k p : Nat} {r : Row} (h : RtAt μ k p r) (hf : FrX W μ μ') (h0 : k ≠ 0) (hw : ¬ W k) : RtAt μ' k p r := by
  obtain ⟨hk, a1, a2, a3⟩ := h
  obtain ⟨s1, s2, -⟩ := hf.st hk h0 hw
  exact ⟨by rw [s1]; exact hk, by rw [s2]; exact a1, by rw [s2]; exact a2, by rw [s2]; exact a3⟩
theorem LeAt.kepX {W : Nat → Prop} {μ μ' : Mem} {k p : Nat} {r : Row} (h : LeAt μ k p r) (hf : FrX W μ μ') (h0 : k ≠ 0) (hw : ¬ W k) (hw2 : ¬ W (FM p)) : LeAt μ' k p r := by
  obtain ⟨hk, a1, a2, a3, a4, a5, a6, a7, fa, b1, b2, b3, b4⟩ := h
  obtain ⟨s1, s2, s3, -⟩ := hf.st hk h0 hw
  obtain ⟨t1, -, -, -, t5, t6, -⟩ := hf.st b2 (by unfold FM; omega) hw2
  exact ⟨by rw [s1]; exact hk, by rw [s2]; exact a1, by rw [s2]; exact a2, by rw [s2]; exact a3, by rw [s2]; exact a4, by rw [s2]; exact a5, by rw [s2]; exact a6, by rw [s2]; exact a7, fa, by rw [s3]; exact b1, by rw [t1]; exact b2, by rw [t5]; exact b3, fun i hi => by rw [t6]; exact b4 i hi⟩
theorem cX.kepX {W : Nat → Prop} {P : Nat → Nat} {μ μ' : Mem} (h : cX P μ) (hk : cK P μ) (hf : FrX W μ μ') (hw : ¬ W (KS 0)) : cX P μ' := by
  obtain ⟨s1, s2, s3, -⟩ := hf.st (hk 0 (by decide)) (KS_ne 0) hw
  exact ⟨by rw [s3]; exact h.1, by rw [s3]; exact h.2.1, by rw [s3]; exact h.2.2⟩
theorem cT.kepX {W : Nat → Prop} {P : Nat → Nat} {μ μ' : Mem} {sc : Nat → Int32} (h : cT P μ sc) (hk : cK P μ) (hf : FrX W μ μ') (hw : ¬ W (KS 0)) : cT P μ' sc := by
  obtain ⟨s1, s2, -⟩ := hf.st (hk 0 (by decide)) (KS_ne 0) hw
  exact ⟨by rw [s2]; exact h.1, by rw [s2]; exact h.2.1, by rw [s2]; exact h.2.2⟩
theorem cA.kepX {W : Nat → Prop} {P : Nat → Nat} {μ μ' : Mem} (h : cA P μ) (hk : cK P μ) (hf : FrX W μ μ') (h1 : ¬ W (KS 1)) (h3 : (∀ k, W k → k ≠ KS 3) ∨ μ'.ln (P 3) = μ.ln (P 3)) (h7 : ∀ e, e < 3 → ¬ W (KS (7 + e))) : cA P μ' := by
  obtain ⟨-, -, -, -, s5, -, s7, -⟩ := hf.st (hk 1 (by decide)) (KS_ne 1) h1
  refine ⟨by rw [s5]; exact h.1, ?_, fun e he => ?_⟩
  · rcases h3 with h3 | h3
    · obtain ⟨-, -, -, -, t5, -⟩ := hf.st (hk 3 (by decide)) (KS_ne 3) (fun c => h3 _ c rfl)
      rw [t5]; exact h.2.1
    · rw [h3]; exact h.2.1
  · obtain ⟨-, -, -, -, t5, -, t7, -⟩ := hf.st (hk (7 + e) (by omega)) (KS_ne _) (h7 e he)
    have h9 := h.2.2 e he
    exact ⟨by rw [s7]; exact h9.1, by rw [t5]; exact h9.2.1, fun b hb => by rw [t7]; exact h9.2.2 b hb⟩
theorem cC.kepX {W : Nat → Prop} {P : Nat → Nat} {μ μ' : Mem} {cd : Nat → Int32} (h : cC P μ cd) (hk : cK P μ) (hf : FrX W μ μ') (hw : ¬ W (KS 3)) : cC P μ' cd := by
  obtain ⟨-, -, -, -, -, s6, -⟩ := hf.st (hk 3 (by decide)) (KS_ne 3) hw
  exact fun i hi => by rw [s6]; exact h i hi
theorem cE.kepX {W : Nat → Prop} {P : Nat → Nat} {μ μ' : Mem} (h : cE P μ) (hk : cK P μ) (hf : FrX W μ μ') (hw : ∀ e, e < 3 → ¬ W (KS (4 + e))) : cE P μ' := fun e he => by
  obtain ⟨s1, s2, s3, -⟩ := hf.st (hk (4 + e) (by omega)) (KS_ne _) (hw e he)
  rw [s2, s2, s3, s3, s3]
  exact h e he
theorem cF.kepX {W : Nat → Prop} {P : Nat → Nat} {μ μ' : Mem} {ef : Nat → Nat → Int32} (h : cF P μ ef) (hk : cK P μ) (hf : FrX W μ μ') (hw : ∀ e, e < 3 → ¬ W (KS (4 + e))) : cF P μ' ef := fun e he => by
  obtain ⟨s1, s2, s3, -⟩ := hf.st (hk (4 + e) (by omega)) (KS_ne _) (hw e he)
  rw [s2, s2]
  exact h e he
theorem cL.kepX {W : Nat → Prop} {P : Nat → Nat} {μ μ' : Mem} (h : cL P μ) (hk : cK P μ) (hf : FrX W μ μ') (hw : ∀ a b, a < 3 → b < 3 → ¬ W (KS (16 + 3 * a + b))) : cL P μ' := fun a b ha hb => by
  obtain ⟨s1, s2, s3, -⟩ := hf.st (hk (16 + 3 * a + b) (by omega)) (KS_ne _) (hw a b ha hb)
  rw [s2, s2, s2, s3]
  exact h a b ha hb
theorem cM.kepX {W : Nat → Prop} {P : Nat → Nat} {μ μ' : Mem} {lf : Nat → Nat → Nat → Int32} (h : cM P μ lf) (hk : cK P μ) (hf : FrX W μ μ') (hw : ∀ a b, a < 3 → b < 3 → ¬ W (KS (16 + 3 * a + b))) : cM P μ' lf := fun a b ha hb => by
  obtain ⟨s1, s2, s3, -⟩ := hf.st (hk (16 + 3 * a + b) (by omega)) (KS_ne _) (hw a b ha hb)
  rw [s2, s2, s2, s2, s2]
  exact h a b ha hb
theorem cS.kepX {W : Nat → Prop} {P : Nat → Nat} {μ μ' : Mem} {ses : Nat → Nat → Nat → Option Ses} (h : cS P μ ses) (hk : cK P μ) (hf : FrX W μ μ') (hw : ∀ a b, a < 3 → b < 3 → ¬ W (KS (16 + 3 * a + b))) (hw2 : ∀ a b w, a < 3 → b < 3 → w < 3 → ¬ W (KSES a b w)) : cS P μ' ses := fun a b ha hb => by
  obtain ⟨s1, s2, s3, -⟩ := hf.st (hk (16 + 3 * a + b) (by omega)) (KS_ne _) (hw a b ha hb)
  rw [s3, s3, s3]
  obtain ⟨h1, h2, h3⟩ := h a b ha hb
  exact ⟨h1.kepX hf (by unfold KSES; omega) (hw2 a b 0 ha hb (by decide)), h2.kepX hf (by unfold KSES; omega) (hw2 a b 1 ha hb (by decide)), h3.kepX hf (by unfold KSES; omega) (hw2 a b 2 ha hb (by decide))⟩
theorem cFl.kepX {W : Nat → Prop} {P : Nat → Nat} {μ μ' : Mem} {fl : Nat → Nat → Option Row} (h : cFl P μ fl) (hk : cK P μ) (hf : FrX W μ μ') (hw : ∀ a b, a < 3 → b < 3 → ¬ W (KS (16 + 3 * a + b))) (hw2 : ¬ W KFL) : cFl P μ' fl := fun a b ha hb => by
  obtain ⟨s1, s2, s3, -⟩ := hf.st (hk (16 + 3 * a + b) (by omega)) (KS_ne _) (hw a b ha hb)
  rw [s3]
  exact (h a b ha hb).kepX hf hw2
theorem ListAt.kepX {G : Gx} {μ μ' : Mem} {ρ : Nat} {xs : List Nat} {W : Nat → Prop} (h : ListAt G μ ρ xs) (hf : FrX W μ μ') (h1 : ¬ W (μ.kd ρ)) (h2 : ¬ W (LM ρ)) (h3 : ∀ x ∈ xs, μ'.kd x = μ.kd x) : ListAt G μ' ρ xs := by
  obtain ⟨a1, a2, a3, a4, a, b1, b2⟩ := h
  obtain ⟨s1, s2, s3, s4, s5, s6, s7, s8⟩ := hf ρ (by omega) h1
  refine ⟨by rw [s1]; exact a1, a2, by rw [s2]; exact a3, fun x hx => by rw [h3 x hx]; exact a4 x hx, a, by rw [s3]; exact b1, ?_⟩
  rcases b2 with b2 | ⟨b2, b3, b4, b5, b6⟩
  · exact Or.inl b2
  · obtain ⟨t1, t2, t3, t4, t5, t6, t7, t8⟩ := hf a (by rw [b2]; unfold LM; omega) (by rw [b2]; exact h2)
    exact Or.inr ⟨by rw [t1]; exact b2, by rw [t5]; exact b3, by rw [t5]; exact b4, by rw [t5]; exact b5, fun i x hi => by rw [t7]; exact b6 i x hi⟩
theorem LR.kdX {R : Nat → Row → Prop} {xs : List Nat} {rs : List Row} {μ μ' : Mem} (h : LR R xs rs) (hs : ∀ x r, R x r → SameAt μ μ' x) : ∀ x ∈ xs, μ'.kd x = μ.kd x := fun x hx => by
  obtain ⟨i, r, -, -, h3⟩ := h.rk hx
  exact (hs x r h3).1
theorem isC_KSj (j : Nat) (h : j < 34) : isC (KS j) := ⟨KS_ne j, Or.inl (by rw [KS_div]; omega)⟩
theorem isC_LMr (ρ : Nat) : isC (LM ρ) := by unfold isC LM; omega
/-- the class's picture reads the class's cells only -/
theorem CRep.other {G : Gx} {P : Nat → Nat} {S : Sx} {μ μ' : Mem} (h : CRep G P S μ) (hs : ∀ q, isC (μ.kd q) → SameAt μ μ' q) : CRep G P S μ' := by
  have hf : FrX (fun k => ¬ isC k) μ μ' := fun q _ hw => hs q (Classical.not_not.mp hw)
  have nn : ∀ {k : Nat}, isC k → ¬ (fun k => ¬ isC k) k := fun h w => w h
  obtain ⟨h1, h2, h3, h4, h5, h6, h7, h8, h9, h10, h11, h12, h13, h14, h15⟩ := h
  have n1 : ∀ j, j < 34 → ¬ (fun k => ¬ isC k) (KS j) := fun j hj => nn (isC_KSj j hj)
  have sK : ∀ j, j < 34 → SameAt μ μ' (P j) := fun j hj => hf.st (h1 j hj) (KS_ne j) (n1 j hj)
  refine ⟨fun j hj => by rw [(sK j hj).1]; exact h1 j hj, h2.kepX h1 hf (n1 0 (by decide)), h3.kepX h1 hf (n1 0 (by decide)), h4.kepX h1 hf (n1 1 (by decide)) (Or.inr (sK 3 (by decide)).2.2.2.2.1) (fun e he => n1 _ (by omega)), h5.kepX h1 hf (n1 3 (by decide)), h6.kepX h1 hf (fun e he => n1 _ (by omega)), h7.kepX h1 hf (fun e he => n1 _ (by omega)), h8.kepX h1 hf (fun a b ha hb => n1 _ (by omega)), h9.kepX h1 hf (fun a b ha hb => n1 _ (by omega)), h10.kepX h1 hf (fun a b ha hb => n1 _ (by omega)) (fun a b w ha hb hw => nn ⟨by unfold KSES; omega, Or.inl (by unfold KSES; omega)⟩), h11.kepX h1 hf (fun a b ha hb => n1 _ (by omega)) (nn ⟨by decide, Or.inl (by decide)⟩), fun a b ha hb => ?_, fun e he => ?_, fun e he => ?_, ?_⟩
  · obtain ⟨xs, x1, x2⟩ := h12 a b ha hb
    have kP : ¬ (fun k => ¬ isC k) KPK := nn ⟨by decide, Or.inl (by decide)⟩
    exact ⟨xs, x1.kepX hf (by rw [h1 _ (by omega)]; exact n1 _ (by omega)) (nn (isC_LMr _)) (x2.kdX (fun x r hx => hf.st hx.1 (by decide) kP)), x2.imp fun p _ r hp => hp.kepX hf kP⟩
  · obtain ⟨xs, x1, x2, x3⟩ := h13 e he
    have kP : ¬ (fun k => ¬ isC k) (KRT e) := nn ⟨by unfold KRT; omega, Or.inl (by unfold KRT; omega)⟩
    exact ⟨xs, x1.kepX hf (by rw [h1 _ (by omega)]; exact n1 _ (by omega)) (nn (isC_LMr _)) (x3.kdX (fun x r hx => hf.st hx.1 (by unfold KRT; omega) kP)), x2, x3.imp fun p _ r hp => hp.kepX hf (by unfold KRT; omega) kP⟩
  · obtain ⟨xs, x1, x2⟩ := h14 e he
    have kP : ¬ (fun k => ¬ isC k) KPK := nn ⟨by decide, Or.inl (by decide)⟩
    exact ⟨xs, x1.kepX hf (by rw [h1 _ (by omega)]; exact n1 _ (by omega)) (nn (isC_LMr _)) (x2.kdX (fun x r hx => hf.st hx.1 (by decide) kP)), x2.imp fun p _ r hp => hp.kepX hf kP⟩
  · obtain ⟨xs, x1, x2, x3⟩ := h15
    have kP : ¬ (fun k => ¬ isC k) KLET := nn ⟨by decide, Or.inl (by decide)⟩
    exact ⟨xs, x1.kepX hf (by rw [h1 _ (by omega)]; exact n1 _ (by omega)) (nn (isC_LMr _)) (x3.kdX (fun x r hx => hf.st hx.1 (by decide) kP)), x2, x3.imp fun p _ r hp => hp.kepX hf (by decide) kP (nn (by unfold isC FM; omega))⟩
theorem CRep.othM {G : Gx} {P : Nat → Nat} {S : Sx} {μ μ' : Mem} (h : CRep G P S μ) (hf : FrS isMk μ μ') : CRep G P S μ' := h.other fun q hq => (hf q).1 hq.1 (fun c => by
  have c1 := c.1
  have c2 := c.2
  have c3 := hq.2
  omega)
end
