section
theorem isC_0 : ¬ isC 0 := fun h => h.1 rfl
theorem fi_nO {μ : Mem} {a kd f : Nat} : (μ.newO a kd).fi f a = 0 := by
  show ua μ.fi _ _ f a = _
  unfold ua
  rw [if_pos rfl]
theorem OS_new {μ : Mem} (o : Nat) : OS o (μ.newA o KLO 1) := ⟨kd_newA, by show u1 μ.ln o 1 o = 1; unfold u1; rw [if_pos rfl]⟩
set_option maxRecDepth 100000 in
set_option maxHeartbeats 1000000 in
theorem st_law {Z : Zx} {sc L : Nat} {xs : Row} {okI : Nat → Sx → Prop} {μ : Mem} (C : Cx Z RL cL_law 15 601024 7293034 610) (NN : NcZ Z) (SZ : ScZ Z sc L xs) (hL : L ≤ 2560) (hinv : ∀ d S, okI (d + 1) S → okA S) (hstep : ∀ d S S', okI (d + 1) S → Sstep S S' → okI d S') (hI0 : okI 512 S0)
    (hend : ∀ (k n : Nat) (L9 : List (Option Value)) (m : Mem), k ≤ 601024 → n ≤ 7293034 → HW Z k n 2535 L9 [] m) : ∀ z1 z2 z3 z4 z5 z6 z7 z8 : Option Value, HW Z 0 0 0 [some (.ref sc), z1, z2, z3, z4, z5, z6, z7, z8] [] μ := by
  intro z1 z2 z3 z4 z5 z6 z7 z8
  refine nw_L_8 (KS 0) C dL_law_0 (by first | decide | omega) (by omega) (by omega) (fun x9 hx9 => ?_)
  refine h_dup C dL_law_3 rfl ?_
  refine h_callI0 (a_ := .null) C (k_X8_init Z.l Z.G x9 _ kd_newO) cw_L_118 im_X8_init rfl dL_law_4 (by first | decide | exact Nat.le_of_ble_eq_true rfl) (by decide) (by decide) (by omega) (by omega) (kV fun μ2 hp1 => ?_) kN
  obtain ⟨ea, nt, tl, en, la, rt, ou, lk, wt, hX, hF⟩ := hp1
  have hC := hX.rep
  refine h_ast_1 C dL_law_7 ct_r rfv_r ?_
  refine nw_L_119 (KM 0) C dL_law_8 (by first | decide | omega) (by omega) (by omega) (fun y9 hy9 => ?_)
  refine h_dup C dL_law_11 rfl ?_
  refine h_callI0 (a_ := .null) C (k_X9_init Z.l Z.G y9 _ kd_newO fi_nO fi_nO fi_nO fi_nO) cw_L_121 im_X9_init rfl dL_law_12 (by first | decide | exact Nat.le_of_ble_eq_true rfl) (by decide) (by decide) (by omega) (by omega) (kV fun μ4 hp2 => ?_) kN
  obtain ⟨Q, hQ, hT⟩ := hp2
  subst hQ
  have hC := (hC.other (fun q hq => same_newO (kd := KM 0) (fun e => by rw [e, hy9] at hq; exact absurd hq isC_0))).othM hT.2.1
  have hM := hT.1
  refine h_ast_2 C dL_law_15 ct_r rfv_r ?_
  refine h_iconst (v := 1) C dL_law_16 (by decide) ?_
  refine h_newarr (atype := .long) (N := 1) KLO C ac_13 (by decide) (Or.inr (Or.inr (by decide))) dL_law_17 (by decide) (by decide) (by decide) (by omega) (by omega) (fun o ho => ?_)
  have hC := hC.other (fun q hq => same_newA (kd := KLO) (N := 1) (fun e => by rw [e, ho] at hq; exact absurd hq isC_0))
  have hM := hM.same (fun q hq => same_newA (kd := KLO) (N := 1) (fun e => by rw [e, ho] at hq; exact absurd (usK_mk hq) (fun h => isMk_nz h rfl)))
  have hO := OS_new (μ := μ4) o
  refine h_ast_3 C dL_law_19 ct_r rfv_r ?_
  refine h_iconst (v := 0) C dL_law_20 (by decide) ?_
  refine h_ist_4 C dL_law_21 ct_r ?_
  exact lp_law C NN SZ hL hinv hstep hend 512 0 _ _ S0 0 _ _ _ _ _ (by omega) (by omega) (by omega) hI0 hC hM hO

end
