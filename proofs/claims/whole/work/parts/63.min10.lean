section
theorem pairC_z {x y : Int32} (h : pairC x y = 0) : isE x ∧ isE y ∧ ¬ x = y := by
  by_cases h1 : isE x ∧ isE y
  · by_cases h2 : x = y
    · rw [pairC_2 h1.1 h1.2 h2] at h
      exact absurd h (by decide)
    · exact ⟨h1.1, h1.2, h2⟩
  · rw [pairC_1 h1] at h
    exact absurd h (by decide)
theorem greC_p {S : Sx} {x y : Int32} (h : ¬ pairC x y = 0) : greC S x y = pairC x y := by
  unfold greC
  by_cases h1 : isE x ∧ isE y
  · by_cases h2 : x = y
    · rw [if_pos h1, if_neg (fun z => z h2), pairC_2 h1.1 h1.2 h2]
    · exact absurd (pairC_ok h1.1 h1.2 h2) h
  · rw [if_neg h1, pairC_1 h1]
theorem greC_0 {S : Sx} {x y : Int32} (h : pairC x y = 0) : greC S x y = if FREb S (cl x) (cl y) = true then 3 else 0 := by
  obtain ⟨h1, h2, h3⟩ := pairC_z h
  unfold greC
  rw [if_pos ⟨h1, h2⟩, if_pos h3]
theorem k_X9_isFrQ (l : Launch) (G : Gx) (Q : Nat → Nat) (S : Sx) (lx : LX) (μ : Mem) (hM : MRq Q S lx μ) (x y : Int32) (hx : isE x) (hy : isE y) : Kon l yX9_isFresh cX9_isFresh 3 (some .boolean) 0 0 0 0 G [.ref (Q 0), .int x, .int y] μ (pB (fun μ' => μ = μ' ∧ ¬ μ.ei (Q (21 + 3 * 3 + cl x)) (cl y) = -1 ∧ S.sc 0 - μ.ei (Q (21 + 3 * 6 + cl x)) (cl y) < 5) (fun μ' => μ = μ' ∧ ¬ (¬ μ.ei (Q (21 + 3 * 3 + cl x)) (cl y) = -1 ∧ S.sc 0 - μ.ei (Q (21 + 3 * 6 + cl x)) (cl y) < 5))) noX := by
  have h9 := k_X9_isFresh l G (Q 0) μ hM.kX _ _ _ hM.f288 (hM.I2 (t := 3) (by decide)) (hM.I2 (t := 6) (by decide)) (cl x) (cl y) hx.lt hy.lt
  rw [← hx.nI, ← hy.nI] at h9
  exact h9
/-- what the model's own walk needs of a letter that stands in the net -/
def okG (g : Row) : Prop := (g 2 = 1 ∨ g 2 = 2 ∨ g 2 = 3 ∨ g 2 = 4) ∧ (g 15 = -1 ∨ (0 ≤ (g 15).toInt ∧ (g 15).toInt < 6)) ∧ (∀ i, i < 6 → ¬ g 15 = nI i → g (9 + i) = g (3 + i)) ∧ ∀ i, i < 6 → (-10000 ≤ (g (3 + i)).toInt - (g (9 + i)).toInt ∧ (g (3 + i)).toInt - (g (9 + i)).toInt ≤ 10000) ∧ (-2100000000 ≤ (g (9 + i)).toInt ∧ (g (9 + i)).toInt ≤ 2100000000)
theorem LXo_set {S : Sx} {t : Int32} {k : Nat} {r : Row} : LXo (S.sNt (S.nt.set k r)) t = LXo S t := by
  unfold LXo
  show ((S.nt.set k r).length, _) = _
  rw [List.length_set]
  rfl
theorem MTo.seLt {Q : Nat → Nat} {S : Sx} {t : Int32} {μ0 μ m : Mem} {k z i : Nat} {v : Int32} {r r9 : Row} (h : MTo Q WAll μ0 S (LXo S t) μ) (hz : μ.er (Q 20) k = some z) (hr : S.nt[k]? = some r) (e1 : m = μ.sei z i v) (g1 : r9 i = v) (g2 : ∀ j, j < 16 → j ≠ i → r9 j = r j) : MTo Q WAll μ0 (S.sNt (S.nt.set k r9)) (LXo (S.sNt (S.nt.set k r9)) t) m ∧ RowAt m KLR z 16 r9 ∧ m.er (Q 20) k = some z := by
  obtain ⟨h1, h2⟩ := h.1.seL hz hr e1 g1 g2
  obtain ⟨z9, y1, y2⟩ := h.1.row hr
  cases hz.symm.trans y1
  refine ⟨?_, h2, by rw [e1]; exact hz⟩
  rw [LXo_set]
  exact h.seD (s := z) (by rw [y2.1]; exact ⟨by decide, by decide⟩) (Or.inr trivial) e1 h1
theorem set_r {l : List Row} {k : Nat} {r : Row} (h : k < l.length) : (l.set k r)[k]? = some r := by rw [List.getElem?_set_self h]
theorem set_s {S : Sx} {k : Nat} {r r9 : Row} : (S.sNt (S.nt.set k r)).sNt ((S.nt.set k r).set k r9) = S.sNt (S.nt.set k r9) := by
  show S.sNt ((S.nt.set k r).set k r9) = _
  rw [List.set_set]
set_option maxRecDepth 100000 in
set_option maxHeartbeats 1000000 in
theorem k_X9_keep (l : Launch) (G : Gx) (Q : Nat → Nat) (S : Sx) (t : Int32) (μ : Mem) (hM : MRq Q S (LXo S t) μ) (x y : Int32) (hW : okW S) : Kon l yX9_keep cX9_keep 3 (some .boolean) 3 3 28 77 G [.ref (Q 0), .int x, .int y] μ (pI fun v μ' => (v = 0 ∨ v = 1) ∧ ((pairC x y = 0 ∧ ((v = 1 ∧ ∃ r, USE S (cl x) (cl y) = some r ∧ MTo Q WAll μ (DATS S (cl x) (cl y) r (-1) (-1) (-1)) (LXo (DATS S (cl x) (cl y) r (-1) (-1) (-1)) 0) μ') ∨ (v = 0 ∧ USE S (cl x) (cl y) = none ∧ MTo Q WAll μ (S) (LXo (S) 0) μ'))) ∨ (¬ pairC x y = 0 ∧ MTo Q WAll μ S (LXo S (pairC x y)) μ'))) noX := by
  refine Kon.ofG (by decide +kernel) (Nat.le_of_ble_eq_true rfl) (Nat.le_of_ble_eq_true rfl) (fun Z hZG C E NT MT => ?_)
  subst hZG
  have C : Cx Z RX9 cX9_keep 3 3 28 77 := C
  show HW Z 0 0 0 [some (.ref (Q 0)), some (.int x), some (.int y)] [] μ
  have hT : MTo Q WAll μ S (LXo S t) μ := MTo.rf hM
  have h60_ := hM.nt.1
  refine h_al_g C dX9_keep_0 rfl rfl rfv_r ?_
  refine h_iload_g C dX9_keep_1 rfl rfl ?_
  refine h_iload_g C dX9_keep_2 rfl rfl ?_
  refine h_callS2 C (k_X9_pair Z.l Z.G _ _ _) cw_X9_224 st_X9_pair dX9_keep_3 (by first | decide | exact Nat.le_of_ble_eq_true rfl) (by decide) (by decide) (by decide) (by decide) (kI fun r1 μ1 hp1 => ?_) kN
  obtain ⟨rfl, rfl⟩ := hp1
  refine h_callV1 (ci := 9) C (k_X9_isWrong Z.l Z.G (Q 0) _ hM.kX (pairC x y)) cw_X9_215 im_X9_isWrong sl_X9_isWrong rfl (by decide) hM.kX dX9_keep_6 (by first | decide | exact Nat.le_of_ble_eq_true rfl) (by decide) (by decide) (by decide) (by decide) (kB (fun μ2 hp2 => ?_) (fun μ2 hp2 => ?_)) kN
  · obtain ⟨hc, e9⟩ := hp2
    have hT := hT.sfi (Or.inr trivial) e9 (hT.1.w290 e9)
    have hM := hT.1
    refine h_if_eq (tgt := 14) C dX9_keep_9 (by decide) (fun c1 => absurd c1 (by decide)) (fun c1 => ?_)
    refine h_iconst (v := 0) C dX9_keep_12 (by decide) ?_
    refine h_zret C E dX9_keep_13 (by decide) (by decide) (by first | exact Or.inl rfl | exact Or.inr rfl) ?_
    exact ⟨_, rfl, Or.inl rfl, Or.inr ⟨hc, hT⟩⟩
  · obtain ⟨hc, e9⟩ := hp2
    have hT := hT.sfi (Or.inr trivial) e9 (hT.1.w290 e9)
    have hM := hT.1
    rw [hc] at hT
    have hM := hT.1
    obtain ⟨hx, hy, hne⟩ := pairC_z hc
    refine h_if_eq (tgt := 14) C dX9_keep_9 (by decide) (fun c2 => ?_) (fun c2 => absurd (by decide) c2)
    refine h_al_g C dX9_keep_14 rfl rfl rfv_r ?_
    refine h_iload_g C dX9_keep_15 rfl rfl ?_
    refine h_iload_g C dX9_keep_16 rfl rfl ?_
    refine h_callV2 (ci := 9) C (k_X9_usable Z.l Z.G Q S _ _ hM _ hx.lt _ hx.nI _ hy.lt _ hy.nI) cw_X9_173 im_X9_usable sl_X9_usable rfl (by decide) hM.kX dX9_keep_17 (by first | decide | exact Nat.le_of_ble_eq_true rfl) (by decide) (by decide) (by decide) (by decide) (kB (fun μ3 hp3 => ?_) (fun μ3 hp3 => ?_)) kN
    · obtain ⟨rfl, r, hU⟩ := hp3
      refine h_if_ne (tgt := 25) C dX9_keep_20 (by decide) (fun c3 => ?_) (fun c3 => absurd c3 (by decide))
      refine h_al_g C dX9_keep_25 rfl rfl rfv_r ?_
      refine h_iload_g C dX9_keep_26 rfl rfl ?_
      refine h_iload_g C dX9_keep_27 rfl rfl ?_
      refine h_iconst (v := (-1)) C dX9_keep_28 (by decide) ?_
      refine h_iconst (v := (-1)) C dX9_keep_29 (by decide) ?_
      refine h_iconst (v := (-1)) C dX9_keep_30 (by decide) ?_
      refine h_callV5 (ci := 9) C (k_X9_data Z.l Z.G Q S _ _ hM _ hx.lt _ hx.nI _ hy.lt _ hy.nI _ _ _ r (USE_some hU) (hW.km hx.lt hy.lt r (USE_some hU)).1 (hW.km hx.lt hy.lt r (USE_some hU)).2) cw_X9_176 im_X9_data sl_X9_data rfl (by decide) hM.kX dX9_keep_31 (by first | decide | exact Nat.le_of_ble_eq_true rfl) (by decide) (by decide) (by decide) (by decide) (kV fun μ4 hp4 => ?_) kN
      have hDa := hp4
      have hT := hT.tr hDa (fun _ _ => trivial)
      have hM := hT.1
      refine h_iconst (v := 1) C dX9_keep_34 (by decide) ?_
      refine h_zret C E dX9_keep_35 (by decide) (by decide) (by first | exact Or.inl rfl | exact Or.inr rfl) ?_
      exact ⟨_, rfl, Or.inr rfl, Or.inl ⟨hc, Or.inl ⟨rfl, r, hU, hT⟩⟩⟩
    · obtain ⟨rfl, hU⟩ := hp3
      refine h_if_ne (tgt := 25) C dX9_keep_20 (by decide) (fun c4 => absurd c4 (by decide)) (fun c4 => ?_)
      refine h_iconst (v := 0) C dX9_keep_23 (by decide) ?_
      refine h_zret C E dX9_keep_24 (by decide) (by decide) (by first | exact Or.inl rfl | exact Or.inr rfl) ?_
      exact ⟨_, rfl, Or.inl rfl, Or.inl ⟨hc, Or.inr ⟨rfl, hU, hT⟩⟩⟩

set_option maxRecDepth 100000 in
set_option maxHeartbeats 1000000 in
theorem k_X9_greet (l : Launch) (G : Gx) (Q : Nat → Nat) (S : Sx) (t : Int32) (μ : Mem) (hM : MRq Q S (LXo S t) μ) (x y : Int32) (hW : okW S) : Kon l yX9_greet cX9_greet 4 (some .int) 5 5 33 116 G [.ref (Q 0), .int x, .int y] μ (pI fun v μ' => (greC S x y = 0 ∧ v = HNUM S ∧ MTo Q WAll μ (HELS S (cl x) (cl y)) (LXo (HELS S (cl x) (cl y)) 0) μ') ∨ (¬ greC S x y = 0 ∧ MTo Q WAll μ S (LXo S (greC S x y)) μ')) noX := by
  refine Kon.ofG (by decide +kernel) (Nat.le_of_ble_eq_true rfl) (Nat.le_of_ble_eq_true rfl) (fun Z hZG C E NT MT => ?_)
  subst hZG
  have C : Cx Z RX9 cX9_greet 5 5 33 116 := C
  show HW Z 0 0 0 [some (.ref (Q 0)), some (.int x), some (.int y), none] [] μ
  have hT : MTo Q WAll μ S (LXo S t) μ := MTo.rf hM
  have h60_ := hM.nt.1
  refine h_iload_g C dX9_greet_0 rfl rfl ?_
  refine h_iload_g C dX9_greet_1 rfl rfl ?_
  refine h_callS2 C (k_X9_pair Z.l Z.G _ _ _) cw_X9_224 st_X9_pair dX9_greet_2 (by first | decide | exact Nat.le_of_ble_eq_true rfl) (by decide) (by decide) (by decide) (by decide) (kI fun r1 μ1 hp1 => ?_) kN
  obtain ⟨rfl, rfl⟩ := hp1
  refine h_ist_3 C dX9_greet_5 ct_i ?_
  refine h_al_g C dX9_greet_6 rfl rfl rfv_r ?_
  refine h_iload_g C dX9_greet_7 rfl rfl ?_
  refine h_if_ne (tgt := 24) C dX9_greet_8 (by decide) (fun c1 => ?_) (fun c1 => ?_)
  · refine h_iload_g C dX9_greet_24 rfl rfl ?_
    refine h_callV1 (ci := 9) C (k_X9_isWrong Z.l Z.G (Q 0) _ hM.kX (pairC x y)) cw_X9_215 im_X9_isWrong sl_X9_isWrong rfl (by decide) hM.kX dX9_greet_25 (by first | decide | exact Nat.le_of_ble_eq_true rfl) (by decide) (by decide) (by decide) (by decide) (kB (fun μ2 hp2 => ?_) (fun μ2 hp2 => ?_)) kN
    · obtain ⟨hc, e9⟩ := hp2
      have hT := hT.sfi (Or.inr trivial) e9 (hT.1.w290 e9)
      have hM := hT.1
      refine h_if_eq (tgt := 33) C dX9_greet_28 (by decide) (fun c2 => absurd c2 (by decide)) (fun c2 => ?_)
      refine h_iconst (v := 0) C dX9_greet_31 (by decide) ?_
      refine h_iret C E dX9_greet_32 (by decide) (by decide) ?_
      exact ⟨_, rfl, Or.inr ⟨by rw [greC_p c1]; exact hc, by rw [greC_p c1]; exact hT⟩⟩
    · obtain ⟨hc, e9⟩ := hp2
      exact absurd hc c1
  · have hp0 : pairC x y = 0 := c1
    obtain ⟨hx, hy, hne⟩ := pairC_z hp0
    have hfi := FREb_M hM hx.lt hy.lt (fun r h e => by have h9 := (hW.2.2.2.1 (cl x) (cl y) r hx.lt hy.lt h).1; rw [e] at h9; exact absurd h9 (by decide))
    refine h_al_g C dX9_greet_11 rfl rfl rfv_r ?_
    refine h_iload_g C dX9_greet_12 rfl rfl ?_
    refine h_iload_g C dX9_greet_13 rfl rfl ?_
    refine h_callV2 (ci := 9) C (k_X9_isFrQ Z.l Z.G Q S _ _ hM x y hx hy) cw_X9_235 im_X9_isFresh sl_X9_isFresh rfl (by decide) hM.kX dX9_greet_14 (by first | decide | exact Nat.le_of_ble_eq_true rfl) (by decide) (by decide) (by decide) (by decide) (kB (fun μ3 hp3 => ?_) (fun μ3 hp3 => ?_)) kN
    · obtain ⟨rfl, hf1⟩ := hp3
      have hfr := hfi.mp hf1
      refine h_if_eq (tgt := 24) C dX9_greet_17 (by decide) (fun c3 => absurd c3 (by decide)) (fun c3 => ?_)
      refine h_iconst (v := 3) C dX9_greet_20 (by decide) ?_
      refine h_goto (tgt := 25) C dX9_greet_21 (by decide) ?_
      refine h_callV1 (ci := 9) C (k_X9_isWrong Z.l Z.G (Q 0) _ hM.kX (3)) cw_X9_215 im_X9_isWrong sl_X9_isWrong rfl (by decide) hM.kX dX9_greet_25 (by first | decide | exact Nat.le_of_ble_eq_true rfl) (by decide) (by decide) (by decide) (by decide) (kB (fun μ4 hp4 => ?_) (fun μ4 hp4 => ?_)) kN
      · obtain ⟨hc, e9⟩ := hp4
        have hT := hT.sfi (Or.inr trivial) e9 (hT.1.w290 e9)
        have hM := hT.1
        refine h_if_eq (tgt := 33) C dX9_greet_28 (by decide) (fun c4 => absurd c4 (by decide)) (fun c4 => ?_)
        refine h_iconst (v := 0) C dX9_greet_31 (by decide) ?_
        refine h_iret C E dX9_greet_32 (by decide) (by decide) ?_
        exact ⟨_, rfl, Or.inr ⟨by rw [greC_0 hp0, if_pos hfr]; decide, by rw [greC_0 hp0, if_pos hfr]; exact hT⟩⟩
      · obtain ⟨hc, e9⟩ := hp4
        exact absurd hc (by decide)
    · obtain ⟨rfl, hf1⟩ := hp3
      have hfr : ¬ FREb S (cl x) (cl y) = true := fun z => hf1 (hfi.mpr z)
      refine h_if_eq (tgt := 24) C dX9_greet_17 (by decide) (fun c5 => ?_) (fun c5 => absurd (by decide) c5)
      refine h_iload_g C dX9_greet_24 rfl rfl ?_
      refine h_callV1 (ci := 9) C (k_X9_isWrong Z.l Z.G (Q 0) _ hM.kX (pairC x y)) cw_X9_215 im_X9_isWrong sl_X9_isWrong rfl (by decide) hM.kX dX9_greet_25 (by first | decide | exact Nat.le_of_ble_eq_true rfl) (by decide) (by decide) (by decide) (by decide) (kB (fun μ5 hp5 => ?_) (fun μ5 hp5 => ?_)) kN
      · obtain ⟨hc, e9⟩ := hp5
        exact absurd hp0 hc
      · obtain ⟨hc, e9⟩ := hp5
        have hT := hT.sfi (Or.inr trivial) e9 (hT.1.w290 e9)
        have hM := hT.1
        rw [hc] at hT
        have hM := hT.1
        refine h_if_eq (tgt := 33) C dX9_greet_28 (by decide) (fun c6 => ?_) (fun c6 => absurd (by decide) c6)
        refine h_al_g C dX9_greet_33 rfl rfl rfv_r ?_
        refine h_iload_g C dX9_greet_34 rfl rfl ?_
        refine h_iload_g C dX9_greet_35 rfl rfl ?_
        refine h_callV2 (ci := 9) C (k_X9_hello Z.l Z.G Q S _ _ hM _ hx.lt _ hx.nI _ hy.lt _ hy.nI ⟨Int.le_of_lt hW.2.1.1, hW.2.1.2⟩) cw_X9_238 im_X9_hello sl_X9_hello rfl (by decide) hM.kX dX9_greet_36 (by first | decide | exact Nat.le_of_ble_eq_true rfl) (by decide) (by decide) (by decide) (by decide) (kI fun r6 μ6 hp6 => ?_) kN
        obtain ⟨rfl, hHe⟩ := hp6
        have hT := hT.tr hHe (fun _ _ => trivial)
        have hM := hT.1
        refine h_iret C E dX9_greet_39 (by decide) (by decide) ?_
        exact ⟨_, rfl, Or.inl ⟨by rw [greC_0 hp0, if_neg hfr], rfl, hT⟩⟩

set_option maxRecDepth 100000 in
set_option maxHeartbeats 1000000 in
theorem k_X9_letter (l : Launch) (G : Gx) (Q : Nat → Nat) (S : Sx) (t : Int32) (μ : Mem) (hM : MRq Q S (LXo S t) μ) (x y : Int32) : Kon l yX9_letter cX9_letter 3 (some .int) 2 0 0 46 G [.ref (Q 0), .int x, .int y] μ (pI fun v μ' => (lttC S x y = 0 ∧ v = LTR S (cl x) (cl y) ∧ MTo Q WAll μ (S) (LXo (S) 0) μ') ∨ (¬ lttC S x y = 0 ∧ MTo Q WAll μ S (LXo S (lttC S x y)) μ')) noX := by
  refine Kon.ofG (by decide +kernel) (Nat.le_of_ble_eq_true rfl) (Nat.le_of_ble_eq_true rfl) (fun Z hZG C E NT MT => ?_)
  subst hZG
  have C : Cx Z RX9 cX9_letter 2 0 0 46 := C
  show HW Z 0 0 0 [some (.ref (Q 0)), some (.int x), some (.int y)] [] μ
  have hT : MTo Q WAll μ S (LXo S t) μ := MTo.rf hM
  have h60_ := hM.nt.1
  refine h_al_g C dX9_letter_0 rfl rfl rfv_r ?_
  refine h_al_g C dX9_letter_1 rfl rfl rfv_r ?_
  refine h_iload_g C dX9_letter_2 rfl rfl ?_
  refine h_callV1 (ci := 9) C (k_X9_isLetter Z.l Z.G (Q 0) _ hM.kX S.nt.length hM.f312 h60_ _) cw_X9_241 im_X9_isLetter sl_X9_isLetter rfl (by decide) hM.kX dX9_letter_3 (by first | decide | exact Nat.le_of_ble_eq_true rfl) (by decide) (by decide) (by decide) (by decide) (kB (fun μ1 hp1 => ?_) (fun μ1 hp1 => ?_)) kN
  · obtain ⟨rfl, hL⟩ := hp1
    refine h_if_ne (tgt := 13) C dX9_letter_6 (by decide) (fun c1 => ?_) (fun c1 => absurd c1 (by decide))
    refine h_iload_g C dX9_letter_13 rfl rfl ?_
    refine h_i2l C dX9_letter_14 ?_
    refine h_lconst (v := 0) C dX9_letter_15 (by decide) ?_
    refine h_ldc2 C kc_X9_222 dX9_letter_16 ?_
    refine h_callS3 C (k_X9_isBetween Z.l Z.G _ _ _ _) cw_X9_91 st_X9_isBetween dX9_letter_19 (by first | decide | exact Nat.le_of_ble_eq_true rfl) (by decide) (by decide) (by decide) (by decide) (kB (fun μ2 hp2 => ?_) (fun μ2 hp2 => ?_)) kN
    · obtain ⟨rfl, hBt⟩ := hp2
      rw [btw_i] at hBt
      have hby : 0 ≤ y.toInt ∧ y.toInt < 16 := ⟨hBt.1, by have h9 : y.toInt ≤ 8 := hBt.2; omega⟩
      refine h_if_ne (tgt := 29) C dX9_letter_22 (by decide) (fun c2 => ?_) (fun c2 => absurd c2 (by decide))
      refine h_iconst (v := 0) C dX9_letter_29 (by decide) ?_
      refine h_callV1 (ci := 9) C (k_X9_isWrong Z.l Z.G (Q 0) _ hM.kX (0)) cw_X9_215 im_X9_isWrong sl_X9_isWrong rfl (by decide) hM.kX dX9_letter_30 (by first | decide | exact Nat.le_of_ble_eq_true rfl) (by decide) (by decide) (by decide) (by decide) (kB (fun μ3 hp3 => ?_) (fun μ3 hp3 => ?_)) kN
      · obtain ⟨hc, e9⟩ := hp3
        exact absurd rfl hc
      · obtain ⟨hc, e9⟩ := hp3
        have hT := hT.sfi (Or.inr trivial) e9 (hT.1.w290 e9)
        have hM := hT.1
        refine h_if_eq (tgt := 38) C dX9_letter_33 (by decide) (fun c3 => ?_) (fun c3 => absurd (by decide) c3)
        refine h_al_g C dX9_letter_38 rfl rfl rfv_r ?_
        refine gs_X9_80 C dX9_letter_39 hM.kX (hM.fA (i := 20) (by decide)) ?_
        refine h_iload_g C dX9_letter_42 rfl rfl ?_
        obtain ⟨z, y1, hR_z⟩ := hM.row (List.getElem?_eq_getElem (show cl x < S.nt.length by have := cl_eq hL.1; have := hL.2; omega))
        have eL : LTR S (cl x) = S.nt[cl x]'(by have := cl_eq hL.1; have := hL.2; omega) := LTR_eq (List.getElem?_eq_getElem _)
        rw [← eL] at hR_z
        refine h_aald (r := some _) C dX9_letter_43 (hM.kr (by decide)) (inb hM.ln60 (vp_isE hL.1 (by have := hL.2; omega) (by decide))) y1 ?_
        refine h_iload_g C dX9_letter_44 rfl rfl ?_
        refine h_iald C dX9_letter_45 (by rw [hR_z.1]; decide) (inb hR_z.2.1 (vp_isE hby.1 hby.2 (by decide))) (hR_z.2.2 (cl y) (by have := cl_eq hby.1; have := hby.2; omega)) ?_
        refine h_iret C E dX9_letter_46 (by decide) (by decide) ?_
        exact ⟨_, rfl, Or.inl ⟨(if_pos hL).trans (if_pos hBt), rfl, hT⟩⟩
    · obtain ⟨rfl, hBt⟩ := hp2
      rw [btw_i] at hBt
      refine h_if_ne (tgt := 29) C dX9_letter_22 (by decide) (fun c4 => absurd c4 (by decide)) (fun c4 => ?_)
      refine h_iconst (v := 2) C dX9_letter_25 (by decide) ?_
      refine h_goto (tgt := 30) C dX9_letter_26 (by decide) ?_
      refine h_callV1 (ci := 9) C (k_X9_isWrong Z.l Z.G (Q 0) _ hM.kX (2)) cw_X9_215 im_X9_isWrong sl_X9_isWrong rfl (by decide) hM.kX dX9_letter_30 (by first | decide | exact Nat.le_of_ble_eq_true rfl) (by decide) (by decide) (by decide) (by decide) (kB (fun μ4 hp4 => ?_) (fun μ4 hp4 => ?_)) kN
      · obtain ⟨hc, e9⟩ := hp4
        have hT := hT.sfi (Or.inr trivial) e9 (hT.1.w290 e9)
        have hM := hT.1
        refine h_if_eq (tgt := 38) C dX9_letter_33 (by decide) (fun c5 => absurd c5 (by decide)) (fun c5 => ?_)
        refine h_iconst (v := 0) C dX9_letter_36 (by decide) ?_
        refine h_iret C E dX9_letter_37 (by decide) (by decide) ?_
        exact ⟨_, rfl, Or.inr ⟨by rw [show lttC S x y = 2 from (if_pos hL).trans (if_neg hBt)]; decide, by rw [show lttC S x y = 2 from (if_pos hL).trans (if_neg hBt)]; exact hT⟩⟩
      · obtain ⟨hc, e9⟩ := hp4
        exact absurd hc (by decide)
  · obtain ⟨rfl, hL⟩ := hp1
    refine h_if_ne (tgt := 13) C dX9_letter_6 (by decide) (fun c6 => absurd c6 (by decide)) (fun c6 => ?_)
    refine h_iconst (v := 1) C dX9_letter_9 (by decide) ?_
    refine h_goto (tgt := 30) C dX9_letter_10 (by decide) ?_
    refine h_callV1 (ci := 9) C (k_X9_isWrong Z.l Z.G (Q 0) _ hM.kX (1)) cw_X9_215 im_X9_isWrong sl_X9_isWrong rfl (by decide) hM.kX dX9_letter_30 (by first | decide | exact Nat.le_of_ble_eq_true rfl) (by decide) (by decide) (by decide) (by decide) (kB (fun μ5 hp5 => ?_) (fun μ5 hp5 => ?_)) kN
    · obtain ⟨hc, e9⟩ := hp5
      have hT := hT.sfi (Or.inr trivial) e9 (hT.1.w290 e9)
      have hM := hT.1
      refine h_if_eq (tgt := 38) C dX9_letter_33 (by decide) (fun c7 => absurd c7 (by decide)) (fun c7 => ?_)
      refine h_iconst (v := 0) C dX9_letter_36 (by decide) ?_
      refine h_iret C E dX9_letter_37 (by decide) (by decide) ?_
      exact ⟨_, rfl, Or.inr ⟨by rw [show lttC S x y = 1 from if_neg hL]; decide, by rw [show lttC S x y = 1 from if_neg hL]; exact hT⟩⟩
    · obtain ⟨hc, e9⟩ := hp5
      exact absurd hc (by decide)

set_option maxRecDepth 100000 in
set_option maxHeartbeats 1000000 in
theorem k_X9_isTurned (l : Launch) (G : Gx) (Q : Nat → Nat) (S : Sx) (t : Int32) (μ : Mem) (hM : MRq Q S (LXo S t) μ) (x : Int32) (hG : ∀ g ∈ S.nt, okG g) : Kon l yX9_isTurned cX9_isTurned 2 (some .boolean) 2 0 0 46 G [.ref (Q 0), .int x] μ (pI fun v μ' => (v = 0 ∨ v = 1) ∧ ((letC S x = 0 ∧ ((v = 1 ∧ DIF (LTR S (cl x))) ∨ (v = 0 ∧ ¬ DIF (LTR S (cl x)))) ∧ MTo Q WAll μ (S) (LXo (S) 0) μ') ∨ (¬ letC S x = 0 ∧ MTo Q WAll μ S (LXo S (letC S x)) μ'))) noX := by
  refine Kon.ofG (by decide +kernel) (Nat.le_of_ble_eq_true rfl) (Nat.le_of_ble_eq_true rfl) (fun Z hZG C E NT MT => ?_)
  subst hZG
  have C : Cx Z RX9 cX9_isTurned 2 0 0 46 := C
  show HW Z 0 0 0 [some (.ref (Q 0)), some (.int x)] [] μ
  have hT : MTo Q WAll μ S (LXo S t) μ := MTo.rf hM
  have h60_ := hM.nt.1
  refine h_al_g C dX9_isTurned_0 rfl rfl rfv_r ?_
  refine h_al_g C dX9_isTurned_1 rfl rfl rfv_r ?_
  refine h_iload_g C dX9_isTurned_2 rfl rfl ?_
  refine h_callV1 (ci := 9) C (k_X9_isLetter Z.l Z.G (Q 0) _ hM.kX S.nt.length hM.f312 h60_ _) cw_X9_241 im_X9_isLetter sl_X9_isLetter rfl (by decide) hM.kX dX9_isTurned_3 (by first | decide | exact Nat.le_of_ble_eq_true rfl) (by decide) (by decide) (by decide) (by decide) (kB (fun μ1 hp1 => ?_) (fun μ1 hp1 => ?_)) kN
  · obtain ⟨rfl, hL⟩ := hp1
    refine h_if_eq (tgt := 13) C dX9_isTurned_6 (by decide) (fun c1 => absurd c1 (by decide)) (fun c1 => ?_)
    refine h_iconst (v := 0) C dX9_isTurned_9 (by decide) ?_
    refine h_goto (tgt := 14) C dX9_isTurned_10 (by decide) ?_
    refine h_callV1 (ci := 9) C (k_X9_isWrong Z.l Z.G (Q 0) _ hM.kX (0)) cw_X9_215 im_X9_isWrong sl_X9_isWrong rfl (by decide) hM.kX dX9_isTurned_14 (by first | decide | exact Nat.le_of_ble_eq_true rfl) (by decide) (by decide) (by decide) (by decide) (kB (fun μ2 hp2 => ?_) (fun μ2 hp2 => ?_)) kN
    · obtain ⟨hc, e9⟩ := hp2
      exact absurd rfl hc
    · obtain ⟨hc, e9⟩ := hp2
      have hT := hT.sfi (Or.inr trivial) e9 (hT.1.w290 e9)
      have hM := hT.1
      refine h_if_eq (tgt := 22) C dX9_isTurned_17 (by decide) (fun c2 => ?_) (fun c2 => absurd (by decide) c2)
      refine h_al_g C dX9_isTurned_22 rfl rfl rfv_r ?_
      refine h_al_g C dX9_isTurned_23 rfl rfl rfv_r ?_
      refine gs_X9_80 C dX9_isTurned_24 hM.kX (hM.fA (i := 20) (by decide)) ?_
      refine h_iload_g C dX9_isTurned_27 rfl rfl ?_
      obtain ⟨z, y1, hR_z⟩ := hM.row (List.getElem?_eq_getElem (show cl x < S.nt.length by have := cl_eq hL.1; have := hL.2; omega))
      have eL : LTR S (cl x) = S.nt[cl x]'(by have := cl_eq hL.1; have := hL.2; omega) := LTR_eq (List.getElem?_eq_getElem _)
      rw [← eL] at hR_z
      have hg := hG _ (List.getElem_mem (show cl x < S.nt.length by have := cl_eq hL.1; have := hL.2; omega))
      rw [← eL] at hg
      refine h_aald (r := some _) C dX9_isTurned_28 (hM.kr (by decide)) (inb hM.ln60 (vp_isE hL.1 (by have := hL.2; omega) (by decide))) y1 ?_
      refine h_callV1 (ci := 9) C (k_X9_wasTurned Z.l Z.G (Q 0) _ z _ hR_z hg.2.1) cw_X9_271 im_X9_wasTurned sl_X9_wasTurned rfl (by decide) hM.kX dX9_isTurned_29 (by first | decide | exact Nat.le_of_ble_eq_true rfl) (by decide) (by decide) (by decide) (by decide) (kB (fun μ3 hp3 => ?_) (fun μ3 hp3 => ?_)) kN
      · obtain ⟨rfl, hDi⟩ := hp3
        refine h_zret C E dX9_isTurned_32 (by decide) (by decide) (by first | exact Or.inl rfl | exact Or.inr rfl) ?_
        exact ⟨_, rfl, Or.inr rfl, Or.inl ⟨if_pos hL, Or.inl ⟨rfl, hDi⟩, hT⟩⟩
      · obtain ⟨rfl, hDi⟩ := hp3
        refine h_zret C E dX9_isTurned_32 (by decide) (by decide) (by first | exact Or.inl rfl | exact Or.inr rfl) ?_
        exact ⟨_, rfl, Or.inl rfl, Or.inl ⟨if_pos hL, Or.inr ⟨rfl, hDi⟩, hT⟩⟩
  · obtain ⟨rfl, hL⟩ := hp1
    refine h_if_eq (tgt := 13) C dX9_isTurned_6 (by decide) (fun c3 => ?_) (fun c3 => absurd (by decide) c3)
    refine h_iconst (v := 1) C dX9_isTurned_13 (by decide) ?_
    refine h_callV1 (ci := 9) C (k_X9_isWrong Z.l Z.G (Q 0) _ hM.kX (1)) cw_X9_215 im_X9_isWrong sl_X9_isWrong rfl (by decide) hM.kX dX9_isTurned_14 (by first | decide | exact Nat.le_of_ble_eq_true rfl) (by decide) (by decide) (by decide) (by decide) (kB (fun μ4 hp4 => ?_) (fun μ4 hp4 => ?_)) kN
    · obtain ⟨hc, e9⟩ := hp4
      have hT := hT.sfi (Or.inr trivial) e9 (hT.1.w290 e9)
      have hM := hT.1
      refine h_if_eq (tgt := 22) C dX9_isTurned_17 (by decide) (fun c4 => absurd c4 (by decide)) (fun c4 => ?_)
      refine h_iconst (v := 0) C dX9_isTurned_20 (by decide) ?_
      refine h_zret C E dX9_isTurned_21 (by decide) (by decide) (by first | exact Or.inl rfl | exact Or.inr rfl) ?_
      exact ⟨_, rfl, Or.inl rfl, Or.inr ⟨by rw [show letC S x = 1 from if_neg hL]; decide, by rw [show letC S x = 1 from if_neg hL]; exact hT⟩⟩
    · obtain ⟨hc, e9⟩ := hp4
      exact absurd hc (by decide)

set_option maxRecDepth 100000 in
set_option maxHeartbeats 1000000 in
theorem k_X9_reroute (l : Launch) (G : Gx) (Q : Nat → Nat) (S : Sx) (t : Int32) (μ : Mem) (hM : MRq Q S (LXo S t) μ) (x y : Int32) : Kon l yX9_reroute cX9_reroute 4 (some .int) 2 0 0 46 G [.ref (Q 0), .int x, .int y] μ (pI fun v μ' => (rerC S x y = 0 ∧ v = LTR S (cl x) 0 ∧ MTo Q WAll μ (S.sNt (S.nt.set (cl x) (u1 (LTR S (cl x)) 0 y))) (LXo (S.sNt (S.nt.set (cl x) (u1 (LTR S (cl x)) 0 y))) 0) μ') ∨ (¬ rerC S x y = 0 ∧ MTo Q WAll μ S (LXo S (rerC S x y)) μ')) noX := by
  refine Kon.ofG (by decide +kernel) (Nat.le_of_ble_eq_true rfl) (Nat.le_of_ble_eq_true rfl) (fun Z hZG C E NT MT => ?_)
  subst hZG
  have C : Cx Z RX9 cX9_reroute 2 0 0 46 := C
  show HW Z 0 0 0 [some (.ref (Q 0)), some (.int x), some (.int y), none] [] μ
  have hT : MTo Q WAll μ S (LXo S t) μ := MTo.rf hM
  have h60_ := hM.nt.1
  refine h_al_g C dX9_reroute_0 rfl rfl rfv_r ?_
  refine h_al_g C dX9_reroute_1 rfl rfl rfv_r ?_
  refine h_iload_g C dX9_reroute_2 rfl rfl ?_
  refine h_callV1 (ci := 9) C (k_X9_isLetter Z.l Z.G (Q 0) _ hM.kX S.nt.length hM.f312 h60_ _) cw_X9_241 im_X9_isLetter sl_X9_isLetter rfl (by decide) hM.kX dX9_reroute_3 (by first | decide | exact Nat.le_of_ble_eq_true rfl) (by decide) (by decide) (by decide) (by decide) (kB (fun μ1 hp1 => ?_) (fun μ1 hp1 => ?_)) kN
  · obtain ⟨rfl, hL⟩ := hp1
    refine h_if_ne (tgt := 13) C dX9_reroute_6 (by decide) (fun c1 => ?_) (fun c1 => absurd c1 (by decide))
    refine h_iload_g C dX9_reroute_13 rfl rfl ?_
    refine h_i2l C dX9_reroute_14 ?_
    refine h_lconst (v := 1) C dX9_reroute_15 (by decide) ?_
    refine h_ldc2 C kc_X9_218 dX9_reroute_16 ?_
    refine h_callS3 C (k_X9_isBetween Z.l Z.G _ _ _ _) cw_X9_91 st_X9_isBetween dX9_reroute_19 (by first | decide | exact Nat.le_of_ble_eq_true rfl) (by decide) (by decide) (by decide) (by decide) (kB (fun μ2 hp2 => ?_) (fun μ2 hp2 => ?_)) kN
    · obtain ⟨rfl, hBt⟩ := hp2
      rw [btw_i] at hBt
      refine h_if_ne (tgt := 29) C dX9_reroute_22 (by decide) (fun c2 => ?_) (fun c2 => absurd c2 (by decide))
      refine h_iconst (v := 0) C dX9_reroute_29 (by decide) ?_
      refine h_callV1 (ci := 9) C (k_X9_isWrong Z.l Z.G (Q 0) _ hM.kX (0)) cw_X9_215 im_X9_isWrong sl_X9_isWrong rfl (by decide) hM.kX dX9_reroute_30 (by first | decide | exact Nat.le_of_ble_eq_true rfl) (by decide) (by decide) (by decide) (by decide) (kB (fun μ3 hp3 => ?_) (fun μ3 hp3 => ?_)) kN
      · obtain ⟨hc, e9⟩ := hp3
        exact absurd rfl hc
      · obtain ⟨hc, e9⟩ := hp3
        have hT := hT.sfi (Or.inr trivial) e9 (hT.1.w290 e9)
        have hM := hT.1
        refine h_if_eq (tgt := 38) C dX9_reroute_33 (by decide) (fun c3 => ?_) (fun c3 => absurd (by decide) c3)
        refine h_al_g C dX9_reroute_38 rfl rfl rfv_r ?_
        refine gs_X9_80 C dX9_reroute_39 hM.kX (hM.fA (i := 20) (by decide)) ?_
        refine h_iload_g C dX9_reroute_42 rfl rfl ?_
        obtain ⟨z, y1, hR_z⟩ := hM.row (List.getElem?_eq_getElem (show cl x < S.nt.length by have := cl_eq hL.1; have := hL.2; omega))
        have eL : LTR S (cl x) = S.nt[cl x]'(by have := cl_eq hL.1; have := hL.2; omega) := LTR_eq (List.getElem?_eq_getElem _)
        rw [← eL] at hR_z
        refine h_aald (r := some _) C dX9_reroute_43 (hM.kr (by decide)) (inb hM.ln60 (vp_isE hL.1 (by have := hL.2; omega) (by decide))) y1 ?_
        refine h_iconst (v := 0) C dX9_reroute_44 (by decide) ?_
        refine h_iald C dX9_reroute_45 (by rw [hR_z.1]; first | decide | exact KSE_m _ _ _) (inb hR_z.2.1 (vp_in_nI (n := 0) (by decide) (by decide))) (hR_z.2.2 0 (by decide)) ?_
        refine h_ist_3 C dX9_reroute_46 ct_i ?_
        refine h_al_g C dX9_reroute_47 rfl rfl rfv_r ?_
        refine gs_X9_80 C dX9_reroute_48 hM.kX (hM.fA (i := 20) (by decide)) ?_
        refine h_iload_g C dX9_reroute_51 rfl rfl ?_
        refine h_aald (r := some _) C dX9_reroute_52 (hM.kr (by decide)) (inb hM.ln60 (vp_isE hL.1 (by have := hL.2; omega) (by decide))) y1 ?_
        refine h_iconst (v := 0) C dX9_reroute_53 (by decide) ?_
        refine h_iload_g C dX9_reroute_54 rfl rfl ?_
        refine h_iast C dX9_reroute_55 (by rw [hR_z.1]; decide) (inb hR_z.2.1 (vp_in_nI (n := 0) (by decide) (by decide))) ?_
        refine h_abs (fun m8 e8 => ?_)
        rw [show Int32.toNatClampNeg 0 = 0 from rfl] at e8
        obtain ⟨hT, hR_z, y1⟩ := hT.seLt (r9 := (u1 (LTR S (cl x)) 0 y)) y1 (show S.nt[cl x]? = some (LTR S (cl x)) from by rw [eL]; exact List.getElem?_eq_getElem _) e8 u1_eq (fun j _ hj => u1_ne hj)
        have hM := hT.1
        refine h_iload_g C dX9_reroute_56 rfl rfl ?_
        refine h_iret C E dX9_reroute_57 (by decide) (by decide) ?_
        exact ⟨_, rfl, Or.inl ⟨(if_pos hL).trans (if_pos hBt), rfl, hT⟩⟩
    · obtain ⟨rfl, hBt⟩ := hp2
      rw [btw_i] at hBt
      refine h_if_ne (tgt := 29) C dX9_reroute_22 (by decide) (fun c4 => absurd c4 (by decide)) (fun c4 => ?_)
      refine h_iconst (v := 2) C dX9_reroute_25 (by decide) ?_
      refine h_goto (tgt := 30) C dX9_reroute_26 (by decide) ?_
      refine h_callV1 (ci := 9) C (k_X9_isWrong Z.l Z.G (Q 0) _ hM.kX (2)) cw_X9_215 im_X9_isWrong sl_X9_isWrong rfl (by decide) hM.kX dX9_reroute_30 (by first | decide | exact Nat.le_of_ble_eq_true rfl) (by decide) (by decide) (by decide) (by decide) (kB (fun μ4 hp4 => ?_) (fun μ4 hp4 => ?_)) kN
      · obtain ⟨hc, e9⟩ := hp4
        have hT := hT.sfi (Or.inr trivial) e9 (hT.1.w290 e9)
        have hM := hT.1
        refine h_if_eq (tgt := 38) C dX9_reroute_33 (by decide) (fun c5 => absurd c5 (by decide)) (fun c5 => ?_)
        refine h_iconst (v := 0) C dX9_reroute_36 (by decide) ?_
        refine h_iret C E dX9_reroute_37 (by decide) (by decide) ?_
        exact ⟨_, rfl, Or.inr ⟨by rw [show rerC S x y = 2 from (if_pos hL).trans (if_neg hBt)]; decide, by rw [show rerC S x y = 2 from (if_pos hL).trans (if_neg hBt)]; exact hT⟩⟩
      · obtain ⟨hc, e9⟩ := hp4
        exact absurd hc (by decide)
  · obtain ⟨rfl, hL⟩ := hp1
    refine h_if_ne (tgt := 13) C dX9_reroute_6 (by decide) (fun c6 => absurd c6 (by decide)) (fun c6 => ?_)
    refine h_iconst (v := 1) C dX9_reroute_9 (by decide) ?_
    refine h_goto (tgt := 30) C dX9_reroute_10 (by decide) ?_
    refine h_callV1 (ci := 9) C (k_X9_isWrong Z.l Z.G (Q 0) _ hM.kX (1)) cw_X9_215 im_X9_isWrong sl_X9_isWrong rfl (by decide) hM.kX dX9_reroute_30 (by first | decide | exact Nat.le_of_ble_eq_true rfl) (by decide) (by decide) (by decide) (by decide) (kB (fun μ5 hp5 => ?_) (fun μ5 hp5 => ?_)) kN
    · obtain ⟨hc, e9⟩ := hp5
      have hT := hT.sfi (Or.inr trivial) e9 (hT.1.w290 e9)
      have hM := hT.1
      refine h_if_eq (tgt := 38) C dX9_reroute_33 (by decide) (fun c7 => absurd c7 (by decide)) (fun c7 => ?_)
      refine h_iconst (v := 0) C dX9_reroute_36 (by decide) ?_
      refine h_iret C E dX9_reroute_37 (by decide) (by decide) ?_
      exact ⟨_, rfl, Or.inr ⟨by rw [show rerC S x y = 1 from if_neg hL]; decide, by rw [show rerC S x y = 1 from if_neg hL]; exact hT⟩⟩
    · obtain ⟨hc, e9⟩ := hp5
      exact absurd hc (by decide)

end
