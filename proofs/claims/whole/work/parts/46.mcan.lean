section
def CTM (k f : Int32) : Prop := (k = 1 ∧ (f = 3 ∨ f = 4)) ∨ (k = 2 ∧ f = 3) ∨ (k = 3 ∧ (f = 1 ∨ f = 2)) ∨ (k = 4 ∧ ((1 : Int64).toInt ≤ f.toInt ∧ f.toInt ≤ (5 : Int64).toInt))
theorem CTM_CTN {k f : Int32} (h : k = 1 ∨ k = 2 ∨ k = 3 ∨ k = 4) : CTM k f ↔ CTN k f := by
  have e1 : (1 : Int64).toInt = 1 := by decide
  have e5 : (5 : Int64).toInt = 5 := by decide
  have e9 : (1 ≤ f ∧ f ≤ 5) ↔ ((1 : Int64).toInt ≤ f.toInt ∧ f.toInt ≤ (5 : Int64).toInt) := by rw [Int32.le_iff_toInt_le, Int32.le_iff_toInt_le, tl_1, tl_5, e1, e5]
  constructor
  · rintro (h1 | h1 | h1 | ⟨h1, h2⟩)
    · exact Or.inl h1
    · exact Or.inr (Or.inl h1)
    · exact Or.inr (Or.inr (Or.inl h1))
    · subst h1
      exact Or.inr (Or.inr (Or.inr ⟨by decide, by decide, by decide, (e9.mpr h2).1, (e9.mpr h2).2⟩))
  · rintro (h1 | h1 | h1 | ⟨h1, h2, h3, h4, h5⟩)
    · exact Or.inl h1
    · exact Or.inr (Or.inl h1)
    · exact Or.inr (Or.inr (Or.inl h1))
    · refine Or.inr (Or.inr (Or.inr ⟨?_, e9.mp ⟨h4, h5⟩⟩))
      rcases h with h | h | h | h
      · exact absurd h h1
      · exact absurd h h2
      · exact absurd h h3
      · exact h
set_option maxRecDepth 100000 in
set_option maxHeartbeats 1000000 in
theorem k_X9_canTurn (l : Launch) (G : Gx) (k f : Int32) (μ : Mem) : Kon l yX9_canTurn cX9_canTurn 2 (some .boolean) 1 0 0 25 G [.int k, .int f] μ (pB (fun μ' => μ = μ' ∧ CTM k f) (fun μ' => μ = μ' ∧ ¬ CTM k f)) noX := by
  refine Kon.ofG (by decide +kernel) (Nat.le_of_ble_eq_true rfl) (Nat.le_of_ble_eq_true rfl) (fun Z hZG C E NT MT => ?_)
  subst hZG
  have C : Cx Z RX9 cX9_canTurn 1 0 0 25 := C
  show HW Z 0 0 0 [some (.int k), some (.int f)] [] μ
  refine h_iload_g C dX9_canTurn_0 rfl rfl ?_
  refine h_iconst (v := 1) C dX9_canTurn_1 (by decide) ?_
  refine h_icmp_ne (tgt := 15) C dX9_canTurn_2 (by decide) (fun c1 => ?_) (fun c1 => ?_)
  · refine h_iload_g C dX9_canTurn_15 rfl rfl ?_
    refine h_iconst (v := 2) C dX9_canTurn_16 (by decide) ?_
    refine h_icmp_ne (tgt := 25) C dX9_canTurn_17 (by decide) (fun c4 => ?_) (fun c4 => ?_)
    · refine h_iload_g C dX9_canTurn_25 rfl rfl ?_
      refine h_iconst (v := 3) C dX9_canTurn_26 (by decide) ?_
      refine h_icmp_ne (tgt := 40) C dX9_canTurn_27 (by decide) (fun c6 => ?_) (fun c6 => ?_)
      · refine h_iload_g C dX9_canTurn_40 rfl rfl ?_
        refine h_iconst (v := 4) C dX9_canTurn_41 (by decide) ?_
        refine h_icmp_ne (tgt := 61) C dX9_canTurn_42 (by decide) (fun c9 => ?_) (fun c9 => ?_)
        · refine h_iconst (v := 0) C dX9_canTurn_61 (by decide) ?_
          refine h_zret C E dX9_canTurn_62 (by decide) (by decide) (by first | exact Or.inl rfl | exact Or.inr rfl) ?_
          first | exact Or.inl ⟨rfl, rfl, Or.inl ⟨c1, Or.inl c2⟩⟩ | exact Or.inl ⟨rfl, rfl, Or.inl ⟨c1, Or.inr c3⟩⟩ | exact Or.inl ⟨rfl, rfl, Or.inr (Or.inl ⟨c4, c5⟩)⟩ | exact Or.inl ⟨rfl, rfl, Or.inr (Or.inr (Or.inl ⟨c6, Or.inl c7⟩))⟩ | exact Or.inl ⟨rfl, rfl, Or.inr (Or.inr (Or.inl ⟨c6, Or.inr c8⟩))⟩ | exact Or.inl ⟨rfl, rfl, Or.inr (Or.inr (Or.inr ⟨c9, hBt⟩))⟩ | exact Or.inr ⟨rfl, rfl, fun h => by
            rcases h with ⟨h1, h2⟩ | ⟨h1, h2⟩ | ⟨h1, h2⟩ | ⟨h1, h2⟩
            · first | exact c1 h1 | exact h2.elim c2 c3
            · first | exact c4 h1 | exact c5 h2
            · first | exact c6 h1 | exact h2.elim c7 c8 | (rw [h1] at c9; exact absurd c9 (by decide)) | (trace_state; exact absurd h1 c6)
            · first | exact c9 h1 | exact hBt h2⟩
        · refine h_iload_g C dX9_canTurn_45 rfl rfl ?_
          refine h_i2l C dX9_canTurn_46 ?_
          refine h_lconst (v := 1) C dX9_canTurn_47 (by decide) ?_
          refine h_ldc2 C kc_X9_258 dX9_canTurn_48 ?_
          refine h_callS3 C (k_X9_isBetween Z.l Z.G _ _ _ _) cw_X9_91 st_X9_isBetween dX9_canTurn_51 (by first | decide | exact Nat.le_of_ble_eq_true rfl) (by decide) (by decide) (by decide) (by decide) (kB (fun μ1 hp1 => ?_) (fun μ1 hp1 => ?_)) kN
          · obtain ⟨rfl, hBt⟩ := hp1
            rw [btw_i] at hBt
            refine h_if_eq (tgt := 61) C dX9_canTurn_54 (by decide) (fun c5 => absurd c5 (by decide)) (fun c5 => ?_)
            refine h_iconst (v := 1) C dX9_canTurn_57 (by decide) ?_
            refine h_goto (tgt := 62) C dX9_canTurn_58 (by decide) ?_
            refine h_zret C E dX9_canTurn_62 (by decide) (by decide) (by first | exact Or.inl rfl | exact Or.inr rfl) ?_
            first | exact Or.inl ⟨rfl, rfl, Or.inl ⟨c1, Or.inl c2⟩⟩ | exact Or.inl ⟨rfl, rfl, Or.inl ⟨c1, Or.inr c3⟩⟩ | exact Or.inl ⟨rfl, rfl, Or.inr (Or.inl ⟨c4, c5⟩)⟩ | exact Or.inl ⟨rfl, rfl, Or.inr (Or.inr (Or.inl ⟨c6, Or.inl c7⟩))⟩ | exact Or.inl ⟨rfl, rfl, Or.inr (Or.inr (Or.inl ⟨c6, Or.inr c8⟩))⟩ | exact Or.inl ⟨rfl, rfl, Or.inr (Or.inr (Or.inr ⟨c9, hBt⟩))⟩ | exact Or.inr ⟨rfl, rfl, fun h => by
              rcases h with ⟨h1, h2⟩ | ⟨h1, h2⟩ | ⟨h1, h2⟩ | ⟨h1, h2⟩
              · first | exact c1 h1 | exact h2.elim c2 c3
              · first | exact c4 h1 | exact c5 h2
              · first | exact c6 h1 | exact h2.elim c7 c8 | (rw [h1] at c9; exact absurd c9 (by decide)) | (trace_state; exact absurd h1 c6)
              · first | exact c9 h1 | exact hBt h2⟩
          · obtain ⟨rfl, hBt⟩ := hp1
            rw [btw_i] at hBt
            refine h_if_eq (tgt := 61) C dX9_canTurn_54 (by decide) (fun c6 => ?_) (fun c6 => absurd (by decide) c6)
            refine h_iconst (v := 0) C dX9_canTurn_61 (by decide) ?_
            refine h_zret C E dX9_canTurn_62 (by decide) (by decide) (by first | exact Or.inl rfl | exact Or.inr rfl) ?_
            first | exact Or.inl ⟨rfl, rfl, Or.inl ⟨c1, Or.inl c2⟩⟩ | exact Or.inl ⟨rfl, rfl, Or.inl ⟨c1, Or.inr c3⟩⟩ | exact Or.inl ⟨rfl, rfl, Or.inr (Or.inl ⟨c4, c5⟩)⟩ | exact Or.inl ⟨rfl, rfl, Or.inr (Or.inr (Or.inl ⟨c6, Or.inl c7⟩))⟩ | exact Or.inl ⟨rfl, rfl, Or.inr (Or.inr (Or.inl ⟨c6, Or.inr c8⟩))⟩ | exact Or.inl ⟨rfl, rfl, Or.inr (Or.inr (Or.inr ⟨c9, hBt⟩))⟩ | exact Or.inr ⟨rfl, rfl, fun h => by
              rcases h with ⟨h1, h2⟩ | ⟨h1, h2⟩ | ⟨h1, h2⟩ | ⟨h1, h2⟩
              · first | exact c1 h1 | exact h2.elim c2 c3
              · first | exact c4 h1 | exact c5 h2
              · first | exact c6 h1 | exact h2.elim c7 c8 | (rw [h1] at c9; exact absurd c9 (by decide)) | (trace_state; exact absurd h1 c6)
              · first | exact c9 h1 | exact hBt h2⟩
      · refine h_iload_g C dX9_canTurn_30 rfl rfl ?_
        refine h_iconst (v := 1) C dX9_canTurn_31 (by decide) ?_
        refine h_icmp_eq (tgt := 57) C dX9_canTurn_32 (by decide) (fun c7 => ?_) (fun c7 => ?_)
        · refine h_iconst (v := 1) C dX9_canTurn_57 (by decide) ?_
          refine h_goto (tgt := 62) C dX9_canTurn_58 (by decide) ?_
          refine h_zret C E dX9_canTurn_62 (by decide) (by decide) (by first | exact Or.inl rfl | exact Or.inr rfl) ?_
          first | exact Or.inl ⟨rfl, rfl, Or.inl ⟨c1, Or.inl c2⟩⟩ | exact Or.inl ⟨rfl, rfl, Or.inl ⟨c1, Or.inr c3⟩⟩ | exact Or.inl ⟨rfl, rfl, Or.inr (Or.inl ⟨c4, c5⟩)⟩ | exact Or.inl ⟨rfl, rfl, Or.inr (Or.inr (Or.inl ⟨c6, Or.inl c7⟩))⟩ | exact Or.inl ⟨rfl, rfl, Or.inr (Or.inr (Or.inl ⟨c6, Or.inr c8⟩))⟩ | exact Or.inl ⟨rfl, rfl, Or.inr (Or.inr (Or.inr ⟨c9, hBt⟩))⟩ | exact Or.inr ⟨rfl, rfl, fun h => by
            rcases h with ⟨h1, h2⟩ | ⟨h1, h2⟩ | ⟨h1, h2⟩ | ⟨h1, h2⟩
            · first | exact c1 h1 | exact h2.elim c2 c3
            · first | exact c4 h1 | exact c5 h2
            · first | exact c6 h1 | exact h2.elim c7 c8 | (rw [h1] at c9; exact absurd c9 (by decide)) | (trace_state; exact absurd h1 c6)
            · first | exact c9 h1 | exact hBt h2⟩
        · refine h_iload_g C dX9_canTurn_35 rfl rfl ?_
          refine h_iconst (v := 2) C dX9_canTurn_36 (by decide) ?_
          refine h_icmp_eq (tgt := 57) C dX9_canTurn_37 (by decide) (fun c8 => ?_) (fun c8 => ?_)
          · refine h_iconst (v := 1) C dX9_canTurn_57 (by decide) ?_
            refine h_goto (tgt := 62) C dX9_canTurn_58 (by decide) ?_
            refine h_zret C E dX9_canTurn_62 (by decide) (by decide) (by first | exact Or.inl rfl | exact Or.inr rfl) ?_
            first | exact Or.inl ⟨rfl, rfl, Or.inl ⟨c1, Or.inl c2⟩⟩ | exact Or.inl ⟨rfl, rfl, Or.inl ⟨c1, Or.inr c3⟩⟩ | exact Or.inl ⟨rfl, rfl, Or.inr (Or.inl ⟨c4, c5⟩)⟩ | exact Or.inl ⟨rfl, rfl, Or.inr (Or.inr (Or.inl ⟨c6, Or.inl c7⟩))⟩ | exact Or.inl ⟨rfl, rfl, Or.inr (Or.inr (Or.inl ⟨c6, Or.inr c8⟩))⟩ | exact Or.inl ⟨rfl, rfl, Or.inr (Or.inr (Or.inr ⟨c9, hBt⟩))⟩ | exact Or.inr ⟨rfl, rfl, fun h => by
              rcases h with ⟨h1, h2⟩ | ⟨h1, h2⟩ | ⟨h1, h2⟩ | ⟨h1, h2⟩
              · first | exact c1 h1 | exact h2.elim c2 c3
              · first | exact c4 h1 | exact c5 h2
              · first | exact c6 h1 | exact h2.elim c7 c8 | (rw [h1] at c9; exact absurd c9 (by decide)) | (trace_state; exact absurd h1 c6)
              · first | exact c9 h1 | exact hBt h2⟩
          · refine h_iload_g C dX9_canTurn_40 rfl rfl ?_
            refine h_iconst (v := 4) C dX9_canTurn_41 (by decide) ?_
            refine h_icmp_ne (tgt := 61) C dX9_canTurn_42 (by decide) (fun c9 => ?_) (fun c9 => ?_)
            · refine h_iconst (v := 0) C dX9_canTurn_61 (by decide) ?_
              refine h_zret C E dX9_canTurn_62 (by decide) (by decide) (by first | exact Or.inl rfl | exact Or.inr rfl) ?_
              first | exact Or.inl ⟨rfl, rfl, Or.inl ⟨c1, Or.inl c2⟩⟩ | exact Or.inl ⟨rfl, rfl, Or.inl ⟨c1, Or.inr c3⟩⟩ | exact Or.inl ⟨rfl, rfl, Or.inr (Or.inl ⟨c4, c5⟩)⟩ | exact Or.inl ⟨rfl, rfl, Or.inr (Or.inr (Or.inl ⟨c6, Or.inl c7⟩))⟩ | exact Or.inl ⟨rfl, rfl, Or.inr (Or.inr (Or.inl ⟨c6, Or.inr c8⟩))⟩ | exact Or.inl ⟨rfl, rfl, Or.inr (Or.inr (Or.inr ⟨c9, hBt⟩))⟩ | exact Or.inr ⟨rfl, rfl, fun h => by
                rcases h with ⟨h1, h2⟩ | ⟨h1, h2⟩ | ⟨h1, h2⟩ | ⟨h1, h2⟩
                · first | exact c1 h1 | exact h2.elim c2 c3
                · first | exact c4 h1 | exact c5 h2
                · first | exact c6 h1 | exact h2.elim c7 c8 | (rw [h1] at c9; exact absurd c9 (by decide)) | (trace_state; exact absurd h1 c6)
                · first | exact c9 h1 | exact hBt h2⟩
            · refine h_iload_g C dX9_canTurn_45 rfl rfl ?_
              refine h_i2l C dX9_canTurn_46 ?_
              refine h_lconst (v := 1) C dX9_canTurn_47 (by decide) ?_
              refine h_ldc2 C kc_X9_258 dX9_canTurn_48 ?_
              refine h_callS3 C (k_X9_isBetween Z.l Z.G _ _ _ _) cw_X9_91 st_X9_isBetween dX9_canTurn_51 (by first | decide | exact Nat.le_of_ble_eq_true rfl) (by decide) (by decide) (by decide) (by decide) (kB (fun μ2 hp2 => ?_) (fun μ2 hp2 => ?_)) kN
              · obtain ⟨rfl, hBt⟩ := hp2
                rw [btw_i] at hBt
                refine h_if_eq (tgt := 61) C dX9_canTurn_54 (by decide) (fun c10 => absurd c10 (by decide)) (fun c10 => ?_)
                refine h_iconst (v := 1) C dX9_canTurn_57 (by decide) ?_
                refine h_goto (tgt := 62) C dX9_canTurn_58 (by decide) ?_
                refine h_zret C E dX9_canTurn_62 (by decide) (by decide) (by first | exact Or.inl rfl | exact Or.inr rfl) ?_
                first | exact Or.inl ⟨rfl, rfl, Or.inl ⟨c1, Or.inl c2⟩⟩ | exact Or.inl ⟨rfl, rfl, Or.inl ⟨c1, Or.inr c3⟩⟩ | exact Or.inl ⟨rfl, rfl, Or.inr (Or.inl ⟨c4, c5⟩)⟩ | exact Or.inl ⟨rfl, rfl, Or.inr (Or.inr (Or.inl ⟨c6, Or.inl c7⟩))⟩ | exact Or.inl ⟨rfl, rfl, Or.inr (Or.inr (Or.inl ⟨c6, Or.inr c8⟩))⟩ | exact Or.inl ⟨rfl, rfl, Or.inr (Or.inr (Or.inr ⟨c9, hBt⟩))⟩ | exact Or.inr ⟨rfl, rfl, fun h => by
                  rcases h with ⟨h1, h2⟩ | ⟨h1, h2⟩ | ⟨h1, h2⟩ | ⟨h1, h2⟩
                  · first | exact c1 h1 | exact h2.elim c2 c3
                  · first | exact c4 h1 | exact c5 h2
                  · first | exact c6 h1 | exact h2.elim c7 c8 | (rw [h1] at c9; exact absurd c9 (by decide)) | (trace_state; exact absurd h1 c6)
                  · first | exact c9 h1 | exact hBt h2⟩
              · obtain ⟨rfl, hBt⟩ := hp2
                rw [btw_i] at hBt
                refine h_if_eq (tgt := 61) C dX9_canTurn_54 (by decide) (fun c11 => ?_) (fun c11 => absurd (by decide) c11)
                refine h_iconst (v := 0) C dX9_canTurn_61 (by decide) ?_
                refine h_zret C E dX9_canTurn_62 (by decide) (by decide) (by first | exact Or.inl rfl | exact Or.inr rfl) ?_
                first | exact Or.inl ⟨rfl, rfl, Or.inl ⟨c1, Or.inl c2⟩⟩ | exact Or.inl ⟨rfl, rfl, Or.inl ⟨c1, Or.inr c3⟩⟩ | exact Or.inl ⟨rfl, rfl, Or.inr (Or.inl ⟨c4, c5⟩)⟩ | exact Or.inl ⟨rfl, rfl, Or.inr (Or.inr (Or.inl ⟨c6, Or.inl c7⟩))⟩ | exact Or.inl ⟨rfl, rfl, Or.inr (Or.inr (Or.inl ⟨c6, Or.inr c8⟩))⟩ | exact Or.inl ⟨rfl, rfl, Or.inr (Or.inr (Or.inr ⟨c9, hBt⟩))⟩ | exact Or.inr ⟨rfl, rfl, fun h => by
                  rcases h with ⟨h1, h2⟩ | ⟨h1, h2⟩ | ⟨h1, h2⟩ | ⟨h1, h2⟩
                  · first | exact c1 h1 | exact h2.elim c2 c3
                  · first | exact c4 h1 | exact c5 h2
                  · first | exact c6 h1 | exact h2.elim c7 c8 | (rw [h1] at c9; exact absurd c9 (by decide)) | (trace_state; exact absurd h1 c6)
                  · first | exact c9 h1 | exact hBt h2⟩
    · refine h_iload_g C dX9_canTurn_20 rfl rfl ?_
      refine h_iconst (v := 3) C dX9_canTurn_21 (by decide) ?_
      refine h_icmp_eq (tgt := 57) C dX9_canTurn_22 (by decide) (fun c5 => ?_) (fun c5 => ?_)
      · refine h_iconst (v := 1) C dX9_canTurn_57 (by decide) ?_
        refine h_goto (tgt := 62) C dX9_canTurn_58 (by decide) ?_
        refine h_zret C E dX9_canTurn_62 (by decide) (by decide) (by first | exact Or.inl rfl | exact Or.inr rfl) ?_
        first | exact Or.inl ⟨rfl, rfl, Or.inl ⟨c1, Or.inl c2⟩⟩ | exact Or.inl ⟨rfl, rfl, Or.inl ⟨c1, Or.inr c3⟩⟩ | exact Or.inl ⟨rfl, rfl, Or.inr (Or.inl ⟨c4, c5⟩)⟩ | exact Or.inl ⟨rfl, rfl, Or.inr (Or.inr (Or.inl ⟨c6, Or.inl c7⟩))⟩ | exact Or.inl ⟨rfl, rfl, Or.inr (Or.inr (Or.inl ⟨c6, Or.inr c8⟩))⟩ | exact Or.inl ⟨rfl, rfl, Or.inr (Or.inr (Or.inr ⟨c9, hBt⟩))⟩ | exact Or.inr ⟨rfl, rfl, fun h => by
          rcases h with ⟨h1, h2⟩ | ⟨h1, h2⟩ | ⟨h1, h2⟩ | ⟨h1, h2⟩
          · first | exact c1 h1 | exact h2.elim c2 c3
          · first | exact c4 h1 | exact c5 h2
          · first | exact c6 h1 | exact h2.elim c7 c8 | (rw [h1] at c9; exact absurd c9 (by decide)) | (trace_state; exact absurd h1 c6)
          · first | exact c9 h1 | exact hBt h2⟩
      · refine h_iload_g C dX9_canTurn_25 rfl rfl ?_
        refine h_iconst (v := 3) C dX9_canTurn_26 (by decide) ?_
        refine h_icmp_ne (tgt := 40) C dX9_canTurn_27 (by decide) (fun c6 => ?_) (fun c6 => ?_)
        · refine h_iload_g C dX9_canTurn_40 rfl rfl ?_
          refine h_iconst (v := 4) C dX9_canTurn_41 (by decide) ?_
          refine h_icmp_ne (tgt := 61) C dX9_canTurn_42 (by decide) (fun c9 => ?_) (fun c9 => ?_)
          · refine h_iconst (v := 0) C dX9_canTurn_61 (by decide) ?_
            refine h_zret C E dX9_canTurn_62 (by decide) (by decide) (by first | exact Or.inl rfl | exact Or.inr rfl) ?_
            first | exact Or.inl ⟨rfl, rfl, Or.inl ⟨c1, Or.inl c2⟩⟩ | exact Or.inl ⟨rfl, rfl, Or.inl ⟨c1, Or.inr c3⟩⟩ | exact Or.inl ⟨rfl, rfl, Or.inr (Or.inl ⟨c4, c5⟩)⟩ | exact Or.inl ⟨rfl, rfl, Or.inr (Or.inr (Or.inl ⟨c6, Or.inl c7⟩))⟩ | exact Or.inl ⟨rfl, rfl, Or.inr (Or.inr (Or.inl ⟨c6, Or.inr c8⟩))⟩ | exact Or.inl ⟨rfl, rfl, Or.inr (Or.inr (Or.inr ⟨c9, hBt⟩))⟩ | exact Or.inr ⟨rfl, rfl, fun h => by
              rcases h with ⟨h1, h2⟩ | ⟨h1, h2⟩ | ⟨h1, h2⟩ | ⟨h1, h2⟩
              · first | exact c1 h1 | exact h2.elim c2 c3
              · first | exact c4 h1 | exact c5 h2
              · first | exact c6 h1 | exact h2.elim c7 c8 | (rw [h1] at c9; exact absurd c9 (by decide)) | (trace_state; exact absurd h1 c6)
              · first | exact c9 h1 | exact hBt h2⟩
          · refine h_iload_g C dX9_canTurn_45 rfl rfl ?_
            refine h_i2l C dX9_canTurn_46 ?_
            refine h_lconst (v := 1) C dX9_canTurn_47 (by decide) ?_
            refine h_ldc2 C kc_X9_258 dX9_canTurn_48 ?_
            refine h_callS3 C (k_X9_isBetween Z.l Z.G _ _ _ _) cw_X9_91 st_X9_isBetween dX9_canTurn_51 (by first | decide | exact Nat.le_of_ble_eq_true rfl) (by decide) (by decide) (by decide) (by decide) (kB (fun μ3 hp3 => ?_) (fun μ3 hp3 => ?_)) kN
            · obtain ⟨rfl, hBt⟩ := hp3
              rw [btw_i] at hBt
              refine h_if_eq (tgt := 61) C dX9_canTurn_54 (by decide) (fun c15 => absurd c15 (by decide)) (fun c15 => ?_)
              refine h_iconst (v := 1) C dX9_canTurn_57 (by decide) ?_
              refine h_goto (tgt := 62) C dX9_canTurn_58 (by decide) ?_
              refine h_zret C E dX9_canTurn_62 (by decide) (by decide) (by first | exact Or.inl rfl | exact Or.inr rfl) ?_
              first | exact Or.inl ⟨rfl, rfl, Or.inl ⟨c1, Or.inl c2⟩⟩ | exact Or.inl ⟨rfl, rfl, Or.inl ⟨c1, Or.inr c3⟩⟩ | exact Or.inl ⟨rfl, rfl, Or.inr (Or.inl ⟨c4, c5⟩)⟩ | exact Or.inl ⟨rfl, rfl, Or.inr (Or.inr (Or.inl ⟨c6, Or.inl c7⟩))⟩ | exact Or.inl ⟨rfl, rfl, Or.inr (Or.inr (Or.inl ⟨c6, Or.inr c8⟩))⟩ | exact Or.inl ⟨rfl, rfl, Or.inr (Or.inr (Or.inr ⟨c9, hBt⟩))⟩ | exact Or.inr ⟨rfl, rfl, fun h => by
                rcases h with ⟨h1, h2⟩ | ⟨h1, h2⟩ | ⟨h1, h2⟩ | ⟨h1, h2⟩
                · first | exact c1 h1 | exact h2.elim c2 c3
                · first | exact c4 h1 | exact c5 h2
                · first | exact c6 h1 | exact h2.elim c7 c8 | (rw [h1] at c9; exact absurd c9 (by decide)) | (trace_state; exact absurd h1 c6)
                · first | exact c9 h1 | exact hBt h2⟩
            · obtain ⟨rfl, hBt⟩ := hp3
              rw [btw_i] at hBt
              refine h_if_eq (tgt := 61) C dX9_canTurn_54 (by decide) (fun c16 => ?_) (fun c16 => absurd (by decide) c16)
              refine h_iconst (v := 0) C dX9_canTurn_61 (by decide) ?_
              refine h_zret C E dX9_canTurn_62 (by decide) (by decide) (by first | exact Or.inl rfl | exact Or.inr rfl) ?_
              first | exact Or.inl ⟨rfl, rfl, Or.inl ⟨c1, Or.inl c2⟩⟩ | exact Or.inl ⟨rfl, rfl, Or.inl ⟨c1, Or.inr c3⟩⟩ | exact Or.inl ⟨rfl, rfl, Or.inr (Or.inl ⟨c4, c5⟩)⟩ | exact Or.inl ⟨rfl, rfl, Or.inr (Or.inr (Or.inl ⟨c6, Or.inl c7⟩))⟩ | exact Or.inl ⟨rfl, rfl, Or.inr (Or.inr (Or.inl ⟨c6, Or.inr c8⟩))⟩ | exact Or.inl ⟨rfl, rfl, Or.inr (Or.inr (Or.inr ⟨c9, hBt⟩))⟩ | exact Or.inr ⟨rfl, rfl, fun h => by
                rcases h with ⟨h1, h2⟩ | ⟨h1, h2⟩ | ⟨h1, h2⟩ | ⟨h1, h2⟩
                · first | exact c1 h1 | exact h2.elim c2 c3
                · first | exact c4 h1 | exact c5 h2
                · first | exact c6 h1 | exact h2.elim c7 c8 | (rw [h1] at c9; exact absurd c9 (by decide)) | (trace_state; exact absurd h1 c6)
                · first | exact c9 h1 | exact hBt h2⟩
        · refine h_iload_g C dX9_canTurn_30 rfl rfl ?_
          refine h_iconst (v := 1) C dX9_canTurn_31 (by decide) ?_
          refine h_icmp_eq (tgt := 57) C dX9_canTurn_32 (by decide) (fun c7 => ?_) (fun c7 => ?_)
          · refine h_iconst (v := 1) C dX9_canTurn_57 (by decide) ?_
            refine h_goto (tgt := 62) C dX9_canTurn_58 (by decide) ?_
            refine h_zret C E dX9_canTurn_62 (by decide) (by decide) (by first | exact Or.inl rfl | exact Or.inr rfl) ?_
            first | exact Or.inl ⟨rfl, rfl, Or.inl ⟨c1, Or.inl c2⟩⟩ | exact Or.inl ⟨rfl, rfl, Or.inl ⟨c1, Or.inr c3⟩⟩ | exact Or.inl ⟨rfl, rfl, Or.inr (Or.inl ⟨c4, c5⟩)⟩ | exact Or.inl ⟨rfl, rfl, Or.inr (Or.inr (Or.inl ⟨c6, Or.inl c7⟩))⟩ | exact Or.inl ⟨rfl, rfl, Or.inr (Or.inr (Or.inl ⟨c6, Or.inr c8⟩))⟩ | exact Or.inl ⟨rfl, rfl, Or.inr (Or.inr (Or.inr ⟨c9, hBt⟩))⟩ | exact Or.inr ⟨rfl, rfl, fun h => by
              rcases h with ⟨h1, h2⟩ | ⟨h1, h2⟩ | ⟨h1, h2⟩ | ⟨h1, h2⟩
              · first | exact c1 h1 | exact h2.elim c2 c3
              · first | exact c4 h1 | exact c5 h2
              · first | exact c6 h1 | exact h2.elim c7 c8 | (rw [h1] at c9; exact absurd c9 (by decide)) | (trace_state; exact absurd h1 c6)
              · first | exact c9 h1 | exact hBt h2⟩
          · refine h_iload_g C dX9_canTurn_35 rfl rfl ?_
            refine h_iconst (v := 2) C dX9_canTurn_36 (by decide) ?_
            refine h_icmp_eq (tgt := 57) C dX9_canTurn_37 (by decide) (fun c8 => ?_) (fun c8 => ?_)
            · refine h_iconst (v := 1) C dX9_canTurn_57 (by decide) ?_
              refine h_goto (tgt := 62) C dX9_canTurn_58 (by decide) ?_
              refine h_zret C E dX9_canTurn_62 (by decide) (by decide) (by first | exact Or.inl rfl | exact Or.inr rfl) ?_
              first | exact Or.inl ⟨rfl, rfl, Or.inl ⟨c1, Or.inl c2⟩⟩ | exact Or.inl ⟨rfl, rfl, Or.inl ⟨c1, Or.inr c3⟩⟩ | exact Or.inl ⟨rfl, rfl, Or.inr (Or.inl ⟨c4, c5⟩)⟩ | exact Or.inl ⟨rfl, rfl, Or.inr (Or.inr (Or.inl ⟨c6, Or.inl c7⟩))⟩ | exact Or.inl ⟨rfl, rfl, Or.inr (Or.inr (Or.inl ⟨c6, Or.inr c8⟩))⟩ | exact Or.inl ⟨rfl, rfl, Or.inr (Or.inr (Or.inr ⟨c9, hBt⟩))⟩ | exact Or.inr ⟨rfl, rfl, fun h => by
                rcases h with ⟨h1, h2⟩ | ⟨h1, h2⟩ | ⟨h1, h2⟩ | ⟨h1, h2⟩
                · first | exact c1 h1 | exact h2.elim c2 c3
                · first | exact c4 h1 | exact c5 h2
                · first | exact c6 h1 | exact h2.elim c7 c8 | (rw [h1] at c9; exact absurd c9 (by decide)) | (trace_state; exact absurd h1 c6)
                · first | exact c9 h1 | exact hBt h2⟩
            · refine h_iload_g C dX9_canTurn_40 rfl rfl ?_
              refine h_iconst (v := 4) C dX9_canTurn_41 (by decide) ?_
              refine h_icmp_ne (tgt := 61) C dX9_canTurn_42 (by decide) (fun c9 => ?_) (fun c9 => ?_)
              · refine h_iconst (v := 0) C dX9_canTurn_61 (by decide) ?_
                refine h_zret C E dX9_canTurn_62 (by decide) (by decide) (by first | exact Or.inl rfl | exact Or.inr rfl) ?_
                first | exact Or.inl ⟨rfl, rfl, Or.inl ⟨c1, Or.inl c2⟩⟩ | exact Or.inl ⟨rfl, rfl, Or.inl ⟨c1, Or.inr c3⟩⟩ | exact Or.inl ⟨rfl, rfl, Or.inr (Or.inl ⟨c4, c5⟩)⟩ | exact Or.inl ⟨rfl, rfl, Or.inr (Or.inr (Or.inl ⟨c6, Or.inl c7⟩))⟩ | exact Or.inl ⟨rfl, rfl, Or.inr (Or.inr (Or.inl ⟨c6, Or.inr c8⟩))⟩ | exact Or.inl ⟨rfl, rfl, Or.inr (Or.inr (Or.inr ⟨c9, hBt⟩))⟩ | exact Or.inr ⟨rfl, rfl, fun h => by
                  rcases h with ⟨h1, h2⟩ | ⟨h1, h2⟩ | ⟨h1, h2⟩ | ⟨h1, h2⟩
                  · first | exact c1 h1 | exact h2.elim c2 c3
                  · first | exact c4 h1 | exact c5 h2
                  · first | exact c6 h1 | exact h2.elim c7 c8 | (rw [h1] at c9; exact absurd c9 (by decide)) | (trace_state; exact absurd h1 c6)
                  · first | exact c9 h1 | exact hBt h2⟩
              · refine h_iload_g C dX9_canTurn_45 rfl rfl ?_
                refine h_i2l C dX9_canTurn_46 ?_
                refine h_lconst (v := 1) C dX9_canTurn_47 (by decide) ?_
                refine h_ldc2 C kc_X9_258 dX9_canTurn_48 ?_
                refine h_callS3 C (k_X9_isBetween Z.l Z.G _ _ _ _) cw_X9_91 st_X9_isBetween dX9_canTurn_51 (by first | decide | exact Nat.le_of_ble_eq_true rfl) (by decide) (by decide) (by decide) (by decide) (kB (fun μ4 hp4 => ?_) (fun μ4 hp4 => ?_)) kN
                · obtain ⟨rfl, hBt⟩ := hp4
                  rw [btw_i] at hBt
                  refine h_if_eq (tgt := 61) C dX9_canTurn_54 (by decide) (fun c20 => absurd c20 (by decide)) (fun c20 => ?_)
                  refine h_iconst (v := 1) C dX9_canTurn_57 (by decide) ?_
                  refine h_goto (tgt := 62) C dX9_canTurn_58 (by decide) ?_
                  refine h_zret C E dX9_canTurn_62 (by decide) (by decide) (by first | exact Or.inl rfl | exact Or.inr rfl) ?_
                  first | exact Or.inl ⟨rfl, rfl, Or.inl ⟨c1, Or.inl c2⟩⟩ | exact Or.inl ⟨rfl, rfl, Or.inl ⟨c1, Or.inr c3⟩⟩ | exact Or.inl ⟨rfl, rfl, Or.inr (Or.inl ⟨c4, c5⟩)⟩ | exact Or.inl ⟨rfl, rfl, Or.inr (Or.inr (Or.inl ⟨c6, Or.inl c7⟩))⟩ | exact Or.inl ⟨rfl, rfl, Or.inr (Or.inr (Or.inl ⟨c6, Or.inr c8⟩))⟩ | exact Or.inl ⟨rfl, rfl, Or.inr (Or.inr (Or.inr ⟨c9, hBt⟩))⟩ | exact Or.inr ⟨rfl, rfl, fun h => by
                    rcases h with ⟨h1, h2⟩ | ⟨h1, h2⟩ | ⟨h1, h2⟩ | ⟨h1, h2⟩
                    · first | exact c1 h1 | exact h2.elim c2 c3
                    · first | exact c4 h1 | exact c5 h2
                    · first | exact c6 h1 | exact h2.elim c7 c8 | (rw [h1] at c9; exact absurd c9 (by decide)) | (trace_state; exact absurd h1 c6)
                    · first | exact c9 h1 | exact hBt h2⟩
                · obtain ⟨rfl, hBt⟩ := hp4
                  rw [btw_i] at hBt
                  refine h_if_eq (tgt := 61) C dX9_canTurn_54 (by decide) (fun c21 => ?_) (fun c21 => absurd (by decide) c21)
                  refine h_iconst (v := 0) C dX9_canTurn_61 (by decide) ?_
                  refine h_zret C E dX9_canTurn_62 (by decide) (by decide) (by first | exact Or.inl rfl | exact Or.inr rfl) ?_
                  first | exact Or.inl ⟨rfl, rfl, Or.inl ⟨c1, Or.inl c2⟩⟩ | exact Or.inl ⟨rfl, rfl, Or.inl ⟨c1, Or.inr c3⟩⟩ | exact Or.inl ⟨rfl, rfl, Or.inr (Or.inl ⟨c4, c5⟩)⟩ | exact Or.inl ⟨rfl, rfl, Or.inr (Or.inr (Or.inl ⟨c6, Or.inl c7⟩))⟩ | exact Or.inl ⟨rfl, rfl, Or.inr (Or.inr (Or.inl ⟨c6, Or.inr c8⟩))⟩ | exact Or.inl ⟨rfl, rfl, Or.inr (Or.inr (Or.inr ⟨c9, hBt⟩))⟩ | exact Or.inr ⟨rfl, rfl, fun h => by
                    rcases h with ⟨h1, h2⟩ | ⟨h1, h2⟩ | ⟨h1, h2⟩ | ⟨h1, h2⟩
                    · first | exact c1 h1 | exact h2.elim c2 c3
                    · first | exact c4 h1 | exact c5 h2
                    · first | exact c6 h1 | exact h2.elim c7 c8 | (rw [h1] at c9; exact absurd c9 (by decide)) | (trace_state; exact absurd h1 c6)
                    · first | exact c9 h1 | exact hBt h2⟩
  · refine h_iload_g C dX9_canTurn_5 rfl rfl ?_
    refine h_iconst (v := 3) C dX9_canTurn_6 (by decide) ?_
    refine h_icmp_eq (tgt := 57) C dX9_canTurn_7 (by decide) (fun c2 => ?_) (fun c2 => ?_)
    · refine h_iconst (v := 1) C dX9_canTurn_57 (by decide) ?_
      refine h_goto (tgt := 62) C dX9_canTurn_58 (by decide) ?_
      refine h_zret C E dX9_canTurn_62 (by decide) (by decide) (by first | exact Or.inl rfl | exact Or.inr rfl) ?_
      first | exact Or.inl ⟨rfl, rfl, Or.inl ⟨c1, Or.inl c2⟩⟩ | exact Or.inl ⟨rfl, rfl, Or.inl ⟨c1, Or.inr c3⟩⟩ | exact Or.inl ⟨rfl, rfl, Or.inr (Or.inl ⟨c4, c5⟩)⟩ | exact Or.inl ⟨rfl, rfl, Or.inr (Or.inr (Or.inl ⟨c6, Or.inl c7⟩))⟩ | exact Or.inl ⟨rfl, rfl, Or.inr (Or.inr (Or.inl ⟨c6, Or.inr c8⟩))⟩ | exact Or.inl ⟨rfl, rfl, Or.inr (Or.inr (Or.inr ⟨c9, hBt⟩))⟩ | exact Or.inr ⟨rfl, rfl, fun h => by
        rcases h with ⟨h1, h2⟩ | ⟨h1, h2⟩ | ⟨h1, h2⟩ | ⟨h1, h2⟩
        · first | exact c1 h1 | exact h2.elim c2 c3
        · first | exact c4 h1 | exact c5 h2
        · first | exact c6 h1 | exact h2.elim c7 c8 | (rw [h1] at c9; exact absurd c9 (by decide)) | (trace_state; exact absurd h1 c6)
        · first | exact c9 h1 | exact hBt h2⟩
    · refine h_iload_g C dX9_canTurn_10 rfl rfl ?_
      refine h_iconst (v := 4) C dX9_canTurn_11 (by decide) ?_
      refine h_icmp_eq (tgt := 57) C dX9_canTurn_12 (by decide) (fun c3 => ?_) (fun c3 => ?_)
      · refine h_iconst (v := 1) C dX9_canTurn_57 (by decide) ?_
        refine h_goto (tgt := 62) C dX9_canTurn_58 (by decide) ?_
        refine h_zret C E dX9_canTurn_62 (by decide) (by decide) (by first | exact Or.inl rfl | exact Or.inr rfl) ?_
        first | exact Or.inl ⟨rfl, rfl, Or.inl ⟨c1, Or.inl c2⟩⟩ | exact Or.inl ⟨rfl, rfl, Or.inl ⟨c1, Or.inr c3⟩⟩ | exact Or.inl ⟨rfl, rfl, Or.inr (Or.inl ⟨c4, c5⟩)⟩ | exact Or.inl ⟨rfl, rfl, Or.inr (Or.inr (Or.inl ⟨c6, Or.inl c7⟩))⟩ | exact Or.inl ⟨rfl, rfl, Or.inr (Or.inr (Or.inl ⟨c6, Or.inr c8⟩))⟩ | exact Or.inl ⟨rfl, rfl, Or.inr (Or.inr (Or.inr ⟨c9, hBt⟩))⟩ | exact Or.inr ⟨rfl, rfl, fun h => by
          rcases h with ⟨h1, h2⟩ | ⟨h1, h2⟩ | ⟨h1, h2⟩ | ⟨h1, h2⟩
          · first | exact c1 h1 | exact h2.elim c2 c3
          · first | exact c4 h1 | exact c5 h2
          · first | exact c6 h1 | exact h2.elim c7 c8 | (rw [h1] at c9; exact absurd c9 (by decide)) | (trace_state; exact absurd h1 c6)
          · first | exact c9 h1 | exact hBt h2⟩
      · refine h_iload_g C dX9_canTurn_15 rfl rfl ?_
        refine h_iconst (v := 2) C dX9_canTurn_16 (by decide) ?_
        refine h_icmp_ne (tgt := 25) C dX9_canTurn_17 (by decide) (fun c4 => ?_) (fun c4 => ?_)
        · refine h_iload_g C dX9_canTurn_25 rfl rfl ?_
          refine h_iconst (v := 3) C dX9_canTurn_26 (by decide) ?_
          refine h_icmp_ne (tgt := 40) C dX9_canTurn_27 (by decide) (fun c6 => ?_) (fun c6 => ?_)
          · refine h_iload_g C dX9_canTurn_40 rfl rfl ?_
            refine h_iconst (v := 4) C dX9_canTurn_41 (by decide) ?_
            refine h_icmp_ne (tgt := 61) C dX9_canTurn_42 (by decide) (fun c9 => ?_) (fun c9 => ?_)
            · refine h_iconst (v := 0) C dX9_canTurn_61 (by decide) ?_
              refine h_zret C E dX9_canTurn_62 (by decide) (by decide) (by first | exact Or.inl rfl | exact Or.inr rfl) ?_
              first | exact Or.inl ⟨rfl, rfl, Or.inl ⟨c1, Or.inl c2⟩⟩ | exact Or.inl ⟨rfl, rfl, Or.inl ⟨c1, Or.inr c3⟩⟩ | exact Or.inl ⟨rfl, rfl, Or.inr (Or.inl ⟨c4, c5⟩)⟩ | exact Or.inl ⟨rfl, rfl, Or.inr (Or.inr (Or.inl ⟨c6, Or.inl c7⟩))⟩ | exact Or.inl ⟨rfl, rfl, Or.inr (Or.inr (Or.inl ⟨c6, Or.inr c8⟩))⟩ | exact Or.inl ⟨rfl, rfl, Or.inr (Or.inr (Or.inr ⟨c9, hBt⟩))⟩ | exact Or.inr ⟨rfl, rfl, fun h => by
                rcases h with ⟨h1, h2⟩ | ⟨h1, h2⟩ | ⟨h1, h2⟩ | ⟨h1, h2⟩
                · first | exact c1 h1 | exact h2.elim c2 c3
                · first | exact c4 h1 | exact c5 h2
                · first | exact c6 h1 | exact h2.elim c7 c8 | (rw [h1] at c9; exact absurd c9 (by decide)) | (trace_state; exact absurd h1 c6)
                · first | exact c9 h1 | exact hBt h2⟩
            · refine h_iload_g C dX9_canTurn_45 rfl rfl ?_
              refine h_i2l C dX9_canTurn_46 ?_
              refine h_lconst (v := 1) C dX9_canTurn_47 (by decide) ?_
              refine h_ldc2 C kc_X9_258 dX9_canTurn_48 ?_
              refine h_callS3 C (k_X9_isBetween Z.l Z.G _ _ _ _) cw_X9_91 st_X9_isBetween dX9_canTurn_51 (by first | decide | exact Nat.le_of_ble_eq_true rfl) (by decide) (by decide) (by decide) (by decide) (kB (fun μ5 hp5 => ?_) (fun μ5 hp5 => ?_)) kN
              · obtain ⟨rfl, hBt⟩ := hp5
                rw [btw_i] at hBt
                refine h_if_eq (tgt := 61) C dX9_canTurn_54 (by decide) (fun c27 => absurd c27 (by decide)) (fun c27 => ?_)
                refine h_iconst (v := 1) C dX9_canTurn_57 (by decide) ?_
                refine h_goto (tgt := 62) C dX9_canTurn_58 (by decide) ?_
                refine h_zret C E dX9_canTurn_62 (by decide) (by decide) (by first | exact Or.inl rfl | exact Or.inr rfl) ?_
                first | exact Or.inl ⟨rfl, rfl, Or.inl ⟨c1, Or.inl c2⟩⟩ | exact Or.inl ⟨rfl, rfl, Or.inl ⟨c1, Or.inr c3⟩⟩ | exact Or.inl ⟨rfl, rfl, Or.inr (Or.inl ⟨c4, c5⟩)⟩ | exact Or.inl ⟨rfl, rfl, Or.inr (Or.inr (Or.inl ⟨c6, Or.inl c7⟩))⟩ | exact Or.inl ⟨rfl, rfl, Or.inr (Or.inr (Or.inl ⟨c6, Or.inr c8⟩))⟩ | exact Or.inl ⟨rfl, rfl, Or.inr (Or.inr (Or.inr ⟨c9, hBt⟩))⟩ | exact Or.inr ⟨rfl, rfl, fun h => by
                  rcases h with ⟨h1, h2⟩ | ⟨h1, h2⟩ | ⟨h1, h2⟩ | ⟨h1, h2⟩
                  · first | exact c1 h1 | exact h2.elim c2 c3
                  · first | exact c4 h1 | exact c5 h2
                  · first | exact c6 h1 | exact h2.elim c7 c8 | (rw [h1] at c9; exact absurd c9 (by decide)) | (trace_state; exact absurd h1 c6)
                  · first | exact c9 h1 | exact hBt h2⟩
              · obtain ⟨rfl, hBt⟩ := hp5
                rw [btw_i] at hBt
                refine h_if_eq (tgt := 61) C dX9_canTurn_54 (by decide) (fun c28 => ?_) (fun c28 => absurd (by decide) c28)
                refine h_iconst (v := 0) C dX9_canTurn_61 (by decide) ?_
                refine h_zret C E dX9_canTurn_62 (by decide) (by decide) (by first | exact Or.inl rfl | exact Or.inr rfl) ?_
                first | exact Or.inl ⟨rfl, rfl, Or.inl ⟨c1, Or.inl c2⟩⟩ | exact Or.inl ⟨rfl, rfl, Or.inl ⟨c1, Or.inr c3⟩⟩ | exact Or.inl ⟨rfl, rfl, Or.inr (Or.inl ⟨c4, c5⟩)⟩ | exact Or.inl ⟨rfl, rfl, Or.inr (Or.inr (Or.inl ⟨c6, Or.inl c7⟩))⟩ | exact Or.inl ⟨rfl, rfl, Or.inr (Or.inr (Or.inl ⟨c6, Or.inr c8⟩))⟩ | exact Or.inl ⟨rfl, rfl, Or.inr (Or.inr (Or.inr ⟨c9, hBt⟩))⟩ | exact Or.inr ⟨rfl, rfl, fun h => by
                  rcases h with ⟨h1, h2⟩ | ⟨h1, h2⟩ | ⟨h1, h2⟩ | ⟨h1, h2⟩
                  · first | exact c1 h1 | exact h2.elim c2 c3
                  · first | exact c4 h1 | exact c5 h2
                  · first | exact c6 h1 | exact h2.elim c7 c8 | (rw [h1] at c9; exact absurd c9 (by decide)) | (trace_state; exact absurd h1 c6)
                  · first | exact c9 h1 | exact hBt h2⟩
          · refine h_iload_g C dX9_canTurn_30 rfl rfl ?_
            refine h_iconst (v := 1) C dX9_canTurn_31 (by decide) ?_
            refine h_icmp_eq (tgt := 57) C dX9_canTurn_32 (by decide) (fun c7 => ?_) (fun c7 => ?_)
            · refine h_iconst (v := 1) C dX9_canTurn_57 (by decide) ?_
              refine h_goto (tgt := 62) C dX9_canTurn_58 (by decide) ?_
              refine h_zret C E dX9_canTurn_62 (by decide) (by decide) (by first | exact Or.inl rfl | exact Or.inr rfl) ?_
              first | exact Or.inl ⟨rfl, rfl, Or.inl ⟨c1, Or.inl c2⟩⟩ | exact Or.inl ⟨rfl, rfl, Or.inl ⟨c1, Or.inr c3⟩⟩ | exact Or.inl ⟨rfl, rfl, Or.inr (Or.inl ⟨c4, c5⟩)⟩ | exact Or.inl ⟨rfl, rfl, Or.inr (Or.inr (Or.inl ⟨c6, Or.inl c7⟩))⟩ | exact Or.inl ⟨rfl, rfl, Or.inr (Or.inr (Or.inl ⟨c6, Or.inr c8⟩))⟩ | exact Or.inl ⟨rfl, rfl, Or.inr (Or.inr (Or.inr ⟨c9, hBt⟩))⟩ | exact Or.inr ⟨rfl, rfl, fun h => by
                rcases h with ⟨h1, h2⟩ | ⟨h1, h2⟩ | ⟨h1, h2⟩ | ⟨h1, h2⟩
                · first | exact c1 h1 | exact h2.elim c2 c3
                · first | exact c4 h1 | exact c5 h2
                · first | exact c6 h1 | exact h2.elim c7 c8 | (rw [h1] at c9; exact absurd c9 (by decide)) | (trace_state; exact absurd h1 c6)
                · first | exact c9 h1 | exact hBt h2⟩
            · refine h_iload_g C dX9_canTurn_35 rfl rfl ?_
              refine h_iconst (v := 2) C dX9_canTurn_36 (by decide) ?_
              refine h_icmp_eq (tgt := 57) C dX9_canTurn_37 (by decide) (fun c8 => ?_) (fun c8 => ?_)
              · refine h_iconst (v := 1) C dX9_canTurn_57 (by decide) ?_
                refine h_goto (tgt := 62) C dX9_canTurn_58 (by decide) ?_
                refine h_zret C E dX9_canTurn_62 (by decide) (by decide) (by first | exact Or.inl rfl | exact Or.inr rfl) ?_
                first | exact Or.inl ⟨rfl, rfl, Or.inl ⟨c1, Or.inl c2⟩⟩ | exact Or.inl ⟨rfl, rfl, Or.inl ⟨c1, Or.inr c3⟩⟩ | exact Or.inl ⟨rfl, rfl, Or.inr (Or.inl ⟨c4, c5⟩)⟩ | exact Or.inl ⟨rfl, rfl, Or.inr (Or.inr (Or.inl ⟨c6, Or.inl c7⟩))⟩ | exact Or.inl ⟨rfl, rfl, Or.inr (Or.inr (Or.inl ⟨c6, Or.inr c8⟩))⟩ | exact Or.inl ⟨rfl, rfl, Or.inr (Or.inr (Or.inr ⟨c9, hBt⟩))⟩ | exact Or.inr ⟨rfl, rfl, fun h => by
                  rcases h with ⟨h1, h2⟩ | ⟨h1, h2⟩ | ⟨h1, h2⟩ | ⟨h1, h2⟩
                  · first | exact c1 h1 | exact h2.elim c2 c3
                  · first | exact c4 h1 | exact c5 h2
                  · first | exact c6 h1 | exact h2.elim c7 c8 | (rw [h1] at c9; exact absurd c9 (by decide)) | (trace_state; exact absurd h1 c6)
                  · first | exact c9 h1 | exact hBt h2⟩
              · refine h_iload_g C dX9_canTurn_40 rfl rfl ?_
                refine h_iconst (v := 4) C dX9_canTurn_41 (by decide) ?_
                refine h_icmp_ne (tgt := 61) C dX9_canTurn_42 (by decide) (fun c9 => ?_) (fun c9 => ?_)
                · refine h_iconst (v := 0) C dX9_canTurn_61 (by decide) ?_
                  refine h_zret C E dX9_canTurn_62 (by decide) (by decide) (by first | exact Or.inl rfl | exact Or.inr rfl) ?_
                  first | exact Or.inl ⟨rfl, rfl, Or.inl ⟨c1, Or.inl c2⟩⟩ | exact Or.inl ⟨rfl, rfl, Or.inl ⟨c1, Or.inr c3⟩⟩ | exact Or.inl ⟨rfl, rfl, Or.inr (Or.inl ⟨c4, c5⟩)⟩ | exact Or.inl ⟨rfl, rfl, Or.inr (Or.inr (Or.inl ⟨c6, Or.inl c7⟩))⟩ | exact Or.inl ⟨rfl, rfl, Or.inr (Or.inr (Or.inl ⟨c6, Or.inr c8⟩))⟩ | exact Or.inl ⟨rfl, rfl, Or.inr (Or.inr (Or.inr ⟨c9, hBt⟩))⟩ | exact Or.inr ⟨rfl, rfl, fun h => by
                    rcases h with ⟨h1, h2⟩ | ⟨h1, h2⟩ | ⟨h1, h2⟩ | ⟨h1, h2⟩
                    · first | exact c1 h1 | exact h2.elim c2 c3
                    · first | exact c4 h1 | exact c5 h2
                    · first | exact c6 h1 | exact h2.elim c7 c8 | (rw [h1] at c9; exact absurd c9 (by decide)) | (trace_state; exact absurd h1 c6)
                    · first | exact c9 h1 | exact hBt h2⟩
                · refine h_iload_g C dX9_canTurn_45 rfl rfl ?_
                  refine h_i2l C dX9_canTurn_46 ?_
                  refine h_lconst (v := 1) C dX9_canTurn_47 (by decide) ?_
                  refine h_ldc2 C kc_X9_258 dX9_canTurn_48 ?_
                  refine h_callS3 C (k_X9_isBetween Z.l Z.G _ _ _ _) cw_X9_91 st_X9_isBetween dX9_canTurn_51 (by first | decide | exact Nat.le_of_ble_eq_true rfl) (by decide) (by decide) (by decide) (by decide) (kB (fun μ6 hp6 => ?_) (fun μ6 hp6 => ?_)) kN
                  · obtain ⟨rfl, hBt⟩ := hp6
                    rw [btw_i] at hBt
                    refine h_if_eq (tgt := 61) C dX9_canTurn_54 (by decide) (fun c32 => absurd c32 (by decide)) (fun c32 => ?_)
                    refine h_iconst (v := 1) C dX9_canTurn_57 (by decide) ?_
                    refine h_goto (tgt := 62) C dX9_canTurn_58 (by decide) ?_
                    refine h_zret C E dX9_canTurn_62 (by decide) (by decide) (by first | exact Or.inl rfl | exact Or.inr rfl) ?_
                    first | exact Or.inl ⟨rfl, rfl, Or.inl ⟨c1, Or.inl c2⟩⟩ | exact Or.inl ⟨rfl, rfl, Or.inl ⟨c1, Or.inr c3⟩⟩ | exact Or.inl ⟨rfl, rfl, Or.inr (Or.inl ⟨c4, c5⟩)⟩ | exact Or.inl ⟨rfl, rfl, Or.inr (Or.inr (Or.inl ⟨c6, Or.inl c7⟩))⟩ | exact Or.inl ⟨rfl, rfl, Or.inr (Or.inr (Or.inl ⟨c6, Or.inr c8⟩))⟩ | exact Or.inl ⟨rfl, rfl, Or.inr (Or.inr (Or.inr ⟨c9, hBt⟩))⟩ | exact Or.inr ⟨rfl, rfl, fun h => by
                      rcases h with ⟨h1, h2⟩ | ⟨h1, h2⟩ | ⟨h1, h2⟩ | ⟨h1, h2⟩
                      · first | exact c1 h1 | exact h2.elim c2 c3
                      · first | exact c4 h1 | exact c5 h2
                      · first | exact c6 h1 | exact h2.elim c7 c8 | (rw [h1] at c9; exact absurd c9 (by decide)) | (trace_state; exact absurd h1 c6)
                      · first | exact c9 h1 | exact hBt h2⟩
                  · obtain ⟨rfl, hBt⟩ := hp6
                    rw [btw_i] at hBt
                    refine h_if_eq (tgt := 61) C dX9_canTurn_54 (by decide) (fun c33 => ?_) (fun c33 => absurd (by decide) c33)
                    refine h_iconst (v := 0) C dX9_canTurn_61 (by decide) ?_
                    refine h_zret C E dX9_canTurn_62 (by decide) (by decide) (by first | exact Or.inl rfl | exact Or.inr rfl) ?_
                    first | exact Or.inl ⟨rfl, rfl, Or.inl ⟨c1, Or.inl c2⟩⟩ | exact Or.inl ⟨rfl, rfl, Or.inl ⟨c1, Or.inr c3⟩⟩ | exact Or.inl ⟨rfl, rfl, Or.inr (Or.inl ⟨c4, c5⟩)⟩ | exact Or.inl ⟨rfl, rfl, Or.inr (Or.inr (Or.inl ⟨c6, Or.inl c7⟩))⟩ | exact Or.inl ⟨rfl, rfl, Or.inr (Or.inr (Or.inl ⟨c6, Or.inr c8⟩))⟩ | exact Or.inl ⟨rfl, rfl, Or.inr (Or.inr (Or.inr ⟨c9, hBt⟩))⟩ | exact Or.inr ⟨rfl, rfl, fun h => by
                      rcases h with ⟨h1, h2⟩ | ⟨h1, h2⟩ | ⟨h1, h2⟩ | ⟨h1, h2⟩
                      · first | exact c1 h1 | exact h2.elim c2 c3
                      · first | exact c4 h1 | exact c5 h2
                      · first | exact c6 h1 | exact h2.elim c7 c8 | (rw [h1] at c9; exact absurd c9 (by decide)) | (trace_state; exact absurd h1 c6)
                      · first | exact c9 h1 | exact hBt h2⟩
        · refine h_iload_g C dX9_canTurn_20 rfl rfl ?_
          refine h_iconst (v := 3) C dX9_canTurn_21 (by decide) ?_
          refine h_icmp_eq (tgt := 57) C dX9_canTurn_22 (by decide) (fun c5 => ?_) (fun c5 => ?_)
          · refine h_iconst (v := 1) C dX9_canTurn_57 (by decide) ?_
            refine h_goto (tgt := 62) C dX9_canTurn_58 (by decide) ?_
            refine h_zret C E dX9_canTurn_62 (by decide) (by decide) (by first | exact Or.inl rfl | exact Or.inr rfl) ?_
            first | exact Or.inl ⟨rfl, rfl, Or.inl ⟨c1, Or.inl c2⟩⟩ | exact Or.inl ⟨rfl, rfl, Or.inl ⟨c1, Or.inr c3⟩⟩ | exact Or.inl ⟨rfl, rfl, Or.inr (Or.inl ⟨c4, c5⟩)⟩ | exact Or.inl ⟨rfl, rfl, Or.inr (Or.inr (Or.inl ⟨c6, Or.inl c7⟩))⟩ | exact Or.inl ⟨rfl, rfl, Or.inr (Or.inr (Or.inl ⟨c6, Or.inr c8⟩))⟩ | exact Or.inl ⟨rfl, rfl, Or.inr (Or.inr (Or.inr ⟨c9, hBt⟩))⟩ | exact Or.inr ⟨rfl, rfl, fun h => by
              rcases h with ⟨h1, h2⟩ | ⟨h1, h2⟩ | ⟨h1, h2⟩ | ⟨h1, h2⟩
              · first | exact c1 h1 | exact h2.elim c2 c3
              · first | exact c4 h1 | exact c5 h2
              · first | exact c6 h1 | exact h2.elim c7 c8 | (rw [h1] at c9; exact absurd c9 (by decide)) | (trace_state; exact absurd h1 c6)
              · first | exact c9 h1 | exact hBt h2⟩
          · refine h_iload_g C dX9_canTurn_25 rfl rfl ?_
            refine h_iconst (v := 3) C dX9_canTurn_26 (by decide) ?_
            refine h_icmp_ne (tgt := 40) C dX9_canTurn_27 (by decide) (fun c6 => ?_) (fun c6 => ?_)
            · refine h_iload_g C dX9_canTurn_40 rfl rfl ?_
              refine h_iconst (v := 4) C dX9_canTurn_41 (by decide) ?_
              refine h_icmp_ne (tgt := 61) C dX9_canTurn_42 (by decide) (fun c9 => ?_) (fun c9 => ?_)
              · refine h_iconst (v := 0) C dX9_canTurn_61 (by decide) ?_
                refine h_zret C E dX9_canTurn_62 (by decide) (by decide) (by first | exact Or.inl rfl | exact Or.inr rfl) ?_
                first | exact Or.inl ⟨rfl, rfl, Or.inl ⟨c1, Or.inl c2⟩⟩ | exact Or.inl ⟨rfl, rfl, Or.inl ⟨c1, Or.inr c3⟩⟩ | exact Or.inl ⟨rfl, rfl, Or.inr (Or.inl ⟨c4, c5⟩)⟩ | exact Or.inl ⟨rfl, rfl, Or.inr (Or.inr (Or.inl ⟨c6, Or.inl c7⟩))⟩ | exact Or.inl ⟨rfl, rfl, Or.inr (Or.inr (Or.inl ⟨c6, Or.inr c8⟩))⟩ | exact Or.inl ⟨rfl, rfl, Or.inr (Or.inr (Or.inr ⟨c9, hBt⟩))⟩ | exact Or.inr ⟨rfl, rfl, fun h => by
                  rcases h with ⟨h1, h2⟩ | ⟨h1, h2⟩ | ⟨h1, h2⟩ | ⟨h1, h2⟩
                  · first | exact c1 h1 | exact h2.elim c2 c3
                  · first | exact c4 h1 | exact c5 h2
                  · first | exact c6 h1 | exact h2.elim c7 c8 | (rw [h1] at c9; exact absurd c9 (by decide)) | (trace_state; exact absurd h1 c6)
                  · first | exact c9 h1 | exact hBt h2⟩
              · refine h_iload_g C dX9_canTurn_45 rfl rfl ?_
                refine h_i2l C dX9_canTurn_46 ?_
                refine h_lconst (v := 1) C dX9_canTurn_47 (by decide) ?_
                refine h_ldc2 C kc_X9_258 dX9_canTurn_48 ?_
                refine h_callS3 C (k_X9_isBetween Z.l Z.G _ _ _ _) cw_X9_91 st_X9_isBetween dX9_canTurn_51 (by first | decide | exact Nat.le_of_ble_eq_true rfl) (by decide) (by decide) (by decide) (by decide) (kB (fun μ7 hp7 => ?_) (fun μ7 hp7 => ?_)) kN
                · obtain ⟨rfl, hBt⟩ := hp7
                  rw [btw_i] at hBt
                  refine h_if_eq (tgt := 61) C dX9_canTurn_54 (by decide) (fun c37 => absurd c37 (by decide)) (fun c37 => ?_)
                  refine h_iconst (v := 1) C dX9_canTurn_57 (by decide) ?_
                  refine h_goto (tgt := 62) C dX9_canTurn_58 (by decide) ?_
                  refine h_zret C E dX9_canTurn_62 (by decide) (by decide) (by first | exact Or.inl rfl | exact Or.inr rfl) ?_
                  first | exact Or.inl ⟨rfl, rfl, Or.inl ⟨c1, Or.inl c2⟩⟩ | exact Or.inl ⟨rfl, rfl, Or.inl ⟨c1, Or.inr c3⟩⟩ | exact Or.inl ⟨rfl, rfl, Or.inr (Or.inl ⟨c4, c5⟩)⟩ | exact Or.inl ⟨rfl, rfl, Or.inr (Or.inr (Or.inl ⟨c6, Or.inl c7⟩))⟩ | exact Or.inl ⟨rfl, rfl, Or.inr (Or.inr (Or.inl ⟨c6, Or.inr c8⟩))⟩ | exact Or.inl ⟨rfl, rfl, Or.inr (Or.inr (Or.inr ⟨c9, hBt⟩))⟩ | exact Or.inr ⟨rfl, rfl, fun h => by
                    rcases h with ⟨h1, h2⟩ | ⟨h1, h2⟩ | ⟨h1, h2⟩ | ⟨h1, h2⟩
                    · first | exact c1 h1 | exact h2.elim c2 c3
                    · first | exact c4 h1 | exact c5 h2
                    · first | exact c6 h1 | exact h2.elim c7 c8 | (rw [h1] at c9; exact absurd c9 (by decide)) | (trace_state; exact absurd h1 c6)
                    · first | exact c9 h1 | exact hBt h2⟩
                · obtain ⟨rfl, hBt⟩ := hp7
                  rw [btw_i] at hBt
                  refine h_if_eq (tgt := 61) C dX9_canTurn_54 (by decide) (fun c38 => ?_) (fun c38 => absurd (by decide) c38)
                  refine h_iconst (v := 0) C dX9_canTurn_61 (by decide) ?_
                  refine h_zret C E dX9_canTurn_62 (by decide) (by decide) (by first | exact Or.inl rfl | exact Or.inr rfl) ?_
                  first | exact Or.inl ⟨rfl, rfl, Or.inl ⟨c1, Or.inl c2⟩⟩ | exact Or.inl ⟨rfl, rfl, Or.inl ⟨c1, Or.inr c3⟩⟩ | exact Or.inl ⟨rfl, rfl, Or.inr (Or.inl ⟨c4, c5⟩)⟩ | exact Or.inl ⟨rfl, rfl, Or.inr (Or.inr (Or.inl ⟨c6, Or.inl c7⟩))⟩ | exact Or.inl ⟨rfl, rfl, Or.inr (Or.inr (Or.inl ⟨c6, Or.inr c8⟩))⟩ | exact Or.inl ⟨rfl, rfl, Or.inr (Or.inr (Or.inr ⟨c9, hBt⟩))⟩ | exact Or.inr ⟨rfl, rfl, fun h => by
                    rcases h with ⟨h1, h2⟩ | ⟨h1, h2⟩ | ⟨h1, h2⟩ | ⟨h1, h2⟩
                    · first | exact c1 h1 | exact h2.elim c2 c3
                    · first | exact c4 h1 | exact c5 h2
                    · first | exact c6 h1 | exact h2.elim c7 c8 | (rw [h1] at c9; exact absurd c9 (by decide)) | (trace_state; exact absurd h1 c6)
                    · first | exact c9 h1 | exact hBt h2⟩
            · refine h_iload_g C dX9_canTurn_30 rfl rfl ?_
              refine h_iconst (v := 1) C dX9_canTurn_31 (by decide) ?_
              refine h_icmp_eq (tgt := 57) C dX9_canTurn_32 (by decide) (fun c7 => ?_) (fun c7 => ?_)
              · refine h_iconst (v := 1) C dX9_canTurn_57 (by decide) ?_
                refine h_goto (tgt := 62) C dX9_canTurn_58 (by decide) ?_
                refine h_zret C E dX9_canTurn_62 (by decide) (by decide) (by first | exact Or.inl rfl | exact Or.inr rfl) ?_
                first | exact Or.inl ⟨rfl, rfl, Or.inl ⟨c1, Or.inl c2⟩⟩ | exact Or.inl ⟨rfl, rfl, Or.inl ⟨c1, Or.inr c3⟩⟩ | exact Or.inl ⟨rfl, rfl, Or.inr (Or.inl ⟨c4, c5⟩)⟩ | exact Or.inl ⟨rfl, rfl, Or.inr (Or.inr (Or.inl ⟨c6, Or.inl c7⟩))⟩ | exact Or.inl ⟨rfl, rfl, Or.inr (Or.inr (Or.inl ⟨c6, Or.inr c8⟩))⟩ | exact Or.inl ⟨rfl, rfl, Or.inr (Or.inr (Or.inr ⟨c9, hBt⟩))⟩ | exact Or.inr ⟨rfl, rfl, fun h => by
                  rcases h with ⟨h1, h2⟩ | ⟨h1, h2⟩ | ⟨h1, h2⟩ | ⟨h1, h2⟩
                  · first | exact c1 h1 | exact h2.elim c2 c3
                  · first | exact c4 h1 | exact c5 h2
                  · first | exact c6 h1 | exact h2.elim c7 c8 | (rw [h1] at c9; exact absurd c9 (by decide)) | (trace_state; exact absurd h1 c6)
                  · first | exact c9 h1 | exact hBt h2⟩
              · refine h_iload_g C dX9_canTurn_35 rfl rfl ?_
                refine h_iconst (v := 2) C dX9_canTurn_36 (by decide) ?_
                refine h_icmp_eq (tgt := 57) C dX9_canTurn_37 (by decide) (fun c8 => ?_) (fun c8 => ?_)
                · refine h_iconst (v := 1) C dX9_canTurn_57 (by decide) ?_
                  refine h_goto (tgt := 62) C dX9_canTurn_58 (by decide) ?_
                  refine h_zret C E dX9_canTurn_62 (by decide) (by decide) (by first | exact Or.inl rfl | exact Or.inr rfl) ?_
                  first | exact Or.inl ⟨rfl, rfl, Or.inl ⟨c1, Or.inl c2⟩⟩ | exact Or.inl ⟨rfl, rfl, Or.inl ⟨c1, Or.inr c3⟩⟩ | exact Or.inl ⟨rfl, rfl, Or.inr (Or.inl ⟨c4, c5⟩)⟩ | exact Or.inl ⟨rfl, rfl, Or.inr (Or.inr (Or.inl ⟨c6, Or.inl c7⟩))⟩ | exact Or.inl ⟨rfl, rfl, Or.inr (Or.inr (Or.inl ⟨c6, Or.inr c8⟩))⟩ | exact Or.inl ⟨rfl, rfl, Or.inr (Or.inr (Or.inr ⟨c9, hBt⟩))⟩ | exact Or.inr ⟨rfl, rfl, fun h => by
                    rcases h with ⟨h1, h2⟩ | ⟨h1, h2⟩ | ⟨h1, h2⟩ | ⟨h1, h2⟩
                    · first | exact c1 h1 | exact h2.elim c2 c3
                    · first | exact c4 h1 | exact c5 h2
                    · first | exact c6 h1 | exact h2.elim c7 c8 | (rw [h1] at c9; exact absurd c9 (by decide)) | (trace_state; exact absurd h1 c6)
                    · first | exact c9 h1 | exact hBt h2⟩
                · refine h_iload_g C dX9_canTurn_40 rfl rfl ?_
                  refine h_iconst (v := 4) C dX9_canTurn_41 (by decide) ?_
                  refine h_icmp_ne (tgt := 61) C dX9_canTurn_42 (by decide) (fun c9 => ?_) (fun c9 => ?_)
                  · refine h_iconst (v := 0) C dX9_canTurn_61 (by decide) ?_
                    refine h_zret C E dX9_canTurn_62 (by decide) (by decide) (by first | exact Or.inl rfl | exact Or.inr rfl) ?_
                    first | exact Or.inl ⟨rfl, rfl, Or.inl ⟨c1, Or.inl c2⟩⟩ | exact Or.inl ⟨rfl, rfl, Or.inl ⟨c1, Or.inr c3⟩⟩ | exact Or.inl ⟨rfl, rfl, Or.inr (Or.inl ⟨c4, c5⟩)⟩ | exact Or.inl ⟨rfl, rfl, Or.inr (Or.inr (Or.inl ⟨c6, Or.inl c7⟩))⟩ | exact Or.inl ⟨rfl, rfl, Or.inr (Or.inr (Or.inl ⟨c6, Or.inr c8⟩))⟩ | exact Or.inl ⟨rfl, rfl, Or.inr (Or.inr (Or.inr ⟨c9, hBt⟩))⟩ | exact Or.inr ⟨rfl, rfl, fun h => by
                      rcases h with ⟨h1, h2⟩ | ⟨h1, h2⟩ | ⟨h1, h2⟩ | ⟨h1, h2⟩
                      · first | exact c1 h1 | exact h2.elim c2 c3
                      · first | exact c4 h1 | exact c5 h2
                      · first | exact c6 h1 | exact h2.elim c7 c8 | (rw [h1] at c9; exact absurd c9 (by decide)) | (trace_state; exact absurd h1 c6)
                      · first | exact c9 h1 | exact hBt h2⟩
                  · refine h_iload_g C dX9_canTurn_45 rfl rfl ?_
                    refine h_i2l C dX9_canTurn_46 ?_
                    refine h_lconst (v := 1) C dX9_canTurn_47 (by decide) ?_
                    refine h_ldc2 C kc_X9_258 dX9_canTurn_48 ?_
                    refine h_callS3 C (k_X9_isBetween Z.l Z.G _ _ _ _) cw_X9_91 st_X9_isBetween dX9_canTurn_51 (by first | decide | exact Nat.le_of_ble_eq_true rfl) (by decide) (by decide) (by decide) (by decide) (kB (fun μ8 hp8 => ?_) (fun μ8 hp8 => ?_)) kN
                    · obtain ⟨rfl, hBt⟩ := hp8
                      rw [btw_i] at hBt
                      refine h_if_eq (tgt := 61) C dX9_canTurn_54 (by decide) (fun c42 => absurd c42 (by decide)) (fun c42 => ?_)
                      refine h_iconst (v := 1) C dX9_canTurn_57 (by decide) ?_
                      refine h_goto (tgt := 62) C dX9_canTurn_58 (by decide) ?_
                      refine h_zret C E dX9_canTurn_62 (by decide) (by decide) (by first | exact Or.inl rfl | exact Or.inr rfl) ?_
                      first | exact Or.inl ⟨rfl, rfl, Or.inl ⟨c1, Or.inl c2⟩⟩ | exact Or.inl ⟨rfl, rfl, Or.inl ⟨c1, Or.inr c3⟩⟩ | exact Or.inl ⟨rfl, rfl, Or.inr (Or.inl ⟨c4, c5⟩)⟩ | exact Or.inl ⟨rfl, rfl, Or.inr (Or.inr (Or.inl ⟨c6, Or.inl c7⟩))⟩ | exact Or.inl ⟨rfl, rfl, Or.inr (Or.inr (Or.inl ⟨c6, Or.inr c8⟩))⟩ | exact Or.inl ⟨rfl, rfl, Or.inr (Or.inr (Or.inr ⟨c9, hBt⟩))⟩ | exact Or.inr ⟨rfl, rfl, fun h => by
                        rcases h with ⟨h1, h2⟩ | ⟨h1, h2⟩ | ⟨h1, h2⟩ | ⟨h1, h2⟩
                        · first | exact c1 h1 | exact h2.elim c2 c3
                        · first | exact c4 h1 | exact c5 h2
                        · first | exact c6 h1 | exact h2.elim c7 c8 | (rw [h1] at c9; exact absurd c9 (by decide)) | (trace_state; exact absurd h1 c6)
                        · first | exact c9 h1 | exact hBt h2⟩
                    · obtain ⟨rfl, hBt⟩ := hp8
                      rw [btw_i] at hBt
                      refine h_if_eq (tgt := 61) C dX9_canTurn_54 (by decide) (fun c43 => ?_) (fun c43 => absurd (by decide) c43)
                      refine h_iconst (v := 0) C dX9_canTurn_61 (by decide) ?_
                      refine h_zret C E dX9_canTurn_62 (by decide) (by decide) (by first | exact Or.inl rfl | exact Or.inr rfl) ?_
                      first | exact Or.inl ⟨rfl, rfl, Or.inl ⟨c1, Or.inl c2⟩⟩ | exact Or.inl ⟨rfl, rfl, Or.inl ⟨c1, Or.inr c3⟩⟩ | exact Or.inl ⟨rfl, rfl, Or.inr (Or.inl ⟨c4, c5⟩)⟩ | exact Or.inl ⟨rfl, rfl, Or.inr (Or.inr (Or.inl ⟨c6, Or.inl c7⟩))⟩ | exact Or.inl ⟨rfl, rfl, Or.inr (Or.inr (Or.inl ⟨c6, Or.inr c8⟩))⟩ | exact Or.inl ⟨rfl, rfl, Or.inr (Or.inr (Or.inr ⟨c9, hBt⟩))⟩ | exact Or.inr ⟨rfl, rfl, fun h => by
                        rcases h with ⟨h1, h2⟩ | ⟨h1, h2⟩ | ⟨h1, h2⟩ | ⟨h1, h2⟩
                        · first | exact c1 h1 | exact h2.elim c2 c3
                        · first | exact c4 h1 | exact c5 h2
                        · first | exact c6 h1 | exact h2.elim c7 c8 | (rw [h1] at c9; exact absurd c9 (by decide)) | (trace_state; exact absurd h1 c6)
                        · first | exact c9 h1 | exact hBt h2⟩

end
