section
abbrev vOK (v : Int32) : Prop := -7 ≤ v.toInt ∧ v.toInt ≤ 3
theorem p7 {v : Int32} (h : vOK v) : 0 ≤ (v - (-7)).toInt ∧ (v - (-7)).toInt < 11 := by
  have h1 := h.1
  have h2 := h.2
  have e : (v - (-7)).toInt = v.toInt + 7 := by rw [fb_subI (by rw [tl_m7]; omega) (by rw [tl_m7]; omega), tl_m7]; omega
  omega
theorem vOK_l : vOK 0 ∧ vOK (-1) ∧ vOK (-2) ∧ vOK (-3) ∧ vOK (-4) ∧ vOK (-5) ∧ vOK (-6) ∧ vOK (-7) ∧ vOK 1 ∧ vOK 2 ∧ vOK 3 := by
  refine ⟨?_, ?_, ?_, ?_, ?_, ?_, ?_, ?_, ?_, ?_, ?_⟩ <;> exact ⟨by decide, by decide⟩
theorem vOK_TH {S : Sx} {e a b : Nat} {g : Row} : vOK (THc S e a b g) := by
  obtain ⟨-, m1, m2, -, -, -, m6, m7, -, -, q3⟩ := vOK_l
  unfold THc
  split; exact m1; split; exact m7; split; exact m2; split; exact m6; exact q3
theorem vOK_BO {S : Sx} {e b : Nat} {g : Row} : vOK (BOc S e b g) := by
  obtain ⟨-, -, -, -, -, m5, -, -, q1, q2, -⟩ := vOK_l
  unfold BOc
  split; exact q2; split; exact q1; exact m5
theorem vOK_TR {S S9 : Sx} {e : Nat} {g : Row} {v : Int32} (h : TRc S e g v S9) : vOK v := by
  obtain ⟨-, m1, m2, -, -, -, -, -, -, -, q3⟩ := vOK_l
  rcases h with ⟨_, h, _⟩ | ⟨b, f, _, _, ⟨_, h, _⟩ | ⟨_, h, _⟩⟩ <;> rw [h]
  · exact m1
  · exact m2
  · exact q3
theorem vOK_TC {S S9 : Sx} {e : Nat} {g : Row} {v : Int32} (h : TCc S e g v S9) : vOK v := by
  obtain ⟨-, m1, m2, -, -, -, -, -, -, -, q3⟩ := vOK_l
  rcases h with ⟨_, h, _⟩ | ⟨b, f, _, _, ⟨_, h, _⟩ | ⟨_, h, _⟩⟩ <;> rw [h]
  · exact m1
  · exact m2
  · exact q3
theorem vOK_TD {S S9 : Sx} {e : Nat} {g : Row} {v : Int32} (h : TDc S e g v S9) : vOK v := by
  obtain ⟨-, m1, m2, m3, m4, -⟩ := vOK_l
  rcases h with ⟨_, h, _⟩ | ⟨b, w, r, _, _, _, ⟨_, h, _⟩ | ⟨_, _, h, _⟩ | ⟨_, _, _, h, _⟩ | ⟨_, _, _, h, _⟩⟩ <;> rw [h]
  · exact m1
  · exact m4
  · exact m2
  · exact m3
  · exact vOK_BO
/-- a letter comes to whoever has the address -/
def GOT (S : Sx) (g : Row) (v : Int32) (S9 : Sx) : Prop := (FWA S (g 1) = none ∧ v = 0 ∧ S9 = S) ∨ ∃ e, e < 3 ∧ FWA S (g 1) = some e ∧ ((g 2 = 1 ∧ ∃ a b, a < 3 ∧ b < 3 ∧ g 5 = nI (10 * a + b) ∧ v = THc S e a b g ∧ S9 = THs S e a b g) ∨ (g 2 = 2 ∧ TRc S e g v S9) ∨ (g 2 = 3 ∧ TCc S e g v S9) ∨ (¬ g 2 = 1 ∧ ¬ g 2 = 2 ∧ ¬ g 2 = 3 ∧ TDc S e g v S9))
def okLt (g : Row) : Prop := (g 2 = 1 → (∃ a b, a < 3 ∧ b < 3 ∧ g 5 = nI (10 * a + b)) ∧ g 4 = nI (cl (g 4)) ∧ cl (g 4) < 2039) ∧ (g 2 = 2 → g 5 = nI (cl (g 5)) ∧ cl (g 5) < 2039)
def DLF (S9 : Sx) (v : Int32) : Sx := (S9.sSc 2 (S9.sc 2 + 1)).sCd (cl (v - (-7))) (S9.cd (cl (v - (-7))) + 1)
/-- what a picture promises, for the class's own calls -/
def okS (S : Sx) : Prop := (0 ≤ (HNUM S).toInt ∧ (HNUM S).toInt < 1000000) ∧ (∀ e, e < 3 → okF S e ∧ okR S e ∧ (∀ b, b < 3 → (S.wt e b).length ≤ 4) ∧ (OUT e S.ou).length < 512) ∧ ∀ g ∈ S.nt, okLt g
def FREb (S : Sx) (a b : Nat) : Bool := match S.fl a b with
  | none => false
  | some r => decide (S.sc 0 - r 3 < 5)
theorem FRE_iff {S : Sx} {a b : Nat} : FRE S a b ↔ FREb S a b = true := by
  unfold FRE FREb
  cases h : S.fl a b with
  | none => exact ⟨fun ⟨r, h1, _⟩ => (by cases h1), fun h1 => (by cases h1)⟩
  | some r => exact ⟨fun ⟨r9, h1, h2⟩ => by cases h1; exact decide_eq_true h2, fun h1 => ⟨r, rfl, of_decide_eq_true h1⟩⟩
def GUF (S : Sx) (a b : Nat) : Sx := if FREb S a b = true then S else HELS S a b
theorem GUFS_eq {S S9 : Sx} {a b : Nat} (h : GUFS S a b S9) : S9 = GUF S a b := by
  unfold GUF
  rcases h with ⟨h, e⟩ | ⟨h, e⟩
  · rw [if_pos (FRE_iff.mp h)]; exact e
  · rw [if_neg (fun z => h (FRE_iff.mpr z))]; exact e
def greC (S : Sx) (x y : Int32) : Int32 := if isE x ∧ isE y then (if ¬ x = y then (if FREb S (cl x) (cl y) = true then 3 else 0) else 2) else 1
theorem greC_X {S : Sx} {x y : Int32} {X : String} {μ μ' : Mem} (h : μ = μ' ∧ ((X = xIOB ∧ ¬ (isE x ∧ isE y)) ∨ (X = xIAE ∧ isE x ∧ isE y ∧ x = y))) : PX3 xIOB xIAE xISE (greC S x y) μ X μ' := ⟨h.1, h.2.elim (fun z => Or.inl ⟨z.1, if_neg z.2⟩) (fun z => Or.inr (Or.inl ⟨z.1, (if_pos ⟨z.2.1, z.2.2.1⟩).trans (if_neg fun k => k z.2.2.2)⟩))⟩
def sndC (x s d l : Int32) : Int32 := if isE x then (if inR s 0 255 then (if inR d 0 255 then (if inR l 0 9999 then 0 else 2) else 2) else 2) else 1
def SND (S : Sx) (a b : Nat) (s d l : Int32) : Int32 × Sx := match USE S a b with
  | none => (0, GUF (S.sWt a b (PTW (S.wt a b) (mkP s d l))) a b)
  | some r => (1, if ¬ r.1 6 = 0 ∧ (20 ≤ S.sc 0 - r.1 2 ∨ 30 ≤ r.1 5 + 1) then GUF (DATS S a b r s d l) a b else DATS S a b r s d l)

theorem CTo.s261' {G : Gx} {P : Nat → Nat} {S : Sx} {μ μ1 m : Mem} {v : Int32} (h : CTo G P μ S μ1) (e : m = μ1.sfi 261 (P 0) v) : CTo G P μ (S.sSc 2 v) m := by rw [e]; exact h.tr (CTo.s261 h.1 _)
theorem CTo.sC' {G : Gx} {P : Nat → Nat} {S : Sx} {μ μ1 m : Mem} {i : Nat} {v : Int32} (h : CTo G P μ S μ1) (e : m = μ1.sei (P 3) i v) (hi : i < 11) : CTo G P μ (S.sCd i v) m := by rw [e]; exact h.tr (CTo.sC h.1 hi _)

set_option maxRecDepth 100000 in
set_option maxHeartbeats 4000000 in
theorem k_X8_deliver (l : Launch) (G : Gx) (P : Nat → Nat) (S : Sx) (μ : Mem) (hC : CRep G P S μ) (x : Int32) (hok : okS S) : Kon l yX8_deliver cX8_deliver 6 (some .int) 12 15 5066 293 G [.ref (P 0), .int x] μ (pI fun v μ' => letC S x = 0 ∧ ∃ S9, GOT (S.sNt (S.nt.eraseIdx (cl x))) (LTR S (cl x)) v S9 ∧ CTo G P μ (DLF S9 v) μ') (PX1 xIOB (letC S x) μ) := by
  refine Kon.ofG (by decide +kernel) (Nat.le_of_ble_eq_true rfl) (Nat.le_of_ble_eq_true rfl) (fun Z hZG C E NT MT => ?_)
  subst hZG
  have C : Cx Z RX8 cX8_deliver 12 15 5066 293 := C
  show HW Z 0 0 0 [some (.ref (P 0)), some (.int x), none, none, none, none] [] μ
  obtain ⟨xs, hx, hnd, hR⟩ := hC.nt
  have hlen := hR.1
  have hmx := hx.2.1
  refine h_al_g C dX8_deliver_0 rfl rfl rfv_r ?_
  refine h_iload_g C dX8_deliver_1 rfl rfl ?_
  refine h_callV1 (ci := 8) C (k_X8_letterAt Z.l Z.G P S _ hC xs hx hR x) cw_X8_161 im_X8_letterAt sl_X8_letterAt rfl (by decide) (CRep.kX hC) dX8_deliver_2 (by first | decide | exact Nat.le_of_ble_eq_true rfl) (by decide) (by decide) (by decide) (by decide) (kA fun r1 μ1 hp1 => ?_) (fun X9 μ9 hx9 => ?_)
  · obtain ⟨rfl, hL, r, hxi, hri, hl⟩ := hp1
    have hk : KLET % 32 = 4 := by decide
    have eL := LTR_eq hri
    refine h_ast_2 C dX8_deliver_5 ct_i rfv_r ?_
    refine h_al_g C dX8_deliver_6 rfl rfl rfv_r ?_
    refine gs_X8_18 C dX8_deliver_7 (CRep.kX hC) (CRep.f257 hC) ?_
    refine h_iload_g C dX8_deliver_10 rfl rfl ?_
    refine h_callV1 (ci := 0) C (k_Jx4a65c_remove_915e3 Z.l Z.G _ xs x (cl x) _ _ hx (cl_nI hL.1) hxi) cw_X8_112 im_Jx4a65c_remove_915e3 sl_Jx4a65c_remove_915e3 rfl (by decide) hx.1 dX8_deliver_11 (by first | decide | exact Nat.le_of_ble_eq_true rfl) (by decide) (by decide) (by decide) (by decide) (kA fun r2 μ1 hp2 => ?_) kN
    obtain ⟨rfl, hl2, hf2⟩ := hp2
    have hCn := CRep.rmNt hC hnd hR (cl x) hl2 hf2
    have hTo : CTo Z.G P μ (S.sNt (S.nt.eraseIdx (cl x))) μ1 := ⟨hCn, hf2.S (LW_isC hC (by decide))⟩
    have nF : ∀ k, k ≠ 0 → 34 < k / 32 → k / 32 < 1000 → ¬ LW μ (P 2) k := nLW_hi hC (by decide)
    have hlm := hl.kept hf2 (by decide) (nF _ (by decide) (by decide) (by decide)) (nLW_FM hC (by decide) _)
    obtain ⟨fp, hg⟩ := hlm.got
    have hkk : KLET % 32 = 4 := by decide
    obtain ⟨hN, hE3, hLt⟩ := hok
    have hlt := hLt r (List.mem_of_getElem? hri)
    have hC := hTo.1
    clear hl
    refine h_pop C dX8_deliver_14 rfl ?_
    refine h_al_g C dX8_deliver_15 rfl rfl rfv_r ?_
    refine h_al_g C dX8_deliver_16 rfl rfl rfv_r ?_
    refine gf_X8_165 C dX8_deliver_17 hg.k hg.L.f97 ?_
    refine h_callV1 (ci := 8) C (k_X8_endWithAddress Z.l Z.G P _ _ hC _) cw_X8_60 im_X8_endWithAddress sl_X8_endWithAddress rfl (by decide) (CRep.kX hC) dX8_deliver_20 (by first | decide | exact Nat.le_of_ble_eq_true rfl) (by decide) (by decide) (by decide) (by decide) (kO (fun μ2 hp3 => ?_) (fun r3 μ2 hp3 => ?_)) kN
    · obtain ⟨rfl, hA⟩ := hp3
      have hT : CTo Z.G P μ (S.sNt (S.nt.eraseIdx (cl x))) _ := hTo
      have hG : GOT (S.sNt (S.nt.eraseIdx (cl x))) r 0 (S.sNt (S.nt.eraseIdx (cl x))) := Or.inl ⟨hA, rfl, rfl⟩
      have hvr : vOK 0 := vOK_l.1
      refine h_ast_3 C dX8_deliver_23 ct_r rfv_n ?_
      refine h_iconst (v := 0) C dX8_deliver_24 (by decide) ?_
      refine h_ist_4 C dX8_deliver_25 ct_u ?_
      refine h_al_g C dX8_deliver_27 rfl rfl rfv_n ?_
      refine h_ifnull_n (tgt := 101) C dX8_deliver_28 (by decide) ?_
      refine h_al_g C dX8_deliver_101 rfl rfl rfv_r ?_
      refine h_dup C dX8_deliver_102 rfl ?_
      refine gf_X8_33 C dX8_deliver_103 (CRep.kX hC) (CRep.f261 hC) ?_
      refine h_iconst (v := 1) C dX8_deliver_106 (by decide) ?_
      refine h_iadd C dX8_deliver_107 ?_
      refine pf_X8_33 C dX8_deliver_108 (CRep.kX hC) ?_
      refine h_abs (fun mz ez => ?_)
      have hT2 := CTo.s261' hT ez
      have hC := hT2.1
      refine h_iload_w C dX8_deliver_111 rfl ?_
      refine h_bipush (v := (-7)) C dX8_deliver_113 (by decide) ?_
      refine h_isub C dX8_deliver_115 ?_
      refine h_ist_5 C dX8_deliver_116 ct_i ?_
      refine h_iload_w C dX8_deliver_118 rfl ?_
      refine h_if_lt (tgt := 144) C dX8_deliver_120 (by decide) (fun c1 => absurd c1 ((fun h => by rw [Int32.lt_iff_toInt_lt, tl_0] at h; have := (p7 hvr).1; omega))) (fun c1 => ?_)
      refine h_iload_w C dX8_deliver_123 rfl ?_
      refine h_al_g C dX8_deliver_125 rfl rfl rfv_r ?_
      refine gs_X8_22 C dX8_deliver_126 (CRep.kX hC) (CRep.f258 hC) ?_
      refine h_alen C dX8_deliver_129 (by rw [CRep.kTL hC]; decide) (CRep.lnT hC) ?_
      rw [show (Int32.ofNat 11 : Int32) = 11 from rfl]
      refine h_icmp_ge (tgt := 144) C dX8_deliver_130 (by decide) (fun c2 => absurd c2 ((fun h => by rw [Int32.le_iff_toInt_le, tl_11] at h; have := (p7 hvr).2; omega))) (fun c2 => ?_)
      refine h_al_g C dX8_deliver_133 rfl rfl rfv_r ?_
      refine gs_X8_22 C dX8_deliver_134 (CRep.kX hC) (CRep.f258 hC) ?_
      refine h_iload_w C dX8_deliver_137 rfl ?_
      refine h_dup2 C dX8_deliver_139 rfl rfl ?_
      refine h_iald C dX8_deliver_140 (CRep.kTL hC) (by rw [CRep.lnT hC]; exact vp_isE (p7 hvr).1 (p7 hvr).2 (by decide)) (CRep.eT hC (by show cl _ < 11; have := cl_eq (p7 hvr).1; have := (p7 hvr).2; omega)) ?_
      refine h_iconst (v := 1) C dX8_deliver_141 (by decide) ?_
      refine h_iadd C dX8_deliver_142 ?_
      refine h_iast C dX8_deliver_143 (CRep.kTL hC) (by rw [CRep.lnT hC]; exact vp_isE (p7 hvr).1 (p7 hvr).2 (by decide)) ?_
      refine h_abs (fun my ey => ?_)
      have hT3 := CTo.sC' hT2 ey (by show cl _ < 11; have := cl_eq (p7 hvr).1; have := (p7 hvr).2; omega)
      refine h_iload_w C dX8_deliver_144 rfl ?_
      refine h_iret C E dX8_deliver_146 (by decide) (by decide) ?_
      exact ⟨_, rfl, if_pos hL, _, by rw [eL]; exact hG, hT3⟩
    · obtain ⟨rfl, e, he, hA, rfl⟩ := hp3
      obtain ⟨hoF, hoR, hW4, h512⟩ := hE3 e he
      refine h_ast_3 C dX8_deliver_23 ct_r rfv_r ?_
      refine h_iconst (v := 0) C dX8_deliver_24 (by decide) ?_
      refine h_ist_4 C dX8_deliver_25 ct_r ?_
      refine h_al_g C dX8_deliver_27 rfl rfl rfv_r ?_
      refine h_ifnull_r C dX8_deliver_28 ?_
      refine h_al_g C dX8_deliver_31 rfl rfl rfv_r ?_
      refine gf_X8_170 C dX8_deliver_32 hg.k hg.L.f96 ?_
      by_cases hv1 : r 2 = 1
      · refine h_tableIn (off := 25) (tgt := 60) C dX8_deliver_35 (by rw [hv1]; decide) (by rw [hv1]; decide) (by rw [hv1]; rfl) (by decide) ?_
        obtain ⟨⟨a, b, ha, hb, hw5⟩, hx4, hx5⟩ := hlt.1 hv1
        refine h_al_g C dX8_deliver_60 rfl rfl rfv_r ?_
        refine h_al_g C dX8_deliver_61 rfl rfl rfv_r ?_
        refine h_al_g C dX8_deliver_62 rfl rfl rfv_r ?_
        refine h_callV2 (ci := 8) C (k_X8_takeHello Z.l Z.G P _ _ hC e a b he ha hb hN _ fp r hg hv1 hw5 hx4 hx5) cw_X8_173 im_X8_takeHello sl_X8_takeHello rfl (by decide) (CRep.kX hC) dX8_deliver_63 (by first | decide | exact Nat.le_of_ble_eq_true rfl) (by decide) (by decide) (by decide) (by decide) (kI fun r4 μ3 hp4 => ?_) kN
        obtain ⟨rfl, hTk⟩ := hp4
        have hT := hTo.tr hTk.1
        have hG : GOT (S.sNt (S.nt.eraseIdx (cl x))) r _ _ := Or.inr ⟨e, he, hA, Or.inl ⟨hv1, a, b, ha, hb, hw5, rfl, rfl⟩⟩
        have hvr := vOK_TH (S := (S.sNt (S.nt.eraseIdx (cl x)))) (e := e) (a := a) (b := b) (g := r)
        have hC := hT.1
        refine h_ist_4 C dX8_deliver_66 ct_r ?_
        refine h_goto (tgt := 101) C dX8_deliver_68 (by decide) ?_
        refine h_al_g C dX8_deliver_101 rfl rfl rfv_r ?_
        refine h_dup C dX8_deliver_102 rfl ?_
        refine gf_X8_33 C dX8_deliver_103 (CRep.kX hC) (CRep.f261 hC) ?_
        refine h_iconst (v := 1) C dX8_deliver_106 (by decide) ?_
        refine h_iadd C dX8_deliver_107 ?_
        refine pf_X8_33 C dX8_deliver_108 (CRep.kX hC) ?_
        refine h_abs (fun mz ez => ?_)
        have hT2 := CTo.s261' hT ez
        have hC := hT2.1
        refine h_iload_w C dX8_deliver_111 rfl ?_
        refine h_bipush (v := (-7)) C dX8_deliver_113 (by decide) ?_
        refine h_isub C dX8_deliver_115 ?_
        refine h_ist_5 C dX8_deliver_116 ct_i ?_
        refine h_iload_w C dX8_deliver_118 rfl ?_
        refine h_if_lt (tgt := 144) C dX8_deliver_120 (by decide) (fun c3 => absurd c3 ((fun h => by rw [Int32.lt_iff_toInt_lt, tl_0] at h; have := (p7 hvr).1; omega))) (fun c3 => ?_)
        refine h_iload_w C dX8_deliver_123 rfl ?_
        refine h_al_g C dX8_deliver_125 rfl rfl rfv_r ?_
        refine gs_X8_22 C dX8_deliver_126 (CRep.kX hC) (CRep.f258 hC) ?_
        refine h_alen C dX8_deliver_129 (by rw [CRep.kTL hC]; decide) (CRep.lnT hC) ?_
        rw [show (Int32.ofNat 11 : Int32) = 11 from rfl]
        refine h_icmp_ge (tgt := 144) C dX8_deliver_130 (by decide) (fun c4 => absurd c4 ((fun h => by rw [Int32.le_iff_toInt_le, tl_11] at h; have := (p7 hvr).2; omega))) (fun c4 => ?_)
        refine h_al_g C dX8_deliver_133 rfl rfl rfv_r ?_
        refine gs_X8_22 C dX8_deliver_134 (CRep.kX hC) (CRep.f258 hC) ?_
        refine h_iload_w C dX8_deliver_137 rfl ?_
        refine h_dup2 C dX8_deliver_139 rfl rfl ?_
        refine h_iald C dX8_deliver_140 (CRep.kTL hC) (by rw [CRep.lnT hC]; exact vp_isE (p7 hvr).1 (p7 hvr).2 (by decide)) (CRep.eT hC (by show cl _ < 11; have := cl_eq (p7 hvr).1; have := (p7 hvr).2; omega)) ?_
        refine h_iconst (v := 1) C dX8_deliver_141 (by decide) ?_
        refine h_iadd C dX8_deliver_142 ?_
        refine h_iast C dX8_deliver_143 (CRep.kTL hC) (by rw [CRep.lnT hC]; exact vp_isE (p7 hvr).1 (p7 hvr).2 (by decide)) ?_
        refine h_abs (fun my ey => ?_)
        have hT3 := CTo.sC' hT2 ey (by show cl _ < 11; have := cl_eq (p7 hvr).1; have := (p7 hvr).2; omega)
        refine h_iload_w C dX8_deliver_144 rfl ?_
        refine h_iret C E dX8_deliver_146 (by decide) (by decide) ?_
        exact ⟨_, rfl, if_pos hL, _, by rw [eL]; exact hG, hT3⟩
      by_cases hv2 : r 2 = 2
      · refine h_tableIn (off := 36) (tgt := 71) C dX8_deliver_35 (by rw [hv2]; decide) (by rw [hv2]; decide) (by rw [hv2]; rfl) (by decide) ?_
        obtain ⟨hy5, hy6⟩ := hlt.2 hv2
        refine h_al_g C dX8_deliver_71 rfl rfl rfv_r ?_
        refine h_al_g C dX8_deliver_72 rfl rfl rfv_r ?_
        refine h_al_g C dX8_deliver_73 rfl rfl rfv_r ?_
        refine h_callV2 (ci := 8) C (k_X8_takeReply Z.l Z.G P _ _ hC e he hoF hoR hW4 _ fp r hg hy5 hy6) cw_X8_177 im_X8_takeReply sl_X8_takeReply rfl (by decide) (CRep.kX hC) dX8_deliver_74 (by first | decide | exact Nat.le_of_ble_eq_true rfl) (by decide) (by decide) (by decide) (by decide) (kI fun r5 μ4 hp5 => ?_) kN
        obtain ⟨S9, hTR, hTk⟩ := hp5
        have hT := hTo.tr hTk.1
        have hG : GOT (S.sNt (S.nt.eraseIdx (cl x))) r _ S9 := Or.inr ⟨e, he, hA, Or.inr (Or.inl ⟨hv2, hTR⟩)⟩
        have hvr := vOK_TR hTR
        have hC := hT.1
        refine h_ist_4 C dX8_deliver_77 ct_r ?_
        refine h_goto (tgt := 101) C dX8_deliver_79 (by decide) ?_
        refine h_al_g C dX8_deliver_101 rfl rfl rfv_r ?_
        refine h_dup C dX8_deliver_102 rfl ?_
        refine gf_X8_33 C dX8_deliver_103 (CRep.kX hC) (CRep.f261 hC) ?_
        refine h_iconst (v := 1) C dX8_deliver_106 (by decide) ?_
        refine h_iadd C dX8_deliver_107 ?_
        refine pf_X8_33 C dX8_deliver_108 (CRep.kX hC) ?_
        refine h_abs (fun mz ez => ?_)
        have hT2 := CTo.s261' hT ez
        have hC := hT2.1
        refine h_iload_w C dX8_deliver_111 rfl ?_
        refine h_bipush (v := (-7)) C dX8_deliver_113 (by decide) ?_
        refine h_isub C dX8_deliver_115 ?_
        refine h_ist_5 C dX8_deliver_116 ct_i ?_
        refine h_iload_w C dX8_deliver_118 rfl ?_
        refine h_if_lt (tgt := 144) C dX8_deliver_120 (by decide) (fun c5 => absurd c5 ((fun h => by rw [Int32.lt_iff_toInt_lt, tl_0] at h; have := (p7 hvr).1; omega))) (fun c5 => ?_)
        refine h_iload_w C dX8_deliver_123 rfl ?_
        refine h_al_g C dX8_deliver_125 rfl rfl rfv_r ?_
        refine gs_X8_22 C dX8_deliver_126 (CRep.kX hC) (CRep.f258 hC) ?_
        refine h_alen C dX8_deliver_129 (by rw [CRep.kTL hC]; decide) (CRep.lnT hC) ?_
        rw [show (Int32.ofNat 11 : Int32) = 11 from rfl]
        refine h_icmp_ge (tgt := 144) C dX8_deliver_130 (by decide) (fun c6 => absurd c6 ((fun h => by rw [Int32.le_iff_toInt_le, tl_11] at h; have := (p7 hvr).2; omega))) (fun c6 => ?_)
        refine h_al_g C dX8_deliver_133 rfl rfl rfv_r ?_
        refine gs_X8_22 C dX8_deliver_134 (CRep.kX hC) (CRep.f258 hC) ?_
        refine h_iload_w C dX8_deliver_137 rfl ?_
        refine h_dup2 C dX8_deliver_139 rfl rfl ?_
        refine h_iald C dX8_deliver_140 (CRep.kTL hC) (by rw [CRep.lnT hC]; exact vp_isE (p7 hvr).1 (p7 hvr).2 (by decide)) (CRep.eT hC (by show cl _ < 11; have := cl_eq (p7 hvr).1; have := (p7 hvr).2; omega)) ?_
        refine h_iconst (v := 1) C dX8_deliver_141 (by decide) ?_
        refine h_iadd C dX8_deliver_142 ?_
        refine h_iast C dX8_deliver_143 (CRep.kTL hC) (by rw [CRep.lnT hC]; exact vp_isE (p7 hvr).1 (p7 hvr).2 (by decide)) ?_
        refine h_abs (fun my ey => ?_)
        have hT3 := CTo.sC' hT2 ey (by show cl _ < 11; have := cl_eq (p7 hvr).1; have := (p7 hvr).2; omega)
        refine h_iload_w C dX8_deliver_144 rfl ?_
        refine h_iret C E dX8_deliver_146 (by decide) (by decide) ?_
        exact ⟨_, rfl, if_pos hL, _, by rw [eL]; exact hG, hT3⟩
      by_cases hv3 : r 2 = 3
      · refine h_tableIn (off := 47) (tgt := 82) C dX8_deliver_35 (by rw [hv3]; decide) (by rw [hv3]; decide) (by rw [hv3]; rfl) (by decide) ?_
        refine h_al_g C dX8_deliver_82 rfl rfl rfv_r ?_
        refine h_al_g C dX8_deliver_83 rfl rfl rfv_r ?_
        refine h_al_g C dX8_deliver_84 rfl rfl rfv_r ?_
        refine h_callV2 (ci := 8) C (k_X8_takeCookie Z.l Z.G P _ _ hC e he _ fp r hg) cw_X8_180 im_X8_takeCookie sl_X8_takeCookie rfl (by decide) (CRep.kX hC) dX8_deliver_85 (by first | decide | exact Nat.le_of_ble_eq_true rfl) (by decide) (by decide) (by decide) (by decide) (kI fun r6 μ5 hp6 => ?_) kN
        obtain ⟨S9, hTR, hTk⟩ := hp6
        have hT := hTo.tr hTk.1
        have hG : GOT (S.sNt (S.nt.eraseIdx (cl x))) r _ S9 := Or.inr ⟨e, he, hA, Or.inr (Or.inr (Or.inl ⟨hv3, hTR⟩))⟩
        have hvr := vOK_TC hTR
        have hC := hT.1
        refine h_ist_4 C dX8_deliver_88 ct_r ?_
        refine h_goto (tgt := 101) C dX8_deliver_90 (by decide) ?_
        refine h_al_g C dX8_deliver_101 rfl rfl rfv_r ?_
        refine h_dup C dX8_deliver_102 rfl ?_
        refine gf_X8_33 C dX8_deliver_103 (CRep.kX hC) (CRep.f261 hC) ?_
        refine h_iconst (v := 1) C dX8_deliver_106 (by decide) ?_
        refine h_iadd C dX8_deliver_107 ?_
        refine pf_X8_33 C dX8_deliver_108 (CRep.kX hC) ?_
        refine h_abs (fun mz ez => ?_)
        have hT2 := CTo.s261' hT ez
        have hC := hT2.1
        refine h_iload_w C dX8_deliver_111 rfl ?_
        refine h_bipush (v := (-7)) C dX8_deliver_113 (by decide) ?_
        refine h_isub C dX8_deliver_115 ?_
        refine h_ist_5 C dX8_deliver_116 ct_i ?_
        refine h_iload_w C dX8_deliver_118 rfl ?_
        refine h_if_lt (tgt := 144) C dX8_deliver_120 (by decide) (fun c7 => absurd c7 ((fun h => by rw [Int32.lt_iff_toInt_lt, tl_0] at h; have := (p7 hvr).1; omega))) (fun c7 => ?_)
        refine h_iload_w C dX8_deliver_123 rfl ?_
        refine h_al_g C dX8_deliver_125 rfl rfl rfv_r ?_
        refine gs_X8_22 C dX8_deliver_126 (CRep.kX hC) (CRep.f258 hC) ?_
        refine h_alen C dX8_deliver_129 (by rw [CRep.kTL hC]; decide) (CRep.lnT hC) ?_
        rw [show (Int32.ofNat 11 : Int32) = 11 from rfl]
        refine h_icmp_ge (tgt := 144) C dX8_deliver_130 (by decide) (fun c8 => absurd c8 ((fun h => by rw [Int32.le_iff_toInt_le, tl_11] at h; have := (p7 hvr).2; omega))) (fun c8 => ?_)
        refine h_al_g C dX8_deliver_133 rfl rfl rfv_r ?_
        refine gs_X8_22 C dX8_deliver_134 (CRep.kX hC) (CRep.f258 hC) ?_
        refine h_iload_w C dX8_deliver_137 rfl ?_
        refine h_dup2 C dX8_deliver_139 rfl rfl ?_
        refine h_iald C dX8_deliver_140 (CRep.kTL hC) (by rw [CRep.lnT hC]; exact vp_isE (p7 hvr).1 (p7 hvr).2 (by decide)) (CRep.eT hC (by show cl _ < 11; have := cl_eq (p7 hvr).1; have := (p7 hvr).2; omega)) ?_
        refine h_iconst (v := 1) C dX8_deliver_141 (by decide) ?_
        refine h_iadd C dX8_deliver_142 ?_
        refine h_iast C dX8_deliver_143 (CRep.kTL hC) (by rw [CRep.lnT hC]; exact vp_isE (p7 hvr).1 (p7 hvr).2 (by decide)) ?_
        refine h_abs (fun my ey => ?_)
        have hT3 := CTo.sC' hT2 ey (by show cl _ < 11; have := cl_eq (p7 hvr).1; have := (p7 hvr).2; omega)
        refine h_iload_w C dX8_deliver_144 rfl ?_
        refine h_iret C E dX8_deliver_146 (by decide) (by decide) ?_
        exact ⟨_, rfl, if_pos hL, _, by rw [eL]; exact hG, hT3⟩
      refine h_tableOut (tgt := 93) C dX8_deliver_35 (by have z0 := ne_ti 1 1 (by decide) hv1; have z1 := ne_ti 2 2 (by decide) hv2; have z2 := ne_ti 3 3 (by decide) hv3; omega) (by decide) ?_
      refine h_al_g C dX8_deliver_93 rfl rfl rfv_r ?_
      refine h_al_g C dX8_deliver_94 rfl rfl rfv_r ?_
      refine h_al_g C dX8_deliver_95 rfl rfl rfv_r ?_
      refine h_callV2 (ci := 8) C (k_X8_takeData Z.l Z.G P _ _ hC e he hoR hW4 h512 _ fp r hg (by unfold TPn; rw [if_neg hv1, if_neg hv2, if_neg hv3])) cw_X8_183 im_X8_takeData sl_X8_takeData rfl (by decide) (CRep.kX hC) dX8_deliver_96 (by first | decide | exact Nat.le_of_ble_eq_true rfl) (by decide) (by decide) (by decide) (by decide) (kI fun r7 μ6 hp7 => ?_) kN
      obtain ⟨S9, hTR, hTk⟩ := hp7
      have hT := hTo.tr hTk
      have hG : GOT (S.sNt (S.nt.eraseIdx (cl x))) r _ S9 := Or.inr ⟨e, he, hA, Or.inr (Or.inr (Or.inr ⟨hv1, hv2, hv3, hTR⟩))⟩
      have hvr := vOK_TD hTR
      have hC := hT.1
      refine h_ist_4 C dX8_deliver_99 ct_r ?_
      refine h_al_g C dX8_deliver_101 rfl rfl rfv_r ?_
      refine h_dup C dX8_deliver_102 rfl ?_
      refine gf_X8_33 C dX8_deliver_103 (CRep.kX hC) (CRep.f261 hC) ?_
      refine h_iconst (v := 1) C dX8_deliver_106 (by decide) ?_
      refine h_iadd C dX8_deliver_107 ?_
      refine pf_X8_33 C dX8_deliver_108 (CRep.kX hC) ?_
      refine h_abs (fun mz ez => ?_)
      have hT2 := CTo.s261' hT ez
      have hC := hT2.1
      refine h_iload_w C dX8_deliver_111 rfl ?_
      refine h_bipush (v := (-7)) C dX8_deliver_113 (by decide) ?_
      refine h_isub C dX8_deliver_115 ?_
      refine h_ist_5 C dX8_deliver_116 ct_i ?_
      refine h_iload_w C dX8_deliver_118 rfl ?_
      refine h_if_lt (tgt := 144) C dX8_deliver_120 (by decide) (fun c9 => absurd c9 ((fun h => by rw [Int32.lt_iff_toInt_lt, tl_0] at h; have := (p7 hvr).1; omega))) (fun c9 => ?_)
      refine h_iload_w C dX8_deliver_123 rfl ?_
      refine h_al_g C dX8_deliver_125 rfl rfl rfv_r ?_
      refine gs_X8_22 C dX8_deliver_126 (CRep.kX hC) (CRep.f258 hC) ?_
      refine h_alen C dX8_deliver_129 (by rw [CRep.kTL hC]; decide) (CRep.lnT hC) ?_
      rw [show (Int32.ofNat 11 : Int32) = 11 from rfl]
      refine h_icmp_ge (tgt := 144) C dX8_deliver_130 (by decide) (fun c10 => absurd c10 ((fun h => by rw [Int32.le_iff_toInt_le, tl_11] at h; have := (p7 hvr).2; omega))) (fun c10 => ?_)
      refine h_al_g C dX8_deliver_133 rfl rfl rfv_r ?_
      refine gs_X8_22 C dX8_deliver_134 (CRep.kX hC) (CRep.f258 hC) ?_
      refine h_iload_w C dX8_deliver_137 rfl ?_
      refine h_dup2 C dX8_deliver_139 rfl rfl ?_
      refine h_iald C dX8_deliver_140 (CRep.kTL hC) (by rw [CRep.lnT hC]; exact vp_isE (p7 hvr).1 (p7 hvr).2 (by decide)) (CRep.eT hC (by show cl _ < 11; have := cl_eq (p7 hvr).1; have := (p7 hvr).2; omega)) ?_
      refine h_iconst (v := 1) C dX8_deliver_141 (by decide) ?_
      refine h_iadd C dX8_deliver_142 ?_
      refine h_iast C dX8_deliver_143 (CRep.kTL hC) (by rw [CRep.lnT hC]; exact vp_isE (p7 hvr).1 (p7 hvr).2 (by decide)) ?_
      refine h_abs (fun my ey => ?_)
      have hT3 := CTo.sC' hT2 ey (by show cl _ < 11; have := cl_eq (p7 hvr).1; have := (p7 hvr).2; omega)
      refine h_iload_w C dX8_deliver_144 rfl ?_
      refine h_iret C E dX8_deliver_146 (by decide) (by decide) ?_
      exact ⟨_, rfl, if_pos hL, _, by rw [eL]; exact hG, hT3⟩
  · exact hx_out C E NT (by decide) (by decide) ⟨hx9.2.1, hx9.1, if_neg hx9.2.2⟩

set_option maxRecDepth 100000 in
set_option maxHeartbeats 4000000 in
theorem k_X8_keep (l : Launch) (G : Gx) (P : Nat → Nat) (S : Sx) (μ : Mem) (hC : CRep G P S μ) (x y : Int32) (hok : okS S) : Kon l yX8_keep cX8_keep 5 (some .boolean) 10 6 1032 239 G [.ref (P 0), .int x, .int y] μ (pB (fun μ' => pairC x y = 0 ∧ ∃ r, USE S (cl x) (cl y) = some r ∧ CTo G P μ (DATS S (cl x) (cl y) r (-1) (-1) (-1)) μ') (fun μ' => pairC x y = 0 ∧ USE S (cl x) (cl y) = none ∧ μ = μ')) (PX2 xIOB xIAE (pairC x y) μ) := by
  refine Kon.ofG (by decide +kernel) (Nat.le_of_ble_eq_true rfl) (Nat.le_of_ble_eq_true rfl) (fun Z hZG C E NT MT => ?_)
  subst hZG
  have C : Cx Z RX8 cX8_keep 10 6 1032 239 := C
  show HW Z 0 0 0 [some (.ref (P 0)), some (.int x), some (.int y), none, none] [] μ
  refine h_al_g C dX8_keep_0 rfl rfl rfv_r ?_
  refine h_iload_g C dX8_keep_1 rfl rfl ?_
  refine h_iload_g C dX8_keep_2 rfl rfl ?_
  refine h_callV2 (ci := 8) C (k_X8_linkAt Z.l Z.G P S _ hC x y) cw_X8_72 im_X8_linkAt sl_X8_linkAt rfl (by decide) (CRep.kX hC) dX8_keep_3 (by first | decide | exact Nat.le_of_ble_eq_true rfl) (by decide) (by decide) (by decide) (by decide) (kA fun r1 μ1 hp1 => ?_) (fun X9 μ9 hx9 => ?_)
  · obtain ⟨rfl, hx, hy, hxy, rfl⟩ := hp1
    have ha := hx.lt
    have hb := hy.lt
    refine h_ast_3 C dX8_keep_6 ct_i rfv_r ?_
    refine h_al_g C dX8_keep_7 rfl rfl rfv_r ?_
    refine h_al_g C dX8_keep_8 rfl rfl rfv_r ?_
    refine h_callV1 (ci := 8) C (k_X8_usableOf Z.l Z.G P S _ hC _ _ (by assumption) (by assumption)) cw_X8_123 im_X8_usableOf sl_X8_usableOf rfl (by decide) (CRep.kX hC) dX8_keep_9 (by first | decide | exact Nat.le_of_ble_eq_true rfl) (by decide) (by decide) (by decide) (by decide) (kO (fun μ2 hp2 => ?_) (fun s μ2 hp2 => ?_)) kN
    · obtain ⟨rfl, hU⟩ := hp2
      refine h_ast_4 C dX8_keep_12 ct_r rfv_n ?_
      refine h_al_w (j := 0) C dX8_keep_14 rfl rfv_n ?_
      refine h_ifnonnull_n C dX8_keep_16 ?_
      refine h_iconst (v := 0) C dX8_keep_19 (by decide) ?_
      refine h_zret C E dX8_keep_20 (by decide) (by decide) (by first | exact Or.inl rfl | exact Or.inr rfl) ?_
      exact Or.inr ⟨rfl, pairC_ok hx hy hxy, hU, rfl⟩
    · obtain ⟨rfl, r, hU, hsl, hs⟩ := hp2
      obtain ⟨⟨K, hK, hK3⟩, -⟩ := ((hok.2.1 _ ha).2.1) _ 1 r hb (by decide) (USE_some hU)
      refine h_ast_4 C dX8_keep_12 ct_r rfv_r ?_
      refine h_al_w (j := 0) C dX8_keep_14 rfl rfv_r ?_
      refine h_ifnonnull_r (tgt := 21) C dX8_keep_16 (by decide) ?_
      refine h_al_g C dX8_keep_21 rfl rfl rfv_r ?_
      refine h_al_g C dX8_keep_22 rfl rfl rfv_r ?_
      refine h_iload_g C dX8_keep_23 rfl rfl ?_
      refine h_callV1 (ci := 8) C (k_X8_endAt Z.l Z.G P S _ hC x) cw_X8_52 im_X8_endAt sl_X8_endAt rfl (by decide) (CRep.kX hC) dX8_keep_24 (by first | decide | exact Nat.le_of_ble_eq_true rfl) (by decide) (by decide) (by decide) (by decide) (kA fun r2 μ3 hp3 => ?_) (fun X9 μ9 hx9 => ?_)
      · obtain ⟨rfl, _, rfl⟩ := hp3
        refine h_al_g C dX8_keep_27 rfl rfl rfv_r ?_
        refine h_al_w (j := 0) C dX8_keep_28 rfl rfv_r ?_
        refine h_iconst (v := (-1)) C dX8_keep_30 (by decide) ?_
        refine h_iconst (v := (-1)) C dX8_keep_31 (by decide) ?_
        refine h_iconst (v := (-1)) C dX8_keep_32 (by decide) ?_
        refine h_callV6 (ci := 8) C (k_X8_sendData Z.l Z.G P S _ hC _ _ ha hb s r ⟨hs, hsl, hC.1 _ (by omega)⟩ (USE_some hU) K hK3 hK (-1) (-1) (-1)) cw_X8_143 im_X8_sendData sl_X8_sendData rfl (by decide) (CRep.kX hC) dX8_keep_33 (by first | decide | exact Nat.le_of_ble_eq_true rfl) (by decide) (by decide) (by decide) (by decide) (kV fun μ4 hp4 => ?_) kN
        obtain ⟨hD, _⟩ := hp4
        refine h_iconst (v := 1) C dX8_keep_36 (by decide) ?_
        refine h_zret C E dX8_keep_37 (by decide) (by decide) (by first | exact Or.inl rfl | exact Or.inr rfl) ?_
        exact Or.inl ⟨rfl, pairC_ok hx hy hxy, r, hU, hD.1⟩
      · exact hx_out C E NT (by decide) (by decide) (absurd hx hx9.2.2)
  · exact hx_out C E NT (by decide) (by decide) (pairC_X hx9)

set_option maxRecDepth 100000 in
set_option maxHeartbeats 4000000 in
theorem k_X8_greet (l : Launch) (G : Gx) (P : Nat → Nat) (S : Sx) (μ : Mem) (hC : CRep G P S μ) (x y : Int32) (hok : okS S) : Kon l yX8_greet cX8_greet 4 (some .int) 10 7 1036 238 G [.ref (P 0), .int x, .int y] μ (pI fun v μ' => greC S x y = 0 ∧ v = HNUM S ∧ CTo G P μ (HELS S (cl x) (cl y)) μ') (PX3 xIOB xIAE xISE (greC S x y) μ) := by
  refine Kon.ofG (by decide +kernel) (Nat.le_of_ble_eq_true rfl) (Nat.le_of_ble_eq_true rfl) (fun Z hZG C E NT MT => ?_)
  subst hZG
  have C : Cx Z RX8 cX8_greet 10 7 1036 238 := C
  show HW Z 0 0 0 [some (.ref (P 0)), some (.int x), some (.int y), none] [] μ
  refine h_al_g C dX8_greet_0 rfl rfl rfv_r ?_
  refine h_iload_g C dX8_greet_1 rfl rfl ?_
  refine h_iload_g C dX8_greet_2 rfl rfl ?_
  refine h_callV2 (ci := 8) C (k_X8_linkAt Z.l Z.G P S _ hC x y) cw_X8_72 im_X8_linkAt sl_X8_linkAt rfl (by decide) (CRep.kX hC) dX8_greet_3 (by first | decide | exact Nat.le_of_ble_eq_true rfl) (by decide) (by decide) (by decide) (by decide) (kA fun r1 μ1 hp1 => ?_) (fun X9 μ9 hx9 => ?_)
  · obtain ⟨rfl, hx, hy, hxy, rfl⟩ := hp1
    have ha := hx.lt
    have hb := hy.lt
    refine h_ast_3 C dX8_greet_6 ct_i rfv_r ?_
    refine h_al_g C dX8_greet_7 rfl rfl rfv_r ?_
    refine h_al_g C dX8_greet_8 rfl rfl rfv_r ?_
    refine h_callV1 (ci := 8) C (k_X8_hasFreshHello Z.l Z.G P S _ hC _ _ (by assumption) (by assumption)) cw_X8_151 im_X8_hasFreshHello sl_X8_hasFreshHello rfl (by decide) (CRep.kX hC) dX8_greet_9 (by first | decide | exact Nat.le_of_ble_eq_true rfl) (by decide) (by decide) (by decide) (by decide) (kB (fun μ2 hp2 => ?_) (fun μ2 hp2 => ?_)) kN
    · obtain ⟨rfl, hFr⟩ := hp2
      refine h_if_eq (tgt := 25) C dX8_greet_12 (by decide) (fun c1 => absurd c1 (by decide)) (fun c1 => ?_)
      exact h_throw C E NT (by decide +kernel) xNames_fit kl_X8_47 xini_ISE xs_155 xat_ISE dX8_greet_15 dX8_greet_18 dX8_greet_19 dX8_greet_21 dX8_greet_24 (by decide) (by decide) (by decide) (by decide) (by decide) (by decide) ⟨rfl, Or.inr (Or.inr ⟨rfl, (if_pos ⟨hx, hy⟩).trans ((if_pos hxy).trans (if_pos (FRE_iff.mp hFr)))⟩)⟩
    · obtain ⟨rfl, hFr⟩ := hp2
      refine h_if_eq (tgt := 25) C dX8_greet_12 (by decide) (fun c2 => ?_) (fun c2 => absurd (by decide) c2)
      refine h_al_g C dX8_greet_25 rfl rfl rfv_r ?_
      refine h_al_g C dX8_greet_26 rfl rfl rfv_r ?_
      refine h_iload_g C dX8_greet_27 rfl rfl ?_
      refine h_callV1 (ci := 8) C (k_X8_endAt Z.l Z.G P S _ hC x) cw_X8_52 im_X8_endAt sl_X8_endAt rfl (by decide) (CRep.kX hC) dX8_greet_28 (by first | decide | exact Nat.le_of_ble_eq_true rfl) (by decide) (by decide) (by decide) (by decide) (kA fun r3 μ3 hp3 => ?_) (fun X9 μ9 hx9 => ?_)
      · obtain ⟨rfl, _, rfl⟩ := hp3
        refine h_al_g C dX8_greet_31 rfl rfl rfv_r ?_
        refine h_callV2 (ci := 8) C (k_X8_sendHello Z.l Z.G P S _ hC _ _ ha hb hok.1) cw_X8_157 im_X8_sendHello sl_X8_sendHello rfl (by decide) (CRep.kX hC) dX8_greet_32 (by first | decide | exact Nat.le_of_ble_eq_true rfl) (by decide) (by decide) (by decide) (by decide) (kI fun r4 μ4 hp4 => ?_) kN
        obtain ⟨rfl, hTh⟩ := hp4
        refine h_iret C E dX8_greet_35 (by decide) (by decide) ?_
        exact ⟨_, rfl, (if_pos ⟨hx, hy⟩).trans ((if_pos hxy).trans (if_neg fun z => hFr (FRE_iff.mpr z))), rfl, hTh.1⟩
      · exact hx_out C E NT (by decide) (by decide) (absurd hx hx9.2.2)
  · exact hx_out C E NT (by decide) (by decide) (greC_X hx9)

set_option maxRecDepth 100000 in
set_option maxHeartbeats 4000000 in
theorem k_X8_send (l : Launch) (G : Gx) (P : Nat → Nat) (S : Sx) (μ : Mem) (hC : CRep G P S μ) (x s0 d l0 : Int32) (hok : okS S) : Kon l yX8_send cX8_send 8 (some .int) 11 11 2056 260 G [.ref (P 0), .int x, .int s0, .int d, .int l0] μ (pI fun v μ' => sndC x s0 d l0 = 0 ∧ ((¬ isE (GVN d (S.rt (cl x)) (-1) (-1)) ∧ v = -1 ∧ μ = μ') ∨ (isE (GVN d (S.rt (cl x)) (-1) (-1)) ∧ v = (SND S (cl x) (cl (GVN d (S.rt (cl x)) (-1) (-1))) s0 d l0).1 ∧ CTo G P μ (SND S (cl x) (cl (GVN d (S.rt (cl x)) (-1) (-1))) s0 d l0).2 μ'))) (PX2 xIOB xIAE (sndC x s0 d l0) μ) := by
  refine Kon.ofG (by decide +kernel) (Nat.le_of_ble_eq_true rfl) (Nat.le_of_ble_eq_true rfl) (fun Z hZG C E NT MT => ?_)
  subst hZG
  have C : Cx Z RX8 cX8_send 11 11 2056 260 := C
  show HW Z 0 0 0 [some (.ref (P 0)), some (.int x), some (.int s0), some (.int d), some (.int l0), none, none, none] [] μ
  refine h_al_g C dX8_send_0 rfl rfl rfv_r ?_
  refine h_iload_g C dX8_send_1 rfl rfl ?_
  refine h_callV1 (ci := 8) C (k_X8_endAt Z.l Z.G P S _ hC x) cw_X8_52 im_X8_endAt sl_X8_endAt rfl (by decide) (CRep.kX hC) dX8_send_2 (by first | decide | exact Nat.le_of_ble_eq_true rfl) (by decide) (by decide) (by decide) (by decide) (kA fun r1 μ1 hp1 => ?_) (fun X9 μ9 hx9 => ?_)
  · obtain ⟨rfl, hx, rfl⟩ := hp1
    have he := hx.lt
    refine h_ast_5 C dX8_send_5 ct_i rfv_r ?_
    refine h_iload_g C dX8_send_7 rfl rfl ?_
    refine h_iconst (v := 0) C dX8_send_8 (by decide) ?_
    refine h_sipush (v := 255) C dX8_send_9 (by decide) ?_
    refine h_callS3 C (k_X8_checkRange Z.l Z.G (s0) (0) (255) _) cw_X8_56 st_X8_checkRange dX8_send_12 (by first | decide | exact Nat.le_of_ble_eq_true rfl) (by decide) (by decide) (by decide) (by decide) (kV fun μ2 hp2 => ?_) (fun X9 μ9 hx9 => ?_)
    · obtain ⟨rfl, h1⟩ := hp2
      refine h_iload_g C dX8_send_15 rfl rfl ?_
      refine h_iconst (v := 0) C dX8_send_16 (by decide) ?_
      refine h_sipush (v := 255) C dX8_send_17 (by decide) ?_
      refine h_callS3 C (k_X8_checkRange Z.l Z.G (d) (0) (255) _) cw_X8_56 st_X8_checkRange dX8_send_20 (by first | decide | exact Nat.le_of_ble_eq_true rfl) (by decide) (by decide) (by decide) (by decide) (kV fun μ3 hp3 => ?_) (fun X9 μ9 hx9 => ?_)
      · obtain ⟨rfl, h2⟩ := hp3
        refine h_iload_w C dX8_send_23 rfl ?_
        refine h_iconst (v := 0) C dX8_send_25 (by decide) ?_
        refine h_sipush (v := 9999) C dX8_send_26 (by decide) ?_
        refine h_callS3 C (k_X8_checkRange Z.l Z.G (l0) (0) (9999) _) cw_X8_56 st_X8_checkRange dX8_send_29 (by first | decide | exact Nat.le_of_ble_eq_true rfl) (by decide) (by decide) (by decide) (by decide) (kV fun μ4 hp4 => ?_) (fun X9 μ9 hx9 => ?_)
        · obtain ⟨rfl, h3⟩ := hp4
          refine h_al_w (j := 0) C dX8_send_32 rfl rfv_r ?_
          refine h_al_w (j := 0) C dX8_send_34 rfl rfv_r ?_
          refine h_iload_g C dX8_send_36 rfl rfl ?_
          refine h_callV1 (ci := 1) C (k_X0_peerFor Z.l Z.G P S _ hC _ (by assumption) _) cw_X8_115 im_X0_peerFor sl_X0_peerFor rfl (by decide) (CRep.kE hC (by assumption)) dX8_send_37 (by first | decide | exact Nat.le_of_ble_eq_true rfl) (by decide) (by decide) (by decide) (by decide) (kI fun r5 μ5 hp5 => ?_) kN
          obtain ⟨rfl, rfl⟩ := hp5
          refine h_callV1 (ci := 1) C (k_X0_linkTo Z.l Z.G P S _ hC _ he _) cw_X8_119 im_X0_linkTo sl_X0_linkTo rfl (by decide) (CRep.kE hC he) dX8_send_40 (by first | decide | exact Nat.le_of_ble_eq_true rfl) (by decide) (by decide) (by decide) (by decide) (kO (fun μ6 hp6 => ?_) (fun r6 μ6 hp6 => ?_)) kN
          · obtain ⟨rfl, hno⟩ := hp6
            refine h_ast_6 C dX8_send_43 ct_r rfv_n ?_
            refine h_al_w (j := 0) C dX8_send_45 rfl rfv_n ?_
            refine h_ifnonnull_n C dX8_send_47 ?_
            refine h_iconst (v := (-1)) C dX8_send_50 (by decide) ?_
            refine h_iret C E dX8_send_51 (by decide) (by decide) ?_
            exact ⟨_, rfl, (if_pos hx).trans ((if_pos h1).trans ((if_pos h2).trans (if_pos h3))), Or.inl ⟨hno, rfl, rfl⟩⟩
          · obtain ⟨rfl, hIE, rfl⟩ := hp6
            have ha := he
            have hb := hIE.lt
            refine h_ast_6 C dX8_send_43 ct_r rfv_r ?_
            refine h_al_w (j := 0) C dX8_send_45 rfl rfv_r ?_
            refine h_ifnonnull_r (tgt := 52) C dX8_send_47 (by decide) ?_
            refine h_al_g C dX8_send_52 rfl rfl rfv_r ?_
            refine h_al_w (j := 0) C dX8_send_53 rfl rfv_r ?_
            refine h_callV1 (ci := 8) C (k_X8_usableOf Z.l Z.G P S _ hC _ _ (by assumption) (by assumption)) cw_X8_123 im_X8_usableOf sl_X8_usableOf rfl (by decide) (CRep.kX hC) dX8_send_55 (by first | decide | exact Nat.le_of_ble_eq_true rfl) (by decide) (by decide) (by decide) (by decide) (kO (fun μ7 hp7 => ?_) (fun s μ7 hp7 => ?_)) kN
            · obtain ⟨rfl, hU⟩ := hp7
              refine h_ast_7 C dX8_send_58 ct_r rfv_n ?_
              refine h_al_w (j := 0) C dX8_send_60 rfl rfv_n ?_
              refine h_ifnonnull_n C dX8_send_62 ?_
              refine h_al_g C dX8_send_65 rfl rfl rfv_r ?_
              refine h_al_w (j := 0) C dX8_send_66 rfl rfv_r ?_
              refine nw_X8_127 (6 + 32 * 40) C dX8_send_68 (by decide) (by decide) (by decide) (fun q hq => ?_)
              have hT1 : CKo Z.G P μ S _ := CKo.float (W := fun k => k = 6 + 32 * 40) hC (FrK.newO hq rfl) (fun k9 e9 => Or.inl (by rw [e9])) (fun k9 e9 => by rw [e9]; decide)
              have hC := hT1.C
              refine h_dup C dX8_send_71 rfl ?_
              refine h_al_w (j := 0) C dX8_send_72 rfl rfv_r ?_
              refine gf_X8_129 C dX8_send_74 (CRep.kL hC (by assumption) (by assumption)) (CRep.f128 hC (by assumption) (by assumption)) ?_
              refine h_iload_g C dX8_send_77 rfl rfl ?_
              refine h_iload_g C dX8_send_78 rfl rfl ?_
              refine h_iload_w C dX8_send_79 rfl ?_
              refine h_callI4 C (k_X5_init Z.l Z.G q _ _ _ _ _ (by rw [kd_newO])) cw_X8_132 im_X5_init rfl dX8_send_81 (by first | decide | exact Nat.le_of_ble_eq_true rfl) (by decide) (by decide) (by decide) (by decide) (kV fun μ2 hp8 => ?_) kN
              obtain ⟨k2, hf2, s1, s2, s3, s4⟩ := hp8
              rw [kd_newO] at k2 hf2
              have hT2 := hT1.tr (CKo.float hT1.C hf2 (fun k9 e9 => Or.inl (by rw [e9])) (fun k9 e9 => by rw [e9]; decide))
              refine h_skd q KPK (by rw [k2]; decide) (by rw [k2]; decide) ?_
              have hT3 : CKo Z.G P μ S (μ2.skd q KPK) := hT2.tr (CKo.put ⟨CRep.skd hT2.C (by rw [k2] <;> decide) (by rw [k2]; decide) (by rw [k2]; decide) (by rw [k2] <;> decide), FrS.skd (by rw [k2]; decide) (by rw [k2]; exact isC_fl (by decide)) ⟨by decide, Or.inl (by decide)⟩⟩ (fun z hz => same_skd hz) (by rw [k2]; decide))
              have hC := hT3.C
              have hpk : PkAt (μ2.skd q KPK) q (nI (cl (GVN d (S.rt (cl x)) (-1) (-1)))) s0 d l0 := ⟨kd_skd, s1, s2, s3, s4⟩
              refine h_callV2 (ci := 8) C (k_X8_putToWait Z.l Z.G P S _ hC (cl x) (cl (GVN d (S.rt (cl x)) (-1) (-1))) ha hb q s0 d l0 hpk) cw_X8_135 im_X8_putToWait sl_X8_putToWait rfl (by decide) (CRep.kX hC) dX8_send_84 (by first | decide | exact Nat.le_of_ble_eq_true rfl) (by decide) (by decide) (by decide) (by decide) (kV fun μ8 hp9 => ?_) kN
              have hPw := hp9
              have hT4 := hT3.tr hPw
              have hC := hT4.C
              refine h_al_g C dX8_send_87 rfl rfl rfv_r ?_
              refine h_al_w (j := 0) C dX8_send_88 rfl rfv_r ?_
              refine h_al_w (j := 0) C dX8_send_90 rfl rfv_r ?_
              refine h_callV2 (ci := 8) C (k_X8_greetUnlessFresh Z.l Z.G P _ _ hC (cl x) (cl (GVN d (S.rt (cl x)) (-1) (-1))) ha hb hok.1) cw_X8_139 im_X8_greetUnlessFresh sl_X8_greetUnlessFresh rfl (by decide) (CRep.kX hC) dX8_send_92 (by first | decide | exact Nat.le_of_ble_eq_true rfl) (by decide) (by decide) (by decide) (by decide) (kV fun μ9 hp10 => ?_) kN
              obtain ⟨S9, hG9, hT9⟩ := hp10
              refine h_iconst (v := 0) C dX8_send_95 (by decide) ?_
              refine h_iret C E dX8_send_96 (by decide) (by decide) ?_
              exact ⟨_, rfl, (if_pos hx).trans ((if_pos h1).trans ((if_pos h2).trans (if_pos h3))), Or.inr ⟨hIE, by unfold SND; rw [hU], by unfold SND; rw [hU]; rw [GUFS_eq hG9] at hT9; exact (hT4.tr hT9).1⟩⟩
            · obtain ⟨rfl, r, hU, hsl, hs⟩ := hp7
              obtain ⟨⟨K, hK, hK3⟩, -⟩ := ((hok.2.1 _ ha).2.1) _ 1 r hb (by decide) (USE_some hU)
              have hr := USE_some hU
              refine h_ast_7 C dX8_send_58 ct_r rfv_r ?_
              refine h_al_w (j := 0) C dX8_send_60 rfl rfv_r ?_
              refine h_ifnonnull_r (tgt := 97) C dX8_send_62 (by decide) ?_
              refine h_al_g C dX8_send_97 rfl rfl rfv_r ?_
              refine h_al_w (j := 0) C dX8_send_98 rfl rfv_r ?_
              refine h_al_w (j := 0) C dX8_send_100 rfl rfv_r ?_
              refine h_al_w (j := 0) C dX8_send_102 rfl rfv_r ?_
              refine h_iload_g C dX8_send_104 rfl rfl ?_
              refine h_iload_g C dX8_send_105 rfl rfl ?_
              refine h_iload_w C dX8_send_106 rfl ?_
              refine h_callV6 (ci := 8) C (k_X8_sendData Z.l Z.G P S _ hC (cl x) (cl (GVN d (S.rt (cl x)) (-1) (-1))) ha hb s r ⟨hs, hsl, hC.1 _ (by omega)⟩ hr K hK3 hK s0 d l0) cw_X8_143 im_X8_sendData sl_X8_sendData rfl (by decide) (CRep.kX hC) dX8_send_108 (by first | decide | exact Nat.le_of_ble_eq_true rfl) (by decide) (by decide) (by decide) (by decide) (kV fun μ10 hp11 => ?_) kN
              obtain ⟨hD, hscD⟩ := hp11
              have hC := hD.C
              have hs := hscD.1
              refine h_al_g C dX8_send_111 rfl rfl rfv_r ?_
              refine h_al_w (j := 0) C dX8_send_112 rfl rfv_r ?_
              refine h_callV1 (ci := 8) C (k_X8_wantsRenewal Z.l Z.G P _ _ hC _ _ _ _ _ hs) cw_X8_147 im_X8_wantsRenewal sl_X8_wantsRenewal rfl (by decide) (CRep.kX hC) dX8_send_114 (by first | decide | exact Nat.le_of_ble_eq_true rfl) (by decide) (by decide) (by decide) (by decide) (kB (fun μ11 hp12 => ?_) (fun μ11 hp12 => ?_)) kN
              · obtain ⟨rfl, hWr⟩ := hp12
                refine h_if_eq (tgt := 128) C dX8_send_117 (by decide) (fun c1 => absurd c1 (by decide)) (fun c1 => ?_)
                refine h_al_g C dX8_send_120 rfl rfl rfv_r ?_
                refine h_al_w (j := 0) C dX8_send_121 rfl rfv_r ?_
                refine h_al_w (j := 0) C dX8_send_123 rfl rfv_r ?_
                refine h_callV2 (ci := 8) C (k_X8_greetUnlessFresh Z.l Z.G P _ _ hC (cl x) (cl (GVN d (S.rt (cl x)) (-1) (-1))) ha hb hok.1) cw_X8_139 im_X8_greetUnlessFresh sl_X8_greetUnlessFresh rfl (by decide) (CRep.kX hC) dX8_send_125 (by first | decide | exact Nat.le_of_ble_eq_true rfl) (by decide) (by decide) (by decide) (by decide) (kV fun μ12 hp13 => ?_) kN
                obtain ⟨S9, hG9, hT9⟩ := hp13
                refine h_iconst (v := 1) C dX8_send_128 (by decide) ?_
                refine h_iret C E dX8_send_129 (by decide) (by decide) ?_
                exact ⟨_, rfl, (if_pos hx).trans ((if_pos h1).trans ((if_pos h2).trans (if_pos h3))), Or.inr ⟨hIE, by unfold SND; rw [hU], by unfold SND; rw [hU]; rw [GUFS_eq hG9] at hT9; show CTo _ _ _ (if _ then _ else _) _; rw [if_pos (show ¬ r.1 6 = 0 ∧ (20 ≤ S.sc 0 - r.1 2 ∨ 30 ≤ r.1 5 + 1) from hWr)]; exact (hD.tr hT9).1⟩⟩
              · obtain ⟨rfl, hWr⟩ := hp12
                refine h_if_eq (tgt := 128) C dX8_send_117 (by decide) (fun c2 => ?_) (fun c2 => absurd (by decide) c2)
                refine h_iconst (v := 1) C dX8_send_128 (by decide) ?_
                refine h_iret C E dX8_send_129 (by decide) (by decide) ?_
                exact ⟨_, rfl, (if_pos hx).trans ((if_pos h1).trans ((if_pos h2).trans (if_pos h3))), Or.inr ⟨hIE, by unfold SND; rw [hU], by unfold SND; rw [hU]; show CTo _ _ _ (if _ then _ else _) _; rw [if_neg (show ¬ (¬ r.1 6 = 0 ∧ (20 ≤ S.sc 0 - r.1 2 ∨ 30 ≤ r.1 5 + 1)) from hWr)]; exact hD.1⟩⟩
        · exact hx_out C E NT (by decide) (by decide) ⟨hx9.2.1, Or.inr ⟨hx9.1, ((if_pos hx).trans ((if_pos h1).trans ((if_pos h2).trans (if_neg hx9.2.2))))⟩⟩
      · exact hx_out C E NT (by decide) (by decide) ⟨hx9.2.1, Or.inr ⟨hx9.1, ((if_pos hx).trans ((if_pos h1).trans (if_neg hx9.2.2)))⟩⟩
    · exact hx_out C E NT (by decide) (by decide) ⟨hx9.2.1, Or.inr ⟨hx9.1, ((if_pos hx).trans (if_neg hx9.2.2))⟩⟩
  · exact hx_out C E NT (by decide) (by decide) ⟨hx9.2.1, Or.inl ⟨hx9.1, if_neg hx9.2.2⟩⟩

end
