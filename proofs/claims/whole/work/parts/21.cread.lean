section
abbrev xIAE : String := "java/lang/IllegalArgumentException"
abbrev xISE : String := "java/lang/IllegalStateException"
abbrev xIOB : String := "java/lang/IndexOutOfBoundsException"
abbrev xNSE : String := "java/util/NoSuchElementException"
abbrev inR (x a b : Int32) : Prop := a.toInt ≤ x.toInt ∧ x.toInt ≤ b.toInt
def TOPB (x b : Int32) : Int32 := x &&& (65280 >>> (b &&& 31)) &&& 255
def FWA (S : Sx) (x : Int32) : Option Nat := if S.ef 0 0 = x then some 0 else if S.ef 0 1 = x then some 1 else if S.ef 0 2 = x then some 2 else none
def fIs (S : Sx) (e b : Nat) (n : Int32) : Prop := ∃ r, S.fl e b = some r ∧ r 0 = n
def sIs (S : Sx) (a b w : Nat) (n : Int32) : Prop := ∃ r, S.ses a b w = some r ∧ r.1 0 = n
theorem fIs_no {S : Sx} {e b : Nat} {n : Int32} (h : S.fl e b = none) : ¬ fIs S e b n := fun ⟨r, h1, _⟩ => by rw [h] at h1; cases h1
theorem fIs_ne {S : Sx} {e b : Nat} {n : Int32} {r : Row} (h : S.fl e b = some r) (hn : ¬ r 0 = n) : ¬ fIs S e b n := fun ⟨r9, h1, h2⟩ => by rw [h] at h1; cases h1; exact hn h2
theorem sIs_no {S : Sx} {a b w : Nat} {n : Int32} (h : S.ses a b w = none) : ¬ sIs S a b w n := fun ⟨r, h1, _⟩ => by rw [h] at h1; cases h1
theorem sIs_ne {S : Sx} {a b w : Nat} {n : Int32} {r : Ses} (h : S.ses a b w = some r) (hn : ¬ r.1 0 = n) : ¬ sIs S a b w n := fun ⟨r9, h1, h2⟩ => by rw [h] at h1; cases h1; exact hn h2
/-- CURRENT, if it is USABLE -/
def USE (S : Sx) (a b : Nat) : Option Ses := match S.ses a b 1 with
  | none => none
  | some r => if S.sc 0 - r.1 2 < 30 ∧ r.1 5 < 40 then some r else none
def WRN (S : Sx) (r : Ses) : Prop := ¬ r.1 6 = 0 ∧ (20 ≤ S.sc 0 - r.1 2 ∨ 30 ≤ r.1 5)
def FRE (S : Sx) (a b : Nat) : Prop := ∃ r, S.fl a b = some r ∧ S.sc 0 - r 3 < 5
def YCK (S : Sx) (a b : Nat) : Int32 := if S.sc 0 - S.lf 4 a b < 60 then S.lf 3 a b else -1
def FLX (S : Sx) (a b : Nat) : Int32 := match S.fl a b with
  | none => -1
  | some r => r 0
/-- a place of the net -/
abbrev isL (S : Sx) (x : Int32) : Prop := 0 ≤ x.toInt ∧ x.toInt < (S.nt.length : Int)
theorem USE_some {S : Sx} {a b : Nat} {r : Ses} (h : USE S a b = some r) : S.ses a b 1 = some r := by
  unfold USE at h
  cases e : S.ses a b 1 with
  | none => rw [e] at h; cases h
  | some r9 =>
    rw [e] at h
    by_cases c : S.sc 0 - r9.1 2 < 30 ∧ r9.1 5 < 40
    · rw [show (match some r9 with | none => none | some r => if S.sc 0 - r.1 2 < 30 ∧ r.1 5 < 40 then some r else none) = (if S.sc 0 - r9.1 2 < 30 ∧ r9.1 5 < 40 then some r9 else none) from rfl, if_pos c] at h
      exact h
    · rw [show (match some r9 with | none => none | some r => if S.sc 0 - r.1 2 < 30 ∧ r.1 5 < 40 then some r else none) = (if S.sc 0 - r9.1 2 < 30 ∧ r9.1 5 < 40 then some r9 else none) from rfl, if_neg c] at h
      cases h

set_option maxRecDepth 100000 in
set_option maxHeartbeats 4000000 in
theorem k_X8_checkRange (l : Launch) (G : Gx) (x a b : Int32) (μ : Mem) : Kon l yX8_checkRange cX8_checkRange 3 none 6 1 6 82 G [.int x, .int a, .int b] μ (pV fun μ' => μ = μ' ∧ inR x a b) (fun X9 μ' => X9 = xIAE ∧ μ = μ' ∧ ¬ inR x a b) := by
  refine Kon.ofG (by decide +kernel) (Nat.le_of_ble_eq_true rfl) (Nat.le_of_ble_eq_true rfl) (fun Z hZG C E NT MT => ?_)
  subst hZG
  have C : Cx Z RX8 cX8_checkRange 6 1 6 82 := C
  show HW Z 0 0 0 [some (.int x), some (.int a), some (.int b)] [] μ
  refine h_iload_g C dX8_checkRange_0 rfl rfl ?_
  refine h_iload_g C dX8_checkRange_1 rfl rfl ?_
  refine h_icmp_lt (tgt := 10) C dX8_checkRange_2 (by decide) (fun c1 => ?_) (fun c1 => ?_)
  · exact h_throwW C E NT (by decide +kernel) xNames_fit kl_X8_39 xini_IAE xs_342 xat_IAE dX8_checkRange_10 dX8_checkRange_13 dX8_checkRange_14 dX8_checkRange_17 dX8_checkRange_20 (by decide) (by decide) (by decide) (by decide) (by decide) (by decide) ⟨rfl, rfl, fun h => by simp only [Int32.lt_iff_toInt_lt, Int32.le_iff_toInt_le, tl_m10000, tl_m1000, tl_m500, tl_m7, tl_m6, tl_m5, tl_m4, tl_m3, tl_m2, tl_m1, tl_0, tl_1, tl_2, tl_3, tl_4, tl_5, tl_6, tl_7, tl_8, tl_9, tl_10, tl_11, tl_15, tl_16, tl_20, tl_30, tl_40, tl_60, tl_99, tl_100, tl_211, tl_255, tl_307, tl_500, tl_1018, tl_2038, tl_2039, tl_9999, tl_10000, tl_65280, tl_65520, tl_65521, tl_1000000, tl_500000000] at c1; omega⟩
  · refine h_iload_g C dX8_checkRange_5 rfl rfl ?_
    refine h_iload_g C dX8_checkRange_6 rfl rfl ?_
    refine h_icmp_le (tgt := 21) C dX8_checkRange_7 (by decide) (fun c2 => ?_) (fun c2 => ?_)
    · refine h_ret C E dX8_checkRange_21 (by decide) (by decide) ?_
      simp only [Int32.lt_iff_toInt_lt, Int32.le_iff_toInt_le, tl_m10000, tl_m1000, tl_m500, tl_m7, tl_m6, tl_m5, tl_m4, tl_m3, tl_m2, tl_m1, tl_0, tl_1, tl_2, tl_3, tl_4, tl_5, tl_6, tl_7, tl_8, tl_9, tl_10, tl_11, tl_15, tl_16, tl_20, tl_30, tl_40, tl_60, tl_99, tl_100, tl_211, tl_255, tl_307, tl_500, tl_1018, tl_2038, tl_2039, tl_9999, tl_10000, tl_65280, tl_65520, tl_65521, tl_1000000, tl_500000000] at c1 c2
      exact ⟨rfl, rfl, by omega, by omega⟩
    · exact h_throwW C E NT (by decide +kernel) xNames_fit kl_X8_39 xini_IAE xs_342 xat_IAE dX8_checkRange_10 dX8_checkRange_13 dX8_checkRange_14 dX8_checkRange_17 dX8_checkRange_20 (by decide) (by decide) (by decide) (by decide) (by decide) (by decide) ⟨rfl, rfl, fun h => by simp only [Int32.lt_iff_toInt_lt, Int32.le_iff_toInt_le, tl_m10000, tl_m1000, tl_m500, tl_m7, tl_m6, tl_m5, tl_m4, tl_m3, tl_m2, tl_m1, tl_0, tl_1, tl_2, tl_3, tl_4, tl_5, tl_6, tl_7, tl_8, tl_9, tl_10, tl_11, tl_15, tl_16, tl_20, tl_30, tl_40, tl_60, tl_99, tl_100, tl_211, tl_255, tl_307, tl_500, tl_1018, tl_2038, tl_2039, tl_9999, tl_10000, tl_65280, tl_65520, tl_65521, tl_1000000, tl_500000000] at c1 c2; omega⟩

set_option maxRecDepth 100000 in
set_option maxHeartbeats 4000000 in
theorem k_X8_topBits (l : Launch) (G : Gx) (x b : Int32) (μ : Mem) : Kon l yX8_topBits cX8_topBits 2 (some .int) 0 0 0 0 G [.int x, .int b] μ (pI fun r μ' => μ = μ' ∧ r = TOPB x b) noX := by
  refine Kon.ofG (by decide +kernel) (Nat.le_of_ble_eq_true rfl) (Nat.le_of_ble_eq_true rfl) (fun Z hZG C E NT MT => ?_)
  subst hZG
  have C : Cx Z RX8 cX8_topBits 0 0 0 0 := C
  show HW Z 0 0 0 [some (.int x), some (.int b)] [] μ
  refine h_iload_g C dX8_topBits_0 rfl rfl ?_
  refine h_ldcw C kc_X8_344 dX8_topBits_1 ?_
  refine h_iload_g C dX8_topBits_4 rfl rfl ?_
  refine h_ishr C dX8_topBits_5 ?_
  refine h_iand C dX8_topBits_6 ?_
  refine h_sipush (v := 255) C dX8_topBits_7 (by decide) ?_
  refine h_iand C dX8_topBits_10 ?_
  refine h_iret C E dX8_topBits_11 (by decide) (by decide) ?_
  exact ⟨_, rfl, rfl, rfl⟩

set_option maxRecDepth 100000 in
set_option maxHeartbeats 4000000 in
theorem k_X8_endAt (l : Launch) (G : Gx) (P : Nat → Nat) (S : Sx) (μ : Mem) (hC : CRep G P S μ) (x : Int32) : Kon l yX8_endAt cX8_endAt 2 (some (.object "Burrowline$End")) 6 1 6 82 G [.ref (P 0), .int x] μ (pA fun r μ' => μ = μ' ∧ isE x ∧ r = P (4 + cl x)) (fun X9 μ' => X9 = xIOB ∧ μ = μ' ∧ ¬ isE x) := by
  refine Kon.ofG (by decide +kernel) (Nat.le_of_ble_eq_true rfl) (Nat.le_of_ble_eq_true rfl) (fun Z hZG C E NT MT => ?_)
  subst hZG
  have C : Cx Z RX8 cX8_endAt 6 1 6 82 := C
  show HW Z 0 0 0 [some (.ref (P 0)), some (.int x)] [] μ
  refine h_iload_g C dX8_endAt_0 rfl rfl ?_
  refine h_if_lt (tgt := 13) C dX8_endAt_1 (by decide) (fun c1 => ?_) (fun c1 => ?_)
  · exact h_throwW C E NT (by decide +kernel) xNames_fit kl_X8_253 xini_IOB xs_334 xat_IOB dX8_endAt_13 dX8_endAt_16 dX8_endAt_17 dX8_endAt_20 dX8_endAt_23 (by decide) (by decide) (by decide) (by decide) (by decide) (by decide) ⟨rfl, rfl, fun h => by simp only [Int32.lt_iff_toInt_lt, Int32.le_iff_toInt_le, tl_m10000, tl_m1000, tl_m500, tl_m7, tl_m6, tl_m5, tl_m4, tl_m3, tl_m2, tl_m1, tl_0, tl_1, tl_2, tl_3, tl_4, tl_5, tl_6, tl_7, tl_8, tl_9, tl_10, tl_11, tl_15, tl_16, tl_20, tl_30, tl_40, tl_60, tl_99, tl_100, tl_211, tl_255, tl_307, tl_500, tl_1018, tl_2038, tl_2039, tl_9999, tl_10000, tl_65280, tl_65520, tl_65521, tl_1000000, tl_500000000] at c1; omega⟩
  · refine h_iload_g C dX8_endAt_4 rfl rfl ?_
    refine h_al_g C dX8_endAt_5 rfl rfl rfv_r ?_
    refine gs_X8_11 C dX8_endAt_6 (CRep.kX hC) (CRep.f256 hC) ?_
    refine h_alen C dX8_endAt_9 (⟨by rw [CRep.kEA hC]; decide, by rw [CRep.kEA hC]; decide⟩) (CRep.lnE hC) ?_
    rw [show (Int32.ofNat 3 : Int32) = 3 from rfl]
    refine h_icmp_lt (tgt := 24) C dX8_endAt_10 (by decide) (fun c2 => ?_) (fun c2 => ?_)
    · simp only [Int32.lt_iff_toInt_lt, Int32.le_iff_toInt_le, tl_m10000, tl_m1000, tl_m500, tl_m7, tl_m6, tl_m5, tl_m4, tl_m3, tl_m2, tl_m1, tl_0, tl_1, tl_2, tl_3, tl_4, tl_5, tl_6, tl_7, tl_8, tl_9, tl_10, tl_11, tl_15, tl_16, tl_20, tl_30, tl_40, tl_60, tl_99, tl_100, tl_211, tl_255, tl_307, tl_500, tl_1018, tl_2038, tl_2039, tl_9999, tl_10000, tl_65280, tl_65520, tl_65521, tl_1000000, tl_500000000] at c1 c2
      have hE : isE x := ⟨by omega, by omega⟩
      refine h_al_g C dX8_endAt_24 rfl rfl rfv_r ?_
      refine gs_X8_11 C dX8_endAt_25 (CRep.kX hC) (CRep.f256 hC) ?_
      refine h_iload_g C dX8_endAt_28 rfl rfl ?_
      refine h_aald (r := some _) C dX8_endAt_29 ⟨by rw [CRep.kEA hC]; decide, by rw [CRep.kEA hC]; decide⟩ (by rw [CRep.lnE hC]; exact vp_isE hE.1 hE.2 (by decide)) (CRep.eE hC hE.lt) ?_
      refine h_aret (r := (some _)) C E (by first | exact Or.inl ⟨_, rfl⟩ | exact Or.inr ⟨_, rfl⟩) dX8_endAt_30 (by decide) (by decide) ?_
      exact ⟨_, rfl, rfl, hE, rfl⟩
    · exact h_throwW C E NT (by decide +kernel) xNames_fit kl_X8_253 xini_IOB xs_334 xat_IOB dX8_endAt_13 dX8_endAt_16 dX8_endAt_17 dX8_endAt_20 dX8_endAt_23 (by decide) (by decide) (by decide) (by decide) (by decide) (by decide) ⟨rfl, rfl, fun h => by simp only [Int32.lt_iff_toInt_lt, Int32.le_iff_toInt_le, tl_m10000, tl_m1000, tl_m500, tl_m7, tl_m6, tl_m5, tl_m4, tl_m3, tl_m2, tl_m1, tl_0, tl_1, tl_2, tl_3, tl_4, tl_5, tl_6, tl_7, tl_8, tl_9, tl_10, tl_11, tl_15, tl_16, tl_20, tl_30, tl_40, tl_60, tl_99, tl_100, tl_211, tl_255, tl_307, tl_500, tl_1018, tl_2038, tl_2039, tl_9999, tl_10000, tl_65280, tl_65520, tl_65521, tl_1000000, tl_500000000] at c1 c2; omega⟩

set_option maxRecDepth 100000 in
set_option maxHeartbeats 4000000 in
theorem k_X0_linkTo (l : Launch) (G : Gx) (P : Nat → Nat) (S : Sx) (μ : Mem) (hC : CRep G P S μ) (a : Nat) (ha : a < 3) (x : Int32) : Kon l yX0_linkTo cX0_linkTo 2 (some (.object "Burrowline$Link")) 0 0 0 0 G [.ref (P (4 + a)), .int x] μ (pO (fun μ' => μ = μ' ∧ ¬ isE x) (fun s μ' => μ = μ' ∧ isE x ∧ s = P (16 + 3 * a + cl x))) noX := by
  refine Kon.ofG (by decide +kernel) (Nat.le_of_ble_eq_true rfl) (Nat.le_of_ble_eq_true rfl) (fun Z hZG C E NT MT => ?_)
  subst hZG
  have C : Cx Z RX0 cX0_linkTo 0 0 0 0 := C
  show HW Z 0 0 0 [some (.ref (P (4 + a))), some (.int x)] [] μ
  refine h_iload_g C dX0_linkTo_0 rfl rfl ?_
  refine h_if_lt (tgt := 22) C dX0_linkTo_1 (by decide) (fun c1 => ?_) (fun c1 => ?_)
  · refine h_null C dX0_linkTo_22 ?_
    refine h_aret (r := none) C E (by first | exact Or.inl ⟨_, rfl⟩ | exact Or.inr ⟨_, rfl⟩) dX0_linkTo_23 (by decide) (by decide) ?_
    exact Or.inl ⟨rfl, rfl, fun h => by simp only [Int32.lt_iff_toInt_lt, Int32.le_iff_toInt_le, tl_m10000, tl_m1000, tl_m500, tl_m7, tl_m6, tl_m5, tl_m4, tl_m3, tl_m2, tl_m1, tl_0, tl_1, tl_2, tl_3, tl_4, tl_5, tl_6, tl_7, tl_8, tl_9, tl_10, tl_11, tl_15, tl_16, tl_20, tl_30, tl_40, tl_60, tl_99, tl_100, tl_211, tl_255, tl_307, tl_500, tl_1018, tl_2038, tl_2039, tl_9999, tl_10000, tl_65280, tl_65520, tl_65521, tl_1000000, tl_500000000] at c1; omega⟩
  · refine h_iload_g C dX0_linkTo_4 rfl rfl ?_
    refine h_al_g C dX0_linkTo_5 rfl rfl rfv_r ?_
    refine gs_X0_11 C dX0_linkTo_6 (CRep.kE hC (by assumption)) (CRep.f34 hC (by assumption)) ?_
    refine h_alen C dX0_linkTo_9 (⟨by rw [CRep.kLA hC (by assumption)]; decide, by rw [CRep.kLA hC (by assumption)]; decide⟩) (CRep.lnL hC (by assumption)) ?_
    rw [show (Int32.ofNat 3 : Int32) = 3 from rfl]
    refine h_icmp_ge (tgt := 22) C dX0_linkTo_10 (by decide) (fun c2 => ?_) (fun c2 => ?_)
    · refine h_null C dX0_linkTo_22 ?_
      refine h_aret (r := none) C E (by first | exact Or.inl ⟨_, rfl⟩ | exact Or.inr ⟨_, rfl⟩) dX0_linkTo_23 (by decide) (by decide) ?_
      exact Or.inl ⟨rfl, rfl, fun h => by simp only [Int32.lt_iff_toInt_lt, Int32.le_iff_toInt_le, tl_m10000, tl_m1000, tl_m500, tl_m7, tl_m6, tl_m5, tl_m4, tl_m3, tl_m2, tl_m1, tl_0, tl_1, tl_2, tl_3, tl_4, tl_5, tl_6, tl_7, tl_8, tl_9, tl_10, tl_11, tl_15, tl_16, tl_20, tl_30, tl_40, tl_60, tl_99, tl_100, tl_211, tl_255, tl_307, tl_500, tl_1018, tl_2038, tl_2039, tl_9999, tl_10000, tl_65280, tl_65520, tl_65521, tl_1000000, tl_500000000] at c1 c2; omega⟩
    · simp only [Int32.lt_iff_toInt_lt, Int32.le_iff_toInt_le, tl_m10000, tl_m1000, tl_m500, tl_m7, tl_m6, tl_m5, tl_m4, tl_m3, tl_m2, tl_m1, tl_0, tl_1, tl_2, tl_3, tl_4, tl_5, tl_6, tl_7, tl_8, tl_9, tl_10, tl_11, tl_15, tl_16, tl_20, tl_30, tl_40, tl_60, tl_99, tl_100, tl_211, tl_255, tl_307, tl_500, tl_1018, tl_2038, tl_2039, tl_9999, tl_10000, tl_65280, tl_65520, tl_65521, tl_1000000, tl_500000000] at c1 c2
      have hE : isE x := ⟨by omega, by omega⟩
      refine h_al_g C dX0_linkTo_13 rfl rfl rfv_r ?_
      refine gs_X0_11 C dX0_linkTo_14 (CRep.kE hC (by assumption)) (CRep.f34 hC (by assumption)) ?_
      refine h_iload_g C dX0_linkTo_17 rfl rfl ?_
      refine h_aald (r := some _) C dX0_linkTo_18 (⟨by rw [CRep.kLA hC (by assumption)]; decide, by rw [CRep.kLA hC (by assumption)]; decide⟩) (by rw [CRep.lnL hC ha]; exact vp_isE hE.1 hE.2 (by decide)) (CRep.eL hC ha hE.lt) ?_
      refine h_goto (tgt := 23) C dX0_linkTo_19 (by decide) ?_
      refine h_aret (r := (some _)) C E (by first | exact Or.inl ⟨_, rfl⟩ | exact Or.inr ⟨_, rfl⟩) dX0_linkTo_23 (by decide) (by decide) ?_
      exact Or.inr ⟨_, rfl, rfl, hE, rfl⟩

set_option maxRecDepth 100000 in
set_option maxHeartbeats 4000000 in
theorem k_X8_linkAt (l : Launch) (G : Gx) (P : Nat → Nat) (S : Sx) (μ : Mem) (hC : CRep G P S μ) (x y : Int32) : Kon l yX8_linkAt cX8_linkAt 4 (some (.object "Burrowline$Link")) 7 2 12 103 G [.ref (P 0), .int x, .int y] μ (pA fun r μ' => μ = μ' ∧ isE x ∧ isE y ∧ ¬ x = y ∧ r = P (16 + 3 * cl x + cl y)) (fun X9 μ' => μ = μ' ∧ ((X9 = xIOB ∧ ¬ (isE x ∧ isE y)) ∨ (X9 = xIAE ∧ isE x ∧ isE y ∧ x = y))) := by
  refine Kon.ofG (by decide +kernel) (Nat.le_of_ble_eq_true rfl) (Nat.le_of_ble_eq_true rfl) (fun Z hZG C E NT MT => ?_)
  subst hZG
  have C : Cx Z RX8 cX8_linkAt 7 2 12 103 := C
  show HW Z 0 0 0 [some (.ref (P 0)), some (.int x), some (.int y), none] [] μ
  refine h_al_g C dX8_linkAt_0 rfl rfl rfv_r ?_
  refine h_iload_g C dX8_linkAt_1 rfl rfl ?_
  refine h_callV1 (ci := 8) C (k_X8_endAt Z.l Z.G P S _ hC x) cw_X8_52 im_X8_endAt sl_X8_endAt rfl (by decide) (CRep.kX hC) dX8_linkAt_2 (by first | decide | exact Nat.le_of_ble_eq_true rfl) (by decide) (by decide) (by decide) (by decide) (kA fun r1 μ1 hp1 => ?_) (fun X9 μ9 hx9 => ?_)
  · obtain ⟨rfl, hx, rfl⟩ := hp1
    refine h_iload_g C dX8_linkAt_5 rfl rfl ?_
    refine h_callV1 (ci := 1) C (k_X0_linkTo Z.l Z.G P S _ hC (cl x) hx.lt y) cw_X8_119 im_X0_linkTo sl_X0_linkTo rfl (by decide) (CRep.kE hC hx.lt) dX8_linkAt_6 (by first | decide | exact Nat.le_of_ble_eq_true rfl) (by decide) (by decide) (by decide) (by decide) (kO (fun μ2 hp2 => ?_) (fun r2 μ2 hp2 => ?_)) kN
    · obtain ⟨rfl, hy⟩ := hp2
      refine h_ast_3 C dX8_linkAt_9 ct_i rfv_n ?_
      refine h_al_g C dX8_linkAt_10 rfl rfl rfv_n ?_
      refine h_ifnonnull_n C dX8_linkAt_11 ?_
      exact h_throwW C E NT (by decide +kernel) xNames_fit kl_X8_253 xini_IOB xs_336 xat_IOB dX8_linkAt_14 dX8_linkAt_17 dX8_linkAt_18 dX8_linkAt_21 dX8_linkAt_24 (by decide) (by decide) (by decide) (by decide) (by decide) (by decide) ⟨rfl, Or.inl ⟨rfl, fun h => hy h.2⟩⟩
    · obtain ⟨rfl, hy, rfl⟩ := hp2
      refine h_ast_3 C dX8_linkAt_9 ct_i rfv_r ?_
      refine h_al_g C dX8_linkAt_10 rfl rfl rfv_r ?_
      refine h_ifnonnull_r (tgt := 25) C dX8_linkAt_11 (by decide) ?_
      refine h_iload_g C dX8_linkAt_25 rfl rfl ?_
      refine h_iload_g C dX8_linkAt_26 rfl rfl ?_
      refine h_icmp_ne (tgt := 41) C dX8_linkAt_27 (by decide) (fun c1 => ?_) (fun c1 => ?_)
      · refine h_al_g C dX8_linkAt_41 rfl rfl rfv_r ?_
        refine h_aret (r := (some _)) C E (by first | exact Or.inl ⟨_, rfl⟩ | exact Or.inr ⟨_, rfl⟩) dX8_linkAt_42 (by decide) (by decide) ?_
        exact ⟨_, rfl, rfl, hx, hy, fun h => c1 h.symm, rfl⟩
      · exact h_throwW C E NT (by decide +kernel) xNames_fit kl_X8_39 xini_IAE xs_338 xat_IAE dX8_linkAt_30 dX8_linkAt_33 dX8_linkAt_34 dX8_linkAt_37 dX8_linkAt_40 (by decide) (by decide) (by decide) (by decide) (by decide) (by decide) ⟨rfl, Or.inr ⟨rfl, hx, hy, c1.symm⟩⟩
  · exact hx_out C E NT (by decide) (by decide) ⟨hx9.2.1, Or.inl ⟨hx9.1, fun h => hx9.2.2 h.1⟩⟩

set_option maxRecDepth 100000 in
set_option maxHeartbeats 4000000 in
theorem k_X8_letterAt (l : Launch) (G : Gx) (P : Nat → Nat) (S : Sx) (μ : Mem) (hC : CRep G P S μ) (xs : List Nat) (hx : ListAt G μ (P 2) xs) (hR : LR (LeAt μ KLET) xs S.nt) (x : Int32) : Kon l yX8_letterAt cX8_letterAt 2 (some (.object "Burrowline$Letter")) 6 1 6 82 G [.ref (P 0), .int x] μ (pA fun p μ' => μ = μ' ∧ isL S x ∧ ∃ r, xs[cl x]? = some p ∧ S.nt[cl x]? = some r ∧ LeAt μ KLET p r) (fun X9 μ' => X9 = xIOB ∧ μ = μ' ∧ ¬ isL S x) := by
  refine Kon.ofG (by decide +kernel) (Nat.le_of_ble_eq_true rfl) (Nat.le_of_ble_eq_true rfl) (fun Z hZG C E NT MT => ?_)
  subst hZG
  have C : Cx Z RX8 cX8_letterAt 6 1 6 82 := C
  show HW Z 0 0 0 [some (.ref (P 0)), some (.int x)] [] μ
  have hlen := hR.1
  have hmx := hx.2.1
  refine h_iload_g C dX8_letterAt_0 rfl rfl ?_
  refine h_if_lt (tgt := 15) C dX8_letterAt_1 (by decide) (fun c1 => ?_) (fun c1 => ?_)
  · exact h_throwW C E NT (by decide +kernel) xNames_fit kl_X8_253 xini_IOB xs_340 xat_IOB dX8_letterAt_15 dX8_letterAt_18 dX8_letterAt_19 dX8_letterAt_22 dX8_letterAt_25 (by decide) (by decide) (by decide) (by decide) (by decide) (by decide) ⟨rfl, rfl, fun h => by simp only [Int32.lt_iff_toInt_lt, Int32.le_iff_toInt_le, tl_m10000, tl_m1000, tl_m500, tl_m7, tl_m6, tl_m5, tl_m4, tl_m3, tl_m2, tl_m1, tl_0, tl_1, tl_2, tl_3, tl_4, tl_5, tl_6, tl_7, tl_8, tl_9, tl_10, tl_11, tl_15, tl_16, tl_20, tl_30, tl_40, tl_60, tl_99, tl_100, tl_211, tl_255, tl_307, tl_500, tl_1018, tl_2038, tl_2039, tl_9999, tl_10000, tl_65280, tl_65520, tl_65521, tl_1000000, tl_500000000] at c1; omega⟩
  · refine h_iload_g C dX8_letterAt_4 rfl rfl ?_
    refine h_al_g C dX8_letterAt_5 rfl rfl rfv_r ?_
    refine gs_X8_18 C dX8_letterAt_6 (CRep.kX hC) (CRep.f257 hC) ?_
    refine h_callV0 (ci := 0) (a_ := .null) C (k_Jx4a65c_size_8abf5 Z.l Z.G _ xs _ hx) cw_X8_86 im_Jx4a65c_size_8abf5 sl_Jx4a65c_size_8abf5 rfl (by decide) hx.1 dX8_letterAt_9 (by first | decide | exact Nat.le_of_ble_eq_true rfl) (by decide) (by decide) (by decide) (by decide) (kI fun r1 μ1 hp1 => ?_) kN
    obtain ⟨rfl, rfl⟩ := hp1
    have e9 : (nI xs.length).toInt = (S.nt.length : Int) := by rw [hlen]; exact nI_toInt (by omega)
    refine h_icmp_lt (tgt := 26) C dX8_letterAt_12 (by decide) (fun c2 => ?_) (fun c2 => ?_)
    · simp only [Int32.lt_iff_toInt_lt, Int32.le_iff_toInt_le, tl_m10000, tl_m1000, tl_m500, tl_m7, tl_m6, tl_m5, tl_m4, tl_m3, tl_m2, tl_m1, tl_0, tl_1, tl_2, tl_3, tl_4, tl_5, tl_6, tl_7, tl_8, tl_9, tl_10, tl_11, tl_15, tl_16, tl_20, tl_30, tl_40, tl_60, tl_99, tl_100, tl_211, tl_255, tl_307, tl_500, tl_1018, tl_2038, tl_2039, tl_9999, tl_10000, tl_65280, tl_65520, tl_65521, tl_1000000, tl_500000000] at c1 c2
      have hL : isL S x := ⟨by omega, by omega⟩
      have hcl := cl_eq hL.1
      have hi : xs[cl x]? = some xs[cl x] := List.getElem?_eq_getElem (by omega)
      have hj : S.nt[cl x]? = some S.nt[cl x] := List.getElem?_eq_getElem (by omega)
      have hle := hR.2 _ _ _ hi hj
      refine h_al_g C dX8_letterAt_26 rfl rfl rfv_r ?_
      refine gs_X8_18 C dX8_letterAt_27 (CRep.kX hC) (CRep.f257 hC) ?_
      refine h_iload_g C dX8_letterAt_30 rfl rfl ?_
      refine h_callV1 (ci := 0) C (k_Jx4a65c_get_915e3 Z.l Z.G _ xs x (cl x) _ _ hx (cl_nI hL.1) hi) cw_X8_92 im_Jx4a65c_get_915e3 sl_Jx4a65c_get_915e3 rfl (by decide) hx.1 dX8_letterAt_31 (by first | decide | exact Nat.le_of_ble_eq_true rfl) (by decide) (by decide) (by decide) (by decide) (kA fun r2 μ2 hp2 => ?_) kN
      obtain ⟨rfl, rfl⟩ := hp2
      refine h_castO (ci := 3) C kl_X8_166 rfl (by decide) dX8_letterAt_34 (LeAt.k hle (by decide)) ?_
      refine h_aret (r := (some _)) C E (by first | exact Or.inl ⟨_, rfl⟩ | exact Or.inr ⟨_, rfl⟩) dX8_letterAt_37 (by decide) (by decide) ?_
      exact ⟨_, rfl, rfl, hL, _, hi, hj, hle⟩
    · exact h_throwW C E NT (by decide +kernel) xNames_fit kl_X8_253 xini_IOB xs_340 xat_IOB dX8_letterAt_15 dX8_letterAt_18 dX8_letterAt_19 dX8_letterAt_22 dX8_letterAt_25 (by decide) (by decide) (by decide) (by decide) (by decide) (by decide) ⟨rfl, rfl, fun h => by simp only [Int32.lt_iff_toInt_lt, Int32.le_iff_toInt_le, tl_m10000, tl_m1000, tl_m500, tl_m7, tl_m6, tl_m5, tl_m4, tl_m3, tl_m2, tl_m1, tl_0, tl_1, tl_2, tl_3, tl_4, tl_5, tl_6, tl_7, tl_8, tl_9, tl_10, tl_11, tl_15, tl_16, tl_20, tl_30, tl_40, tl_60, tl_99, tl_100, tl_211, tl_255, tl_307, tl_500, tl_1018, tl_2038, tl_2039, tl_9999, tl_10000, tl_65280, tl_65520, tl_65521, tl_1000000, tl_500000000] at c1 c2; omega⟩

set_option maxRecDepth 100000 in
set_option maxHeartbeats 4000000 in
theorem k_X8_endWithAddress (l : Launch) (G : Gx) (P : Nat → Nat) (S : Sx) (μ : Mem) (hC : CRep G P S μ) (x : Int32) : Kon l yX8_endWithAddress cX8_endWithAddress 6 (some (.object "Burrowline$End")) 0 0 0 0 G [.ref (P 0), .int x] μ (pO (fun μ' => μ = μ' ∧ FWA S x = none) (fun s μ' => μ = μ' ∧ ∃ e, e < 3 ∧ FWA S x = some e ∧ s = P (4 + e))) noX := by
  refine Kon.ofG (by decide +kernel) (Nat.le_of_ble_eq_true rfl) (Nat.le_of_ble_eq_true rfl) (fun Z hZG C E NT MT => ?_)
  subst hZG
  have C : Cx Z RX8 cX8_endWithAddress 0 0 0 0 := C
  show HW Z 0 0 0 [some (.ref (P 0)), some (.int x), none, none, none, none] [] μ
  refine h_al_g C dX8_endWithAddress_0 rfl rfl rfv_r ?_
  refine gs_X8_11 C dX8_endWithAddress_1 (CRep.kX hC) (CRep.f256 hC) ?_
  refine h_ast_2 C dX8_endWithAddress_4 ct_i rfv_r ?_
  refine h_al_g C dX8_endWithAddress_5 rfl rfl rfv_r ?_
  refine h_alen C dX8_endWithAddress_6 (⟨by rw [CRep.kEA hC]; decide, by rw [CRep.kEA hC]; decide⟩) (CRep.lnE hC) ?_
  rw [show (Int32.ofNat 3 : Int32) = 3 from rfl]
  refine h_ist_3 C dX8_endWithAddress_7 ct_r ?_
  refine h_iconst (v := 0) C dX8_endWithAddress_8 (by decide) ?_
  refine h_ist_4 C dX8_endWithAddress_9 ct_i ?_
  refine h_iload_w C dX8_endWithAddress_11 rfl ?_
  refine h_iload_g C dX8_endWithAddress_13 rfl rfl ?_
  refine h_icmp_ge (tgt := 41) C dX8_endWithAddress_14 (by decide) (fun c1 => absurd c1 (by decide)) (fun c1 => ?_)
  refine h_al_g C dX8_endWithAddress_17 rfl rfl rfv_r ?_
  refine h_iload_w C dX8_endWithAddress_18 rfl ?_
  refine h_aald (r := some _) C dX8_endWithAddress_20 ⟨by rw [CRep.kEA hC]; decide, by rw [CRep.kEA hC]; decide⟩ (by rw [CRep.lnE hC]; exact vp_in_nI (n := 0) (by decide) (by decide)) (CRep.eE hC (e := 0) (by decide)) ?_
  refine h_ast_5 C dX8_endWithAddress_21 ct_i rfv_r ?_
  refine h_al_w (j := 0) C dX8_endWithAddress_23 rfl rfv_r ?_
  refine gf_X8_65 C dX8_endWithAddress_25 (CRep.kE hC (e := 0) (by decide)) (CRep.f37 hC (e := 0) (by decide)) ?_
  refine h_iload_g C dX8_endWithAddress_28 rfl rfl ?_
  refine h_icmp_ne (tgt := 35) C dX8_endWithAddress_29 (by decide) (fun c2 => ?_) (fun c2 => ?_)
  · refine h_iinc_4 (q := 1) C dX8_endWithAddress_35 (by decide) ct_i ?_
    rw [show (0 + 1 : Int32) = 1 from by decide]
    refine h_goto (tgt := 11) C dX8_endWithAddress_38 (by decide) ?_
    refine h_iload_w C dX8_endWithAddress_11 rfl ?_
    refine h_iload_g C dX8_endWithAddress_13 rfl rfl ?_
    refine h_icmp_ge (tgt := 41) C dX8_endWithAddress_14 (by decide) (fun c3 => absurd c3 (by decide)) (fun c3 => ?_)
    refine h_al_g C dX8_endWithAddress_17 rfl rfl rfv_r ?_
    refine h_iload_w C dX8_endWithAddress_18 rfl ?_
    refine h_aald (r := some _) C dX8_endWithAddress_20 ⟨by rw [CRep.kEA hC]; decide, by rw [CRep.kEA hC]; decide⟩ (by rw [CRep.lnE hC]; exact vp_in_nI (n := 1) (by decide) (by decide)) (CRep.eE hC (e := 1) (by decide)) ?_
    refine h_ast_5 C dX8_endWithAddress_21 ct_i rfv_r ?_
    refine h_al_w (j := 0) C dX8_endWithAddress_23 rfl rfv_r ?_
    refine gf_X8_65 C dX8_endWithAddress_25 (CRep.kE hC (e := 1) (by decide)) (CRep.f37 hC (e := 1) (by decide)) ?_
    refine h_iload_g C dX8_endWithAddress_28 rfl rfl ?_
    refine h_icmp_ne (tgt := 35) C dX8_endWithAddress_29 (by decide) (fun c4 => ?_) (fun c4 => ?_)
    · refine h_iinc_4 (q := 1) C dX8_endWithAddress_35 (by decide) ct_i ?_
      rw [show (1 + 1 : Int32) = 2 from by decide]
      refine h_goto (tgt := 11) C dX8_endWithAddress_38 (by decide) ?_
      refine h_iload_w C dX8_endWithAddress_11 rfl ?_
      refine h_iload_g C dX8_endWithAddress_13 rfl rfl ?_
      refine h_icmp_ge (tgt := 41) C dX8_endWithAddress_14 (by decide) (fun c5 => absurd c5 (by decide)) (fun c5 => ?_)
      refine h_al_g C dX8_endWithAddress_17 rfl rfl rfv_r ?_
      refine h_iload_w C dX8_endWithAddress_18 rfl ?_
      refine h_aald (r := some _) C dX8_endWithAddress_20 ⟨by rw [CRep.kEA hC]; decide, by rw [CRep.kEA hC]; decide⟩ (by rw [CRep.lnE hC]; exact vp_in_nI (n := 2) (by decide) (by decide)) (CRep.eE hC (e := 2) (by decide)) ?_
      refine h_ast_5 C dX8_endWithAddress_21 ct_i rfv_r ?_
      refine h_al_w (j := 0) C dX8_endWithAddress_23 rfl rfv_r ?_
      refine gf_X8_65 C dX8_endWithAddress_25 (CRep.kE hC (e := 2) (by decide)) (CRep.f37 hC (e := 2) (by decide)) ?_
      refine h_iload_g C dX8_endWithAddress_28 rfl rfl ?_
      refine h_icmp_ne (tgt := 35) C dX8_endWithAddress_29 (by decide) (fun c6 => ?_) (fun c6 => ?_)
      · refine h_iinc_4 (q := 1) C dX8_endWithAddress_35 (by decide) ct_i ?_
        rw [show (2 + 1 : Int32) = 3 from by decide]
        refine h_goto (tgt := 11) C dX8_endWithAddress_38 (by decide) ?_
        refine h_iload_w C dX8_endWithAddress_11 rfl ?_
        refine h_iload_g C dX8_endWithAddress_13 rfl rfl ?_
        refine h_icmp_ge (tgt := 41) C dX8_endWithAddress_14 (by decide) (fun c7 => ?_) (fun c7 => absurd (by decide) c7)
        refine h_null C dX8_endWithAddress_41 ?_
        refine h_aret (r := none) C E (by first | exact Or.inl ⟨_, rfl⟩ | exact Or.inr ⟨_, rfl⟩) dX8_endWithAddress_42 (by decide) (by decide) ?_
        exact Or.inl ⟨rfl, rfl, by unfold FWA; rw [if_neg c2, if_neg c4, if_neg c6]⟩
      · refine h_al_w (j := 0) C dX8_endWithAddress_32 rfl rfv_r ?_
        refine h_aret (r := (some _)) C E (by first | exact Or.inl ⟨_, rfl⟩ | exact Or.inr ⟨_, rfl⟩) dX8_endWithAddress_34 (by decide) (by decide) ?_
        exact Or.inr ⟨_, rfl, rfl, 2, by decide, by unfold FWA; rw [if_neg c2, if_neg c4, if_pos c6], rfl⟩
    · refine h_al_w (j := 0) C dX8_endWithAddress_32 rfl rfv_r ?_
      refine h_aret (r := (some _)) C E (by first | exact Or.inl ⟨_, rfl⟩ | exact Or.inr ⟨_, rfl⟩) dX8_endWithAddress_34 (by decide) (by decide) ?_
      exact Or.inr ⟨_, rfl, rfl, 1, by decide, by unfold FWA; rw [if_neg c2, if_pos c4], rfl⟩
  · refine h_al_w (j := 0) C dX8_endWithAddress_32 rfl rfv_r ?_
    refine h_aret (r := (some _)) C E (by first | exact Or.inl ⟨_, rfl⟩ | exact Or.inr ⟨_, rfl⟩) dX8_endWithAddress_34 (by decide) (by decide) ?_
    exact Or.inr ⟨_, rfl, rfl, 0, by decide, if_pos c2, rfl⟩

set_option maxRecDepth 100000 in
set_option maxHeartbeats 4000000 in
theorem k_X8_ageOf (l : Launch) (G : Gx) (P : Nat → Nat) (S : Sx) (μ : Mem) (hC : CRep G P S μ) (a b w s : Nat) (r : Ses) (hs : SesIn μ a b w s r) : Kon l yX8_ageOf cX8_ageOf 2 (some .int) 0 0 0 0 G [.ref (P 0), .ref s] μ (pI fun v μ' => μ = μ' ∧ v = S.sc 0 - r.1 2) noX := by
  refine Kon.ofG (by decide +kernel) (Nat.le_of_ble_eq_true rfl) (Nat.le_of_ble_eq_true rfl) (fun Z hZG C E NT MT => ?_)
  subst hZG
  have C : Cx Z RX8 cX8_ageOf 0 0 0 0 := C
  show HW Z 0 0 0 [some (.ref (P 0)), some (.ref s)] [] μ
  refine h_al_g C dX8_ageOf_0 rfl rfl rfv_r ?_
  refine gf_X8_26 C dX8_ageOf_1 (CRep.kX hC) (CRep.f259 hC) ?_
  refine h_al_g C dX8_ageOf_4 rfl rfl rfv_r ?_
  refine gf_X8_345 C dX8_ageOf_5 (SesIn.k hs) (SesIn.f226 hs) ?_
  refine h_isub C dX8_ageOf_8 ?_
  refine h_iret C E dX8_ageOf_9 (by decide) (by decide) ?_
  exact ⟨_, rfl, rfl, rfl⟩

set_option maxRecDepth 100000 in
set_option maxHeartbeats 4000000 in
theorem k_X8_usableOf (l : Launch) (G : Gx) (P : Nat → Nat) (S : Sx) (μ : Mem) (hC : CRep G P S μ) (a b : Nat) (ha : a < 3) (hb : b < 3) : Kon l yX8_usableOf cX8_usableOf 3 (some (.object "Burrowline$Session")) 1 0 0 21 G [.ref (P 0), .ref (P (16 + 3 * a + b))] μ (pO (fun μ' => μ = μ' ∧ USE S a b = none) (fun s μ' => μ = μ' ∧ ∃ r, USE S a b = some r ∧ μ.fr 134 (P (16 + 3 * a + b)) = some s ∧ SesIn μ a b 1 s r)) noX := by
  refine Kon.ofG (by decide +kernel) (Nat.le_of_ble_eq_true rfl) (Nat.le_of_ble_eq_true rfl) (fun Z hZG C E NT MT => ?_)
  subst hZG
  have C : Cx Z RX8 cX8_usableOf 1 0 0 21 := C
  show HW Z 0 0 0 [some (.ref (P 0)), some (.ref (P (16 + 3 * a + b))), none] [] μ
  refine h_al_g C dX8_usableOf_0 rfl rfl rfv_r ?_
  rcases CRep.c134 hC ha hb with ⟨e1, e2⟩ | ⟨s, r, e1, e2, hs⟩
  · refine gn_X8_289 C dX8_usableOf_1 (CRep.kL hC (by assumption) (by assumption)) e1 ?_
    refine h_ast_2 C dX8_usableOf_4 ct_r rfv_n ?_
    refine h_al_g C dX8_usableOf_5 rfl rfl rfv_n ?_
    refine h_ifnull_n (tgt := 28) C dX8_usableOf_6 (by decide) ?_
    refine h_null C dX8_usableOf_28 ?_
    refine h_aret (r := none) C E (by first | exact Or.inl ⟨_, rfl⟩ | exact Or.inr ⟨_, rfl⟩) dX8_usableOf_29 (by decide) (by decide) ?_
    exact Or.inl ⟨rfl, rfl, by unfold USE; rw [e2]⟩
  · refine gs_X8_289 C dX8_usableOf_1 (CRep.kL hC (by assumption) (by assumption)) e1 ?_
    refine h_ast_2 C dX8_usableOf_4 ct_r rfv_r ?_
    refine h_al_g C dX8_usableOf_5 rfl rfl rfv_r ?_
    refine h_ifnull_r C dX8_usableOf_6 ?_
    refine h_al_g C dX8_usableOf_9 rfl rfl rfv_r ?_
    refine h_al_g C dX8_usableOf_10 rfl rfl rfv_r ?_
    refine h_callV1 (ci := 8) C (k_X8_ageOf Z.l Z.G P S _ hC _ _ _ _ _ hs) cw_X8_293 im_X8_ageOf sl_X8_ageOf rfl (by decide) (CRep.kX hC) dX8_usableOf_11 (by first | decide | exact Nat.le_of_ble_eq_true rfl) (by decide) (by decide) (by decide) (by decide) (kI fun r1 μ1 hp1 => ?_) kN
    obtain ⟨rfl, rfl⟩ := hp1
    refine h_bipush (v := 30) C dX8_usableOf_14 (by decide) ?_
    refine h_icmp_ge (tgt := 28) C dX8_usableOf_16 (by decide) (fun c1 => ?_) (fun c1 => ?_)
    · refine h_null C dX8_usableOf_28 ?_
      refine h_aret (r := none) C E (by first | exact Or.inl ⟨_, rfl⟩ | exact Or.inr ⟨_, rfl⟩) dX8_usableOf_29 (by decide) (by decide) ?_
      exact Or.inl ⟨rfl, rfl, by unfold USE; rw [e2]; exact if_neg fun h => absurd c1 (Int32.not_le.mpr h.1)⟩
    · refine h_al_g C dX8_usableOf_19 rfl rfl rfv_r ?_
      refine gf_X8_350 C dX8_usableOf_20 (SesIn.k hs) (SesIn.f230 hs) ?_
      refine h_bipush (v := 40) C dX8_usableOf_23 (by decide) ?_
      refine h_icmp_lt (tgt := 30) C dX8_usableOf_25 (by decide) (fun c2 => ?_) (fun c2 => ?_)
      · refine h_al_g C dX8_usableOf_30 rfl rfl rfv_r ?_
        refine h_aret (r := (some _)) C E (by first | exact Or.inl ⟨_, rfl⟩ | exact Or.inr ⟨_, rfl⟩) dX8_usableOf_31 (by decide) (by decide) ?_
        exact Or.inr ⟨_, rfl, rfl, r, by unfold USE; rw [e2]; exact if_pos ⟨Int32.not_le.mp c1, c2⟩, e1, hs⟩
      · refine h_null C dX8_usableOf_28 ?_
        refine h_aret (r := none) C E (by first | exact Or.inl ⟨_, rfl⟩ | exact Or.inr ⟨_, rfl⟩) dX8_usableOf_29 (by decide) (by decide) ?_
        exact Or.inl ⟨rfl, rfl, by unfold USE; rw [e2]; exact if_neg fun h => c2 h.2⟩

set_option maxRecDepth 100000 in
set_option maxHeartbeats 4000000 in
theorem k_X8_wantsRenewal (l : Launch) (G : Gx) (P : Nat → Nat) (S : Sx) (μ : Mem) (hC : CRep G P S μ) (a b w s : Nat) (r : Ses) (hs : SesIn μ a b w s r) : Kon l yX8_wantsRenewal cX8_wantsRenewal 2 (some .boolean) 1 0 0 21 G [.ref (P 0), .ref s] μ (pB (fun μ' => μ = μ' ∧ WRN S r) (fun μ' => μ = μ' ∧ ¬ WRN S r)) noX := by
  refine Kon.ofG (by decide +kernel) (Nat.le_of_ble_eq_true rfl) (Nat.le_of_ble_eq_true rfl) (fun Z hZG C E NT MT => ?_)
  subst hZG
  have C : Cx Z RX8 cX8_wantsRenewal 1 0 0 21 := C
  show HW Z 0 0 0 [some (.ref (P 0)), some (.ref s)] [] μ
  refine h_al_g C dX8_wantsRenewal_0 rfl rfl rfv_r ?_
  refine gf_X8_353 C dX8_wantsRenewal_1 (SesIn.k hs) (SesIn.f227 hs) ?_
  refine h_if_eq (tgt := 30) C dX8_wantsRenewal_4 (by decide) (fun c1 => ?_) (fun c1 => ?_)
  · refine h_iconst (v := 0) C dX8_wantsRenewal_30 (by decide) ?_
    refine h_zret C E dX8_wantsRenewal_31 (by decide) (by decide) (by first | exact Or.inl rfl | exact Or.inr rfl) ?_
    exact Or.inr ⟨rfl, rfl, fun h => h.1 c1⟩
  · refine h_al_g C dX8_wantsRenewal_7 rfl rfl rfv_r ?_
    refine h_al_g C dX8_wantsRenewal_8 rfl rfl rfv_r ?_
    refine h_callV1 (ci := 8) C (k_X8_ageOf Z.l Z.G P S _ hC _ _ _ _ _ hs) cw_X8_293 im_X8_ageOf sl_X8_ageOf rfl (by decide) (CRep.kX hC) dX8_wantsRenewal_9 (by first | decide | exact Nat.le_of_ble_eq_true rfl) (by decide) (by decide) (by decide) (by decide) (kI fun r1 μ1 hp1 => ?_) kN
    obtain ⟨rfl, rfl⟩ := hp1
    refine h_bipush (v := 20) C dX8_wantsRenewal_12 (by decide) ?_
    refine h_icmp_ge (tgt := 26) C dX8_wantsRenewal_14 (by decide) (fun c2 => ?_) (fun c2 => ?_)
    · refine h_iconst (v := 1) C dX8_wantsRenewal_26 (by decide) ?_
      refine h_goto (tgt := 31) C dX8_wantsRenewal_27 (by decide) ?_
      refine h_zret C E dX8_wantsRenewal_31 (by decide) (by decide) (by first | exact Or.inl rfl | exact Or.inr rfl) ?_
      exact Or.inl ⟨rfl, rfl, c1, Or.inl c2⟩
    · refine h_al_g C dX8_wantsRenewal_17 rfl rfl rfv_r ?_
      refine gf_X8_350 C dX8_wantsRenewal_18 (SesIn.k hs) (SesIn.f230 hs) ?_
      refine h_bipush (v := 30) C dX8_wantsRenewal_21 (by decide) ?_
      refine h_icmp_lt (tgt := 30) C dX8_wantsRenewal_23 (by decide) (fun c3 => ?_) (fun c3 => ?_)
      · refine h_iconst (v := 0) C dX8_wantsRenewal_30 (by decide) ?_
        refine h_zret C E dX8_wantsRenewal_31 (by decide) (by decide) (by first | exact Or.inl rfl | exact Or.inr rfl) ?_
        exact Or.inr ⟨rfl, rfl, fun h => h.2.elim c2 (fun z => absurd c3 (Int32.not_lt.mpr z))⟩
      · refine h_iconst (v := 1) C dX8_wantsRenewal_26 (by decide) ?_
        refine h_goto (tgt := 31) C dX8_wantsRenewal_27 (by decide) ?_
        refine h_zret C E dX8_wantsRenewal_31 (by decide) (by decide) (by first | exact Or.inl rfl | exact Or.inr rfl) ?_
        exact Or.inl ⟨rfl, rfl, c1, Or.inr (Int32.not_lt.mp c3)⟩

set_option maxRecDepth 100000 in
set_option maxHeartbeats 4000000 in
theorem k_X8_hasFreshHello (l : Launch) (G : Gx) (P : Nat → Nat) (S : Sx) (μ : Mem) (hC : CRep G P S μ) (a b : Nat) (ha : a < 3) (hb : b < 3) : Kon l yX8_hasFreshHello cX8_hasFreshHello 2 (some .boolean) 0 0 0 0 G [.ref (P 0), .ref (P (16 + 3 * a + b))] μ (pB (fun μ' => μ = μ' ∧ FRE S a b) (fun μ' => μ = μ' ∧ ¬ FRE S a b)) noX := by
  refine Kon.ofG (by decide +kernel) (Nat.le_of_ble_eq_true rfl) (Nat.le_of_ble_eq_true rfl) (fun Z hZG C E NT MT => ?_)
  subst hZG
  have C : Cx Z RX8 cX8_hasFreshHello 0 0 0 0 := C
  show HW Z 0 0 0 [some (.ref (P 0)), some (.ref (P (16 + 3 * a + b)))] [] μ
  refine h_al_g C dX8_hasFreshHello_0 rfl rfl rfv_r ?_
  rcases CRep.c136 hC ha hb with ⟨e1, e2⟩ | ⟨s, r, e1, e2, hf⟩
  · refine gn_X8_356 C dX8_hasFreshHello_1 (CRep.kL hC (by assumption) (by assumption)) e1 ?_
    refine h_ifnull_n (tgt := 27) C dX8_hasFreshHello_4 (by decide) ?_
    refine h_iconst (v := 0) C dX8_hasFreshHello_27 (by decide) ?_
    refine h_zret C E dX8_hasFreshHello_28 (by decide) (by decide) (by first | exact Or.inl rfl | exact Or.inr rfl) ?_
    exact Or.inr ⟨rfl, rfl, fun ⟨r, h, _⟩ => by rw [e2] at h; cases h⟩
  · refine gs_X8_356 C dX8_hasFreshHello_1 (CRep.kL hC (by assumption) (by assumption)) e1 ?_
    refine h_ifnull_r C dX8_hasFreshHello_4 ?_
    refine h_al_g C dX8_hasFreshHello_7 rfl rfl rfv_r ?_
    refine gf_X8_26 C dX8_hasFreshHello_8 (CRep.kX hC) (CRep.f259 hC) ?_
    refine h_al_g C dX8_hasFreshHello_11 rfl rfl rfv_r ?_
    refine gs_X8_356 C dX8_hasFreshHello_12 (CRep.kL hC (by assumption) (by assumption)) e1 ?_
    refine gf_X8_360 C dX8_hasFreshHello_15 (FlIn.k hf) (FlIn.f67 hf) ?_
    refine h_isub C dX8_hasFreshHello_18 ?_
    refine h_iconst (v := 5) C dX8_hasFreshHello_19 (by decide) ?_
    refine h_icmp_ge (tgt := 27) C dX8_hasFreshHello_20 (by decide) (fun c1 => ?_) (fun c1 => ?_)
    · refine h_iconst (v := 0) C dX8_hasFreshHello_27 (by decide) ?_
      refine h_zret C E dX8_hasFreshHello_28 (by decide) (by decide) (by first | exact Or.inl rfl | exact Or.inr rfl) ?_
      exact Or.inr ⟨rfl, rfl, fun ⟨r9, h, h2⟩ => by rw [e2] at h; cases h; exact absurd c1 (Int32.not_le.mpr h2)⟩
    · refine h_iconst (v := 1) C dX8_hasFreshHello_23 (by decide) ?_
      refine h_goto (tgt := 28) C dX8_hasFreshHello_24 (by decide) ?_
      refine h_zret C E dX8_hasFreshHello_28 (by decide) (by decide) (by first | exact Or.inl rfl | exact Or.inr rfl) ?_
      exact Or.inl ⟨rfl, rfl, r, e2, Int32.not_le.mp c1⟩

set_option maxRecDepth 100000 in
set_option maxHeartbeats 4000000 in
theorem k_X8_youngCookie (l : Launch) (G : Gx) (P : Nat → Nat) (S : Sx) (μ : Mem) (hC : CRep G P S μ) (a b : Nat) (ha : a < 3) (hb : b < 3) : Kon l yX8_youngCookie cX8_youngCookie 2 (some .int) 0 0 0 0 G [.ref (P 0), .ref (P (16 + 3 * a + b))] μ (pI fun v μ' => μ = μ' ∧ v = YCK S a b) noX := by
  refine Kon.ofG (by decide +kernel) (Nat.le_of_ble_eq_true rfl) (Nat.le_of_ble_eq_true rfl) (fun Z hZG C E NT MT => ?_)
  subst hZG
  have C : Cx Z RX8 cX8_youngCookie 0 0 0 0 := C
  show HW Z 0 0 0 [some (.ref (P 0)), some (.ref (P (16 + 3 * a + b)))] [] μ
  refine h_al_g C dX8_youngCookie_0 rfl rfl rfv_r ?_
  refine gf_X8_26 C dX8_youngCookie_1 (CRep.kX hC) (CRep.f259 hC) ?_
  refine h_al_g C dX8_youngCookie_4 rfl rfl rfv_r ?_
  refine gf_X8_365 C dX8_youngCookie_5 (CRep.kL hC (by assumption) (by assumption)) (CRep.f140 hC (by assumption) (by assumption)) ?_
  refine h_isub C dX8_youngCookie_8 ?_
  refine h_bipush (v := 60) C dX8_youngCookie_9 (by decide) ?_
  refine h_icmp_ge (tgt := 21) C dX8_youngCookie_11 (by decide) (fun c1 => ?_) (fun c1 => ?_)
  · refine h_iconst (v := (-1)) C dX8_youngCookie_21 (by decide) ?_
    refine h_iret C E dX8_youngCookie_22 (by decide) (by decide) ?_
    exact ⟨_, rfl, rfl, (if_neg (Int32.not_lt.mpr c1)).symm⟩
  · refine h_al_g C dX8_youngCookie_14 rfl rfl rfv_r ?_
    refine gf_X8_368 C dX8_youngCookie_15 (CRep.kL hC (by assumption) (by assumption)) (CRep.f139 hC (by assumption) (by assumption)) ?_
    refine h_goto (tgt := 22) C dX8_youngCookie_18 (by decide) ?_
    refine h_iret C E dX8_youngCookie_22 (by decide) (by decide) ?_
    exact ⟨_, rfl, rfl, (if_pos (Int32.not_le.mp c1)).symm⟩

set_option maxRecDepth 100000 in
set_option maxHeartbeats 4000000 in
theorem k_X3_flightIndex (l : Launch) (G : Gx) (P : Nat → Nat) (S : Sx) (μ : Mem) (hC : CRep G P S μ) (a b : Nat) (ha : a < 3) (hb : b < 3) : Kon l yX3_flightIndex cX3_flightIndex 1 (some .int) 0 0 0 0 G [.ref (P (16 + 3 * a + b))] μ (pI fun v μ' => μ = μ' ∧ v = FLX S a b) noX := by
  refine Kon.ofG (by decide +kernel) (Nat.le_of_ble_eq_true rfl) (Nat.le_of_ble_eq_true rfl) (fun Z hZG C E NT MT => ?_)
  subst hZG
  have C : Cx Z RX3 cX3_flightIndex 0 0 0 0 := C
  show HW Z 0 0 0 [some (.ref (P (16 + 3 * a + b)))] [] μ
  refine h_al_g C dX3_flightIndex_0 rfl rfl rfv_r ?_
  rcases CRep.c136 hC ha hb with ⟨e1, e2⟩ | ⟨s, r, e1, e2, hf⟩
  · refine gn_X3_28 C dX3_flightIndex_1 (CRep.kL hC (by assumption) (by assumption)) e1 ?_
    refine h_ifnonnull_n C dX3_flightIndex_4 ?_
    refine h_iconst (v := (-1)) C dX3_flightIndex_7 (by decide) ?_
    refine h_goto (tgt := 18) C dX3_flightIndex_8 (by decide) ?_
    refine h_iret C E dX3_flightIndex_18 (by decide) (by decide) ?_
    exact ⟨_, rfl, rfl, by unfold FLX; rw [e2]⟩
  · refine gs_X3_28 C dX3_flightIndex_1 (CRep.kL hC (by assumption) (by assumption)) e1 ?_
    refine h_ifnonnull_r (tgt := 11) C dX3_flightIndex_4 (by decide) ?_
    refine h_al_g C dX3_flightIndex_11 rfl rfl rfv_r ?_
    refine gs_X3_28 C dX3_flightIndex_12 (CRep.kL hC (by assumption) (by assumption)) e1 ?_
    refine gf_X3_79 C dX3_flightIndex_15 (FlIn.k hf) (FlIn.f64 hf) ?_
    refine h_iret C E dX3_flightIndex_18 (by decide) (by decide) ?_
    exact ⟨_, rfl, rfl, by unfold FLX; rw [e2]⟩

set_option maxRecDepth 100000 in
set_option maxHeartbeats 4000000 in
theorem k_X8_helloKey (l : Launch) (G : Gx) (P : Nat → Nat) (S : Sx) (μ : Mem) (hC : CRep G P S μ) (a b : Nat) (ha : a < 3) (hb : b < 3) (x : Int32) : Kon l yX8_helloKey cX8_helloKey 2 (some .int) 3 0 0 68 G [.ref (P (16 + 3 * a + b)), .int x] μ (pI fun v μ' => μ = μ' ∧ v = nI (MIX [1, x.toInt, (PW (NAME b) (211 + 307 * a) : Nat)])) noX := by
  refine Kon.ofG (by decide +kernel) (Nat.le_of_ble_eq_true rfl) (Nat.le_of_ble_eq_true rfl) (fun Z hZG C E NT MT => ?_)
  subst hZG
  have C : Cx Z RX8 cX8_helloKey 3 0 0 68 := C
  show HW Z 0 0 0 [some (.ref (P (16 + 3 * a + b))), some (.int x)] [] μ
  refine h_iconst (v := 1) C dX8_helloKey_0 (by decide) ?_
  refine h_iload_g C dX8_helloKey_1 rfl rfl ?_
  refine h_al_g C dX8_helloKey_2 rfl rfl rfv_r ?_
  refine gf_X8_428 C dX8_helloKey_3 (CRep.kL hC (by assumption) (by assumption)) (CRep.f130 hC (by assumption) (by assumption)) ?_
  refine h_callS3 C (k_X4_mix Z.l Z.G _ _ _ _) cw_X8_394 st_X4_mix dX8_helloKey_6 (by first | decide | exact Nat.le_of_ble_eq_true rfl) (by decide) (by decide) (by decide) (by decide) (kI fun r1 μ1 hp1 => ?_) kN
  obtain ⟨rfl, rfl⟩ := hp1
  refine h_iret C E dX8_helloKey_9 (by decide) (by decide) ?_
  exact ⟨_, rfl, rfl, by rw [nI_toInt (n := PW (NAME b) (211 + 307 * a)) (by have := PW_lt (NAME b) (211 + 307 * a); omega)]; rfl⟩

theorem SL0 {P : Nat → Nat} {μ : Mem} {a b : Nat} : SL P μ a b 0 = μ.fr 133 (P (16 + 3 * a + b)) := rfl
theorem SL1 {P : Nat → Nat} {μ : Mem} {a b : Nat} : SL P μ a b 1 = μ.fr 134 (P (16 + 3 * a + b)) := rfl
theorem SL2 {P : Nat → Nat} {μ : Mem} {a b : Nat} : SL P μ a b 2 = μ.fr 135 (P (16 + 3 * a + b)) := rfl
set_option maxRecDepth 100000 in
set_option maxHeartbeats 4000000 in
theorem k_X3_sessionAt (l : Launch) (G : Gx) (P : Nat → Nat) (S : Sx) (μ : Mem) (hC : CRep G P S μ) (a b : Nat) (ha : a < 3) (hb : b < 3) (x : Int32) (w : Nat) (hw : w < 3) (hx : x = nI w) : Kon l yX3_sessionAt cX3_sessionAt 2 (some (.object "Burrowline$Session")) 0 0 0 0 G [.ref (P (16 + 3 * a + b)), .int x] μ (pO (fun μ' => μ = μ' ∧ S.ses a b w = none) (fun s μ' => μ = μ' ∧ ∃ r, S.ses a b w = some r ∧ SL P μ a b w = some s ∧ SesIn μ a b w s r)) noX := by
  refine Kon.ofG (by decide +kernel) (Nat.le_of_ble_eq_true rfl) (Nat.le_of_ble_eq_true rfl) (fun Z hZG C E NT MT => ?_)
  subst hZG
  have C : Cx Z RX3 cX3_sessionAt 0 0 0 0 := C
  show HW Z 0 0 0 [some (.ref (P (16 + 3 * a + b))), some (.int x)] [] μ
  subst hx
  refine h_iload_g C dX3_sessionAt_0 rfl rfl ?_
  have hw9 : w = 0 ∨ w = 1 ∨ w = 2 := by omega
  rcases hw9 with rfl | rfl | rfl
  · refine h_lookup (tgt := 28) C dX3_sessionAt_1 (by decide) (by rfl) (by decide) ?_
    refine h_al_g C dX3_sessionAt_28 rfl rfl rfv_r ?_
    rcases CRep.c133 hC ha hb with ⟨e1, e2⟩ | ⟨s, r, e1, e2, hs⟩
    · refine gn_X3_18 C dX3_sessionAt_29 (CRep.kL hC ha hb) e1 ?_
      refine h_aret (r := none) C E (by first | exact Or.inl ⟨_, rfl⟩ | exact Or.inr ⟨_, rfl⟩) dX3_sessionAt_32 (by decide) (by decide) ?_
      exact Or.inl ⟨rfl, rfl, e2⟩
    · refine gs_X3_18 C dX3_sessionAt_29 (CRep.kL hC ha hb) e1 ?_
      refine h_aret (r := (some _)) C E (by first | exact Or.inl ⟨_, rfl⟩ | exact Or.inr ⟨_, rfl⟩) dX3_sessionAt_32 (by decide) (by decide) ?_
      exact Or.inr ⟨_, rfl, rfl, r, e2, e1, hs⟩
  · refine h_lookup (tgt := 33) C dX3_sessionAt_1 (by decide) (by rfl) (by decide) ?_
    refine h_al_g C dX3_sessionAt_33 rfl rfl rfv_r ?_
    rcases CRep.c134 hC ha hb with ⟨e1, e2⟩ | ⟨s, r, e1, e2, hs⟩
    · refine gn_X3_22 C dX3_sessionAt_34 (CRep.kL hC ha hb) e1 ?_
      refine h_aret (r := none) C E (by first | exact Or.inl ⟨_, rfl⟩ | exact Or.inr ⟨_, rfl⟩) dX3_sessionAt_37 (by decide) (by decide) ?_
      exact Or.inl ⟨rfl, rfl, e2⟩
    · refine gs_X3_22 C dX3_sessionAt_34 (CRep.kL hC ha hb) e1 ?_
      refine h_aret (r := (some _)) C E (by first | exact Or.inl ⟨_, rfl⟩ | exact Or.inr ⟨_, rfl⟩) dX3_sessionAt_37 (by decide) (by decide) ?_
      exact Or.inr ⟨_, rfl, rfl, r, e2, e1, hs⟩
  · refine h_lookup (tgt := 38) C dX3_sessionAt_1 (by decide) (by rfl) (by decide) ?_
    refine h_al_g C dX3_sessionAt_38 rfl rfl rfv_r ?_
    rcases CRep.c135 hC ha hb with ⟨e1, e2⟩ | ⟨s, r, e1, e2, hs⟩
    · refine gn_X3_25 C dX3_sessionAt_39 (CRep.kL hC ha hb) e1 ?_
      refine h_aret (r := none) C E (by first | exact Or.inl ⟨_, rfl⟩ | exact Or.inr ⟨_, rfl⟩) dX3_sessionAt_42 (by decide) (by decide) ?_
      exact Or.inl ⟨rfl, rfl, e2⟩
    · refine gs_X3_25 C dX3_sessionAt_39 (CRep.kL hC ha hb) e1 ?_
      refine h_aret (r := (some _)) C E (by first | exact Or.inl ⟨_, rfl⟩ | exact Or.inr ⟨_, rfl⟩) dX3_sessionAt_42 (by decide) (by decide) ?_
      exact Or.inr ⟨_, rfl, rfl, r, e2, e1, hs⟩

/-- the slot whose session has the index n -/
def SWN (S : Sx) (a b : Nat) (n : Int32) (w : Nat) : Prop := w < 3 ∧ sIs S a b w n ∧ ∀ w', w' < w → ¬ sIs S a b w' n

set_option maxRecDepth 100000 in
set_option maxHeartbeats 4000000 in
theorem k_X3_sessionWith (l : Launch) (G : Gx) (P : Nat → Nat) (S : Sx) (μ : Mem) (hC : CRep G P S μ) (a b : Nat) (ha : a < 3) (hb : b < 3) (x : Int32) : Kon l yX3_sessionWith cX3_sessionWith 4 (some (.object "Burrowline$Session")) 1 0 0 21 G [.ref (P (16 + 3 * a + b)), .int x] μ (pO (fun μ' => μ = μ' ∧ ∀ w, w < 3 → ¬ sIs S a b w x) (fun s μ' => μ = μ' ∧ ∃ w r, SWN S a b x w ∧ S.ses a b w = some r ∧ SL P μ a b w = some s ∧ SesIn μ a b w s r)) noX := by
  refine Kon.ofG (by decide +kernel) (Nat.le_of_ble_eq_true rfl) (Nat.le_of_ble_eq_true rfl) (fun Z hZG C E NT MT => ?_)
  subst hZG
  have C : Cx Z RX3 cX3_sessionWith 1 0 0 21 := C
  show HW Z 0 0 0 [some (.ref (P (16 + 3 * a + b))), some (.int x), none, none] [] μ
  refine h_iconst (v := 0) C dX3_sessionWith_0 (by decide) ?_
  refine h_ist_2 C dX3_sessionWith_1 ct_i ?_
  refine h_iload_g C dX3_sessionWith_2 rfl rfl ?_
  refine h_iconst (v := 3) C dX3_sessionWith_3 (by decide) ?_
  refine h_icmp_ge (tgt := 33) C dX3_sessionWith_4 (by decide) (fun c1 => absurd c1 (by decide)) (fun c1 => ?_)
  refine h_al_g C dX3_sessionWith_7 rfl rfl rfv_r ?_
  refine h_iload_g C dX3_sessionWith_8 rfl rfl ?_
  refine h_callV1 (ci := 4) C (k_X3_sessionAt Z.l Z.G P S _ hC _ _ (by assumption) (by assumption) _ 0 (by decide) rfl) cw_X3_70 im_X3_sessionAt sl_X3_sessionAt rfl (by decide) (CRep.kL hC (by assumption) (by assumption)) dX3_sessionWith_9 (by first | decide | exact Nat.le_of_ble_eq_true rfl) (by decide) (by decide) (by decide) (by decide) (kO (fun μ1 hp1 => ?_) (fun r1 μ1 hp1 => ?_)) kN
  · obtain ⟨rfl, hn⟩ := hp1
    have n0 := sIs_no (n := x) hn
    refine h_ast_3 C dX3_sessionWith_12 ct_i rfv_n ?_
    refine h_al_g C dX3_sessionWith_13 rfl rfl rfv_n ?_
    refine h_ifnull_n (tgt := 27) C dX3_sessionWith_14 (by decide) ?_
    refine h_iinc_2 (q := 1) C dX3_sessionWith_27 (by decide) ct_i ?_
    rw [show (0 + 1 : Int32) = 1 from by decide]
    refine h_goto (tgt := 2) C dX3_sessionWith_30 (by decide) ?_
    refine h_iload_g C dX3_sessionWith_2 rfl rfl ?_
    refine h_iconst (v := 3) C dX3_sessionWith_3 (by decide) ?_
    refine h_icmp_ge (tgt := 33) C dX3_sessionWith_4 (by decide) (fun c2 => absurd c2 (by decide)) (fun c2 => ?_)
    refine h_al_g C dX3_sessionWith_7 rfl rfl rfv_r ?_
    refine h_iload_g C dX3_sessionWith_8 rfl rfl ?_
    refine h_callV1 (ci := 4) C (k_X3_sessionAt Z.l Z.G P S _ hC _ _ (by assumption) (by assumption) _ 1 (by decide) rfl) cw_X3_70 im_X3_sessionAt sl_X3_sessionAt rfl (by decide) (CRep.kL hC (by assumption) (by assumption)) dX3_sessionWith_9 (by first | decide | exact Nat.le_of_ble_eq_true rfl) (by decide) (by decide) (by decide) (by decide) (kO (fun μ2 hp2 => ?_) (fun r2 μ2 hp2 => ?_)) kN
    · obtain ⟨rfl, hn⟩ := hp2
      have n1 := sIs_no (n := x) hn
      refine h_ast_3 C dX3_sessionWith_12 ct_i rfv_n ?_
      refine h_al_g C dX3_sessionWith_13 rfl rfl rfv_n ?_
      refine h_ifnull_n (tgt := 27) C dX3_sessionWith_14 (by decide) ?_
      refine h_iinc_2 (q := 1) C dX3_sessionWith_27 (by decide) ct_i ?_
      rw [show (1 + 1 : Int32) = 2 from by decide]
      refine h_goto (tgt := 2) C dX3_sessionWith_30 (by decide) ?_
      refine h_iload_g C dX3_sessionWith_2 rfl rfl ?_
      refine h_iconst (v := 3) C dX3_sessionWith_3 (by decide) ?_
      refine h_icmp_ge (tgt := 33) C dX3_sessionWith_4 (by decide) (fun c3 => absurd c3 (by decide)) (fun c3 => ?_)
      refine h_al_g C dX3_sessionWith_7 rfl rfl rfv_r ?_
      refine h_iload_g C dX3_sessionWith_8 rfl rfl ?_
      refine h_callV1 (ci := 4) C (k_X3_sessionAt Z.l Z.G P S _ hC _ _ (by assumption) (by assumption) _ 2 (by decide) rfl) cw_X3_70 im_X3_sessionAt sl_X3_sessionAt rfl (by decide) (CRep.kL hC (by assumption) (by assumption)) dX3_sessionWith_9 (by first | decide | exact Nat.le_of_ble_eq_true rfl) (by decide) (by decide) (by decide) (by decide) (kO (fun μ3 hp3 => ?_) (fun r3 μ3 hp3 => ?_)) kN
      · obtain ⟨rfl, hn⟩ := hp3
        have n2 := sIs_no (n := x) hn
        refine h_ast_3 C dX3_sessionWith_12 ct_i rfv_n ?_
        refine h_al_g C dX3_sessionWith_13 rfl rfl rfv_n ?_
        refine h_ifnull_n (tgt := 27) C dX3_sessionWith_14 (by decide) ?_
        refine h_iinc_2 (q := 1) C dX3_sessionWith_27 (by decide) ct_i ?_
        rw [show (2 + 1 : Int32) = 3 from by decide]
        refine h_goto (tgt := 2) C dX3_sessionWith_30 (by decide) ?_
        refine h_iload_g C dX3_sessionWith_2 rfl rfl ?_
        refine h_iconst (v := 3) C dX3_sessionWith_3 (by decide) ?_
        refine h_icmp_ge (tgt := 33) C dX3_sessionWith_4 (by decide) (fun c4 => ?_) (fun c4 => absurd (by decide) c4)
        refine h_null C dX3_sessionWith_33 ?_
        refine h_aret (r := none) C E (by first | exact Or.inl ⟨_, rfl⟩ | exact Or.inr ⟨_, rfl⟩) dX3_sessionWith_34 (by decide) (by decide) ?_
        exact Or.inl ⟨rfl, rfl, fun w h => by
            have h9 : w = 0 ∨ w = 1 ∨ w = 2 := by omega
            rcases h9 with rfl | rfl | rfl <;> assumption⟩
      · obtain ⟨rfl, r2, hr2, hsl, hs⟩ := hp3
        refine h_ast_3 C dX3_sessionWith_12 ct_i rfv_r ?_
        refine h_al_g C dX3_sessionWith_13 rfl rfl rfv_r ?_
        refine h_ifnull_r C dX3_sessionWith_14 ?_
        refine h_al_g C dX3_sessionWith_17 rfl rfl rfv_r ?_
        refine gf_X3_74 C dX3_sessionWith_18 (SesIn.k hs) (SesIn.f224 hs) ?_
        refine h_iload_g C dX3_sessionWith_21 rfl rfl ?_
        refine h_icmp_ne (tgt := 27) C dX3_sessionWith_22 (by decide) (fun c9 => ?_) (fun c9 => ?_)
        · have n2 := sIs_ne hr2 c9
          refine h_iinc_2 (q := 1) C dX3_sessionWith_27 (by decide) ct_i ?_
          rw [show (2 + 1 : Int32) = 3 from by decide]
          refine h_goto (tgt := 2) C dX3_sessionWith_30 (by decide) ?_
          refine h_iload_g C dX3_sessionWith_2 rfl rfl ?_
          refine h_iconst (v := 3) C dX3_sessionWith_3 (by decide) ?_
          refine h_icmp_ge (tgt := 33) C dX3_sessionWith_4 (by decide) (fun c6 => ?_) (fun c6 => absurd (by decide) c6)
          refine h_null C dX3_sessionWith_33 ?_
          refine h_aret (r := none) C E (by first | exact Or.inl ⟨_, rfl⟩ | exact Or.inr ⟨_, rfl⟩) dX3_sessionWith_34 (by decide) (by decide) ?_
          exact Or.inl ⟨rfl, rfl, fun w h => by
              have h9 : w = 0 ∨ w = 1 ∨ w = 2 := by omega
              rcases h9 with rfl | rfl | rfl <;> assumption⟩
        · have c9 := c9
          refine h_al_g C dX3_sessionWith_25 rfl rfl rfv_r ?_
          refine h_aret (r := (some _)) C E (by first | exact Or.inl ⟨_, rfl⟩ | exact Or.inr ⟨_, rfl⟩) dX3_sessionWith_26 (by decide) (by decide) ?_
          exact Or.inr ⟨_, rfl, rfl, 2, _, ⟨by decide, ⟨r2, hr2, c9⟩, fun w' h => by
              have h9 : w' = 0 ∨ w' = 1 := by omega
              rcases h9 with rfl | rfl <;> assumption⟩, hr2, hsl, hs⟩
    · obtain ⟨rfl, r1, hr1, hsl, hs⟩ := hp2
      refine h_ast_3 C dX3_sessionWith_12 ct_i rfv_r ?_
      refine h_al_g C dX3_sessionWith_13 rfl rfl rfv_r ?_
      refine h_ifnull_r C dX3_sessionWith_14 ?_
      refine h_al_g C dX3_sessionWith_17 rfl rfl rfv_r ?_
      refine gf_X3_74 C dX3_sessionWith_18 (SesIn.k hs) (SesIn.f224 hs) ?_
      refine h_iload_g C dX3_sessionWith_21 rfl rfl ?_
      refine h_icmp_ne (tgt := 27) C dX3_sessionWith_22 (by decide) (fun c9 => ?_) (fun c9 => ?_)
      · have n1 := sIs_ne hr1 c9
        refine h_iinc_2 (q := 1) C dX3_sessionWith_27 (by decide) ct_i ?_
        rw [show (1 + 1 : Int32) = 2 from by decide]
        refine h_goto (tgt := 2) C dX3_sessionWith_30 (by decide) ?_
        refine h_iload_g C dX3_sessionWith_2 rfl rfl ?_
        refine h_iconst (v := 3) C dX3_sessionWith_3 (by decide) ?_
        refine h_icmp_ge (tgt := 33) C dX3_sessionWith_4 (by decide) (fun c8 => absurd c8 (by decide)) (fun c8 => ?_)
        refine h_al_g C dX3_sessionWith_7 rfl rfl rfv_r ?_
        refine h_iload_g C dX3_sessionWith_8 rfl rfl ?_
        refine h_callV1 (ci := 4) C (k_X3_sessionAt Z.l Z.G P S _ hC _ _ (by assumption) (by assumption) _ 2 (by decide) rfl) cw_X3_70 im_X3_sessionAt sl_X3_sessionAt rfl (by decide) (CRep.kL hC (by assumption) (by assumption)) dX3_sessionWith_9 (by first | decide | exact Nat.le_of_ble_eq_true rfl) (by decide) (by decide) (by decide) (by decide) (kO (fun μ4 hp4 => ?_) (fun r4 μ4 hp4 => ?_)) kN
        · obtain ⟨rfl, hn⟩ := hp4
          have n2 := sIs_no (n := x) hn
          refine h_ast_3 C dX3_sessionWith_12 ct_i rfv_n ?_
          refine h_al_g C dX3_sessionWith_13 rfl rfl rfv_n ?_
          refine h_ifnull_n (tgt := 27) C dX3_sessionWith_14 (by decide) ?_
          refine h_iinc_2 (q := 1) C dX3_sessionWith_27 (by decide) ct_i ?_
          rw [show (2 + 1 : Int32) = 3 from by decide]
          refine h_goto (tgt := 2) C dX3_sessionWith_30 (by decide) ?_
          refine h_iload_g C dX3_sessionWith_2 rfl rfl ?_
          refine h_iconst (v := 3) C dX3_sessionWith_3 (by decide) ?_
          refine h_icmp_ge (tgt := 33) C dX3_sessionWith_4 (by decide) (fun c9 => ?_) (fun c9 => absurd (by decide) c9)
          refine h_null C dX3_sessionWith_33 ?_
          refine h_aret (r := none) C E (by first | exact Or.inl ⟨_, rfl⟩ | exact Or.inr ⟨_, rfl⟩) dX3_sessionWith_34 (by decide) (by decide) ?_
          exact Or.inl ⟨rfl, rfl, fun w h => by
              have h9 : w = 0 ∨ w = 1 ∨ w = 2 := by omega
              rcases h9 with rfl | rfl | rfl <;> assumption⟩
        · obtain ⟨rfl, r2, hr2, hsl, hs⟩ := hp4
          refine h_ast_3 C dX3_sessionWith_12 ct_i rfv_r ?_
          refine h_al_g C dX3_sessionWith_13 rfl rfl rfv_r ?_
          refine h_ifnull_r C dX3_sessionWith_14 ?_
          refine h_al_g C dX3_sessionWith_17 rfl rfl rfv_r ?_
          refine gf_X3_74 C dX3_sessionWith_18 (SesIn.k hs) (SesIn.f224 hs) ?_
          refine h_iload_g C dX3_sessionWith_21 rfl rfl ?_
          refine h_icmp_ne (tgt := 27) C dX3_sessionWith_22 (by decide) (fun c9 => ?_) (fun c9 => ?_)
          · have n2 := sIs_ne hr2 c9
            refine h_iinc_2 (q := 1) C dX3_sessionWith_27 (by decide) ct_i ?_
            rw [show (2 + 1 : Int32) = 3 from by decide]
            refine h_goto (tgt := 2) C dX3_sessionWith_30 (by decide) ?_
            refine h_iload_g C dX3_sessionWith_2 rfl rfl ?_
            refine h_iconst (v := 3) C dX3_sessionWith_3 (by decide) ?_
            refine h_icmp_ge (tgt := 33) C dX3_sessionWith_4 (by decide) (fun c11 => ?_) (fun c11 => absurd (by decide) c11)
            refine h_null C dX3_sessionWith_33 ?_
            refine h_aret (r := none) C E (by first | exact Or.inl ⟨_, rfl⟩ | exact Or.inr ⟨_, rfl⟩) dX3_sessionWith_34 (by decide) (by decide) ?_
            exact Or.inl ⟨rfl, rfl, fun w h => by
                have h9 : w = 0 ∨ w = 1 ∨ w = 2 := by omega
                rcases h9 with rfl | rfl | rfl <;> assumption⟩
          · have c9 := c9
            refine h_al_g C dX3_sessionWith_25 rfl rfl rfv_r ?_
            refine h_aret (r := (some _)) C E (by first | exact Or.inl ⟨_, rfl⟩ | exact Or.inr ⟨_, rfl⟩) dX3_sessionWith_26 (by decide) (by decide) ?_
            exact Or.inr ⟨_, rfl, rfl, 2, _, ⟨by decide, ⟨r2, hr2, c9⟩, fun w' h => by
                have h9 : w' = 0 ∨ w' = 1 := by omega
                rcases h9 with rfl | rfl <;> assumption⟩, hr2, hsl, hs⟩
      · have c9 := c9
        refine h_al_g C dX3_sessionWith_25 rfl rfl rfv_r ?_
        refine h_aret (r := (some _)) C E (by first | exact Or.inl ⟨_, rfl⟩ | exact Or.inr ⟨_, rfl⟩) dX3_sessionWith_26 (by decide) (by decide) ?_
        exact Or.inr ⟨_, rfl, rfl, 1, _, ⟨by decide, ⟨r1, hr1, c9⟩, fun w' h => by
            have h9 : w' = 0 := by omega
            rcases h9 with rfl <;> assumption⟩, hr1, hsl, hs⟩
  · obtain ⟨rfl, r0, hr0, hsl, hs⟩ := hp1
    refine h_ast_3 C dX3_sessionWith_12 ct_i rfv_r ?_
    refine h_al_g C dX3_sessionWith_13 rfl rfl rfv_r ?_
    refine h_ifnull_r C dX3_sessionWith_14 ?_
    refine h_al_g C dX3_sessionWith_17 rfl rfl rfv_r ?_
    refine gf_X3_74 C dX3_sessionWith_18 (SesIn.k hs) (SesIn.f224 hs) ?_
    refine h_iload_g C dX3_sessionWith_21 rfl rfl ?_
    refine h_icmp_ne (tgt := 27) C dX3_sessionWith_22 (by decide) (fun c9 => ?_) (fun c9 => ?_)
    · have n0 := sIs_ne hr0 c9
      refine h_iinc_2 (q := 1) C dX3_sessionWith_27 (by decide) ct_i ?_
      rw [show (0 + 1 : Int32) = 1 from by decide]
      refine h_goto (tgt := 2) C dX3_sessionWith_30 (by decide) ?_
      refine h_iload_g C dX3_sessionWith_2 rfl rfl ?_
      refine h_iconst (v := 3) C dX3_sessionWith_3 (by decide) ?_
      refine h_icmp_ge (tgt := 33) C dX3_sessionWith_4 (by decide) (fun c13 => absurd c13 (by decide)) (fun c13 => ?_)
      refine h_al_g C dX3_sessionWith_7 rfl rfl rfv_r ?_
      refine h_iload_g C dX3_sessionWith_8 rfl rfl ?_
      refine h_callV1 (ci := 4) C (k_X3_sessionAt Z.l Z.G P S _ hC _ _ (by assumption) (by assumption) _ 1 (by decide) rfl) cw_X3_70 im_X3_sessionAt sl_X3_sessionAt rfl (by decide) (CRep.kL hC (by assumption) (by assumption)) dX3_sessionWith_9 (by first | decide | exact Nat.le_of_ble_eq_true rfl) (by decide) (by decide) (by decide) (by decide) (kO (fun μ5 hp5 => ?_) (fun r5 μ5 hp5 => ?_)) kN
      · obtain ⟨rfl, hn⟩ := hp5
        have n1 := sIs_no (n := x) hn
        refine h_ast_3 C dX3_sessionWith_12 ct_i rfv_n ?_
        refine h_al_g C dX3_sessionWith_13 rfl rfl rfv_n ?_
        refine h_ifnull_n (tgt := 27) C dX3_sessionWith_14 (by decide) ?_
        refine h_iinc_2 (q := 1) C dX3_sessionWith_27 (by decide) ct_i ?_
        rw [show (1 + 1 : Int32) = 2 from by decide]
        refine h_goto (tgt := 2) C dX3_sessionWith_30 (by decide) ?_
        refine h_iload_g C dX3_sessionWith_2 rfl rfl ?_
        refine h_iconst (v := 3) C dX3_sessionWith_3 (by decide) ?_
        refine h_icmp_ge (tgt := 33) C dX3_sessionWith_4 (by decide) (fun c14 => absurd c14 (by decide)) (fun c14 => ?_)
        refine h_al_g C dX3_sessionWith_7 rfl rfl rfv_r ?_
        refine h_iload_g C dX3_sessionWith_8 rfl rfl ?_
        refine h_callV1 (ci := 4) C (k_X3_sessionAt Z.l Z.G P S _ hC _ _ (by assumption) (by assumption) _ 2 (by decide) rfl) cw_X3_70 im_X3_sessionAt sl_X3_sessionAt rfl (by decide) (CRep.kL hC (by assumption) (by assumption)) dX3_sessionWith_9 (by first | decide | exact Nat.le_of_ble_eq_true rfl) (by decide) (by decide) (by decide) (by decide) (kO (fun μ6 hp6 => ?_) (fun r6 μ6 hp6 => ?_)) kN
        · obtain ⟨rfl, hn⟩ := hp6
          have n2 := sIs_no (n := x) hn
          refine h_ast_3 C dX3_sessionWith_12 ct_i rfv_n ?_
          refine h_al_g C dX3_sessionWith_13 rfl rfl rfv_n ?_
          refine h_ifnull_n (tgt := 27) C dX3_sessionWith_14 (by decide) ?_
          refine h_iinc_2 (q := 1) C dX3_sessionWith_27 (by decide) ct_i ?_
          rw [show (2 + 1 : Int32) = 3 from by decide]
          refine h_goto (tgt := 2) C dX3_sessionWith_30 (by decide) ?_
          refine h_iload_g C dX3_sessionWith_2 rfl rfl ?_
          refine h_iconst (v := 3) C dX3_sessionWith_3 (by decide) ?_
          refine h_icmp_ge (tgt := 33) C dX3_sessionWith_4 (by decide) (fun c15 => ?_) (fun c15 => absurd (by decide) c15)
          refine h_null C dX3_sessionWith_33 ?_
          refine h_aret (r := none) C E (by first | exact Or.inl ⟨_, rfl⟩ | exact Or.inr ⟨_, rfl⟩) dX3_sessionWith_34 (by decide) (by decide) ?_
          exact Or.inl ⟨rfl, rfl, fun w h => by
              have h9 : w = 0 ∨ w = 1 ∨ w = 2 := by omega
              rcases h9 with rfl | rfl | rfl <;> assumption⟩
        · obtain ⟨rfl, r2, hr2, hsl, hs⟩ := hp6
          refine h_ast_3 C dX3_sessionWith_12 ct_i rfv_r ?_
          refine h_al_g C dX3_sessionWith_13 rfl rfl rfv_r ?_
          refine h_ifnull_r C dX3_sessionWith_14 ?_
          refine h_al_g C dX3_sessionWith_17 rfl rfl rfv_r ?_
          refine gf_X3_74 C dX3_sessionWith_18 (SesIn.k hs) (SesIn.f224 hs) ?_
          refine h_iload_g C dX3_sessionWith_21 rfl rfl ?_
          refine h_icmp_ne (tgt := 27) C dX3_sessionWith_22 (by decide) (fun c9 => ?_) (fun c9 => ?_)
          · have n2 := sIs_ne hr2 c9
            refine h_iinc_2 (q := 1) C dX3_sessionWith_27 (by decide) ct_i ?_
            rw [show (2 + 1 : Int32) = 3 from by decide]
            refine h_goto (tgt := 2) C dX3_sessionWith_30 (by decide) ?_
            refine h_iload_g C dX3_sessionWith_2 rfl rfl ?_
            refine h_iconst (v := 3) C dX3_sessionWith_3 (by decide) ?_
            refine h_icmp_ge (tgt := 33) C dX3_sessionWith_4 (by decide) (fun c17 => ?_) (fun c17 => absurd (by decide) c17)
            refine h_null C dX3_sessionWith_33 ?_
            refine h_aret (r := none) C E (by first | exact Or.inl ⟨_, rfl⟩ | exact Or.inr ⟨_, rfl⟩) dX3_sessionWith_34 (by decide) (by decide) ?_
            exact Or.inl ⟨rfl, rfl, fun w h => by
                have h9 : w = 0 ∨ w = 1 ∨ w = 2 := by omega
                rcases h9 with rfl | rfl | rfl <;> assumption⟩
          · have c9 := c9
            refine h_al_g C dX3_sessionWith_25 rfl rfl rfv_r ?_
            refine h_aret (r := (some _)) C E (by first | exact Or.inl ⟨_, rfl⟩ | exact Or.inr ⟨_, rfl⟩) dX3_sessionWith_26 (by decide) (by decide) ?_
            exact Or.inr ⟨_, rfl, rfl, 2, _, ⟨by decide, ⟨r2, hr2, c9⟩, fun w' h => by
                have h9 : w' = 0 ∨ w' = 1 := by omega
                rcases h9 with rfl | rfl <;> assumption⟩, hr2, hsl, hs⟩
      · obtain ⟨rfl, r1, hr1, hsl, hs⟩ := hp5
        refine h_ast_3 C dX3_sessionWith_12 ct_i rfv_r ?_
        refine h_al_g C dX3_sessionWith_13 rfl rfl rfv_r ?_
        refine h_ifnull_r C dX3_sessionWith_14 ?_
        refine h_al_g C dX3_sessionWith_17 rfl rfl rfv_r ?_
        refine gf_X3_74 C dX3_sessionWith_18 (SesIn.k hs) (SesIn.f224 hs) ?_
        refine h_iload_g C dX3_sessionWith_21 rfl rfl ?_
        refine h_icmp_ne (tgt := 27) C dX3_sessionWith_22 (by decide) (fun c9 => ?_) (fun c9 => ?_)
        · have n1 := sIs_ne hr1 c9
          refine h_iinc_2 (q := 1) C dX3_sessionWith_27 (by decide) ct_i ?_
          rw [show (1 + 1 : Int32) = 2 from by decide]
          refine h_goto (tgt := 2) C dX3_sessionWith_30 (by decide) ?_
          refine h_iload_g C dX3_sessionWith_2 rfl rfl ?_
          refine h_iconst (v := 3) C dX3_sessionWith_3 (by decide) ?_
          refine h_icmp_ge (tgt := 33) C dX3_sessionWith_4 (by decide) (fun c19 => absurd c19 (by decide)) (fun c19 => ?_)
          refine h_al_g C dX3_sessionWith_7 rfl rfl rfv_r ?_
          refine h_iload_g C dX3_sessionWith_8 rfl rfl ?_
          refine h_callV1 (ci := 4) C (k_X3_sessionAt Z.l Z.G P S _ hC _ _ (by assumption) (by assumption) _ 2 (by decide) rfl) cw_X3_70 im_X3_sessionAt sl_X3_sessionAt rfl (by decide) (CRep.kL hC (by assumption) (by assumption)) dX3_sessionWith_9 (by first | decide | exact Nat.le_of_ble_eq_true rfl) (by decide) (by decide) (by decide) (by decide) (kO (fun μ7 hp7 => ?_) (fun r7 μ7 hp7 => ?_)) kN
          · obtain ⟨rfl, hn⟩ := hp7
            have n2 := sIs_no (n := x) hn
            refine h_ast_3 C dX3_sessionWith_12 ct_i rfv_n ?_
            refine h_al_g C dX3_sessionWith_13 rfl rfl rfv_n ?_
            refine h_ifnull_n (tgt := 27) C dX3_sessionWith_14 (by decide) ?_
            refine h_iinc_2 (q := 1) C dX3_sessionWith_27 (by decide) ct_i ?_
            rw [show (2 + 1 : Int32) = 3 from by decide]
            refine h_goto (tgt := 2) C dX3_sessionWith_30 (by decide) ?_
            refine h_iload_g C dX3_sessionWith_2 rfl rfl ?_
            refine h_iconst (v := 3) C dX3_sessionWith_3 (by decide) ?_
            refine h_icmp_ge (tgt := 33) C dX3_sessionWith_4 (by decide) (fun c20 => ?_) (fun c20 => absurd (by decide) c20)
            refine h_null C dX3_sessionWith_33 ?_
            refine h_aret (r := none) C E (by first | exact Or.inl ⟨_, rfl⟩ | exact Or.inr ⟨_, rfl⟩) dX3_sessionWith_34 (by decide) (by decide) ?_
            exact Or.inl ⟨rfl, rfl, fun w h => by
                have h9 : w = 0 ∨ w = 1 ∨ w = 2 := by omega
                rcases h9 with rfl | rfl | rfl <;> assumption⟩
          · obtain ⟨rfl, r2, hr2, hsl, hs⟩ := hp7
            refine h_ast_3 C dX3_sessionWith_12 ct_i rfv_r ?_
            refine h_al_g C dX3_sessionWith_13 rfl rfl rfv_r ?_
            refine h_ifnull_r C dX3_sessionWith_14 ?_
            refine h_al_g C dX3_sessionWith_17 rfl rfl rfv_r ?_
            refine gf_X3_74 C dX3_sessionWith_18 (SesIn.k hs) (SesIn.f224 hs) ?_
            refine h_iload_g C dX3_sessionWith_21 rfl rfl ?_
            refine h_icmp_ne (tgt := 27) C dX3_sessionWith_22 (by decide) (fun c9 => ?_) (fun c9 => ?_)
            · have n2 := sIs_ne hr2 c9
              refine h_iinc_2 (q := 1) C dX3_sessionWith_27 (by decide) ct_i ?_
              rw [show (2 + 1 : Int32) = 3 from by decide]
              refine h_goto (tgt := 2) C dX3_sessionWith_30 (by decide) ?_
              refine h_iload_g C dX3_sessionWith_2 rfl rfl ?_
              refine h_iconst (v := 3) C dX3_sessionWith_3 (by decide) ?_
              refine h_icmp_ge (tgt := 33) C dX3_sessionWith_4 (by decide) (fun c22 => ?_) (fun c22 => absurd (by decide) c22)
              refine h_null C dX3_sessionWith_33 ?_
              refine h_aret (r := none) C E (by first | exact Or.inl ⟨_, rfl⟩ | exact Or.inr ⟨_, rfl⟩) dX3_sessionWith_34 (by decide) (by decide) ?_
              exact Or.inl ⟨rfl, rfl, fun w h => by
                  have h9 : w = 0 ∨ w = 1 ∨ w = 2 := by omega
                  rcases h9 with rfl | rfl | rfl <;> assumption⟩
            · have c9 := c9
              refine h_al_g C dX3_sessionWith_25 rfl rfl rfv_r ?_
              refine h_aret (r := (some _)) C E (by first | exact Or.inl ⟨_, rfl⟩ | exact Or.inr ⟨_, rfl⟩) dX3_sessionWith_26 (by decide) (by decide) ?_
              exact Or.inr ⟨_, rfl, rfl, 2, _, ⟨by decide, ⟨r2, hr2, c9⟩, fun w' h => by
                  have h9 : w' = 0 ∨ w' = 1 := by omega
                  rcases h9 with rfl | rfl <;> assumption⟩, hr2, hsl, hs⟩
        · have c9 := c9
          refine h_al_g C dX3_sessionWith_25 rfl rfl rfv_r ?_
          refine h_aret (r := (some _)) C E (by first | exact Or.inl ⟨_, rfl⟩ | exact Or.inr ⟨_, rfl⟩) dX3_sessionWith_26 (by decide) (by decide) ?_
          exact Or.inr ⟨_, rfl, rfl, 1, _, ⟨by decide, ⟨r1, hr1, c9⟩, fun w' h => by
              have h9 : w' = 0 := by omega
              rcases h9 with rfl <;> assumption⟩, hr1, hsl, hs⟩
    · have c9 := c9
      refine h_al_g C dX3_sessionWith_25 rfl rfl rfv_r ?_
      refine h_aret (r := (some _)) C E (by first | exact Or.inl ⟨_, rfl⟩ | exact Or.inr ⟨_, rfl⟩) dX3_sessionWith_26 (by decide) (by decide) ?_
      exact Or.inr ⟨_, rfl, rfl, 0, _, ⟨by decide, ⟨r0, hr0, c9⟩, fun w' h => absurd h (Nat.not_lt_zero _)⟩, hr0, hsl, hs⟩

def FWN (S : Sx) (e : Nat) (n : Int32) (b : Nat) : Prop := b < 3 ∧ fIs S e b n ∧ ∀ b', b' < b → ¬ fIs S e b' n
def LWN (S : Sx) (e : Nat) (n : Int32) (b : Nat) : Prop := b < 3 ∧ (∃ w, w < 3 ∧ sIs S e b w n) ∧ ∀ b', b' < b → ∀ w, w < 3 → ¬ sIs S e b' w n
set_option maxRecDepth 100000 in
set_option maxHeartbeats 4000000 in
theorem k_X0_linkWithFlight (l : Launch) (G : Gx) (P : Nat → Nat) (S : Sx) (μ : Mem) (hC : CRep G P S μ) (e : Nat) (he : e < 3) (x : Int32) : Kon l yX0_linkWithFlight cX0_linkWithFlight 6 (some (.object "Burrowline$Link")) 0 0 0 0 G [.ref (P (4 + e)), .int x] μ (pO (fun μ' => μ = μ' ∧ ∀ b, b < 3 → ¬ fIs S e b x) (fun s μ' => μ = μ' ∧ ∃ b, FWN S e x b ∧ s = P (16 + 3 * e + b))) noX := by
  refine Kon.ofG (by decide +kernel) (Nat.le_of_ble_eq_true rfl) (Nat.le_of_ble_eq_true rfl) (fun Z hZG C E NT MT => ?_)
  subst hZG
  have C : Cx Z RX0 cX0_linkWithFlight 0 0 0 0 := C
  show HW Z 0 0 0 [some (.ref (P (4 + e))), some (.int x), none, none, none, none] [] μ
  refine h_al_g C dX0_linkWithFlight_0 rfl rfl rfv_r ?_
  refine gs_X0_11 C dX0_linkWithFlight_1 (CRep.kE hC (by assumption)) (CRep.f34 hC (by assumption)) ?_
  refine h_ast_2 C dX0_linkWithFlight_4 ct_i rfv_r ?_
  refine h_al_g C dX0_linkWithFlight_5 rfl rfl rfv_r ?_
  refine h_alen C dX0_linkWithFlight_6 (⟨by rw [CRep.kLA hC (by assumption)]; decide, by rw [CRep.kLA hC (by assumption)]; decide⟩) (CRep.lnL hC (by assumption)) ?_
  rw [show (Int32.ofNat 3 : Int32) = 3 from rfl]
  refine h_ist_3 C dX0_linkWithFlight_7 ct_r ?_
  refine h_iconst (v := 0) C dX0_linkWithFlight_8 (by decide) ?_
  refine h_ist_4 C dX0_linkWithFlight_9 ct_i ?_
  refine h_iload_w C dX0_linkWithFlight_11 rfl ?_
  refine h_iload_g C dX0_linkWithFlight_13 rfl rfl ?_
  refine h_icmp_ge (tgt := 52) C dX0_linkWithFlight_14 (by decide) (fun c1 => absurd c1 (by decide)) (fun c1 => ?_)
  refine h_al_g C dX0_linkWithFlight_17 rfl rfl rfv_r ?_
  refine h_iload_w C dX0_linkWithFlight_18 rfl ?_
  refine h_aald (r := some _) C dX0_linkWithFlight_20 (⟨by rw [CRep.kLA hC (by assumption)]; decide, by rw [CRep.kLA hC (by assumption)]; decide⟩) (by rw [CRep.lnL hC he]; exact vp_in_nI (n := 0) (by decide) (by decide)) (CRep.eL hC he (b := 0) (by decide)) ?_
  refine h_ast_5 C dX0_linkWithFlight_21 ct_i rfv_r ?_
  refine h_al_w (j := 0) C dX0_linkWithFlight_23 rfl rfv_r ?_
  rcases CRep.c136 hC he (b := 0) (by decide) with ⟨e1, e2⟩ | ⟨s, r0, e1, hr0, hf⟩
  · have n0 := fIs_no (n := x) e2
    refine gn_X0_50 C dX0_linkWithFlight_25 (CRep.kL hC he (b := 0) (by decide)) e1 ?_
    refine h_ifnull_n (tgt := 46) C dX0_linkWithFlight_28 (by decide) ?_
    refine h_iinc_4 (q := 1) C dX0_linkWithFlight_46 (by decide) ct_i ?_
    rw [show (0 + 1 : Int32) = 1 from by decide]
    refine h_goto (tgt := 11) C dX0_linkWithFlight_49 (by decide) ?_
    refine h_iload_w C dX0_linkWithFlight_11 rfl ?_
    refine h_iload_g C dX0_linkWithFlight_13 rfl rfl ?_
    refine h_icmp_ge (tgt := 52) C dX0_linkWithFlight_14 (by decide) (fun c2 => absurd c2 (by decide)) (fun c2 => ?_)
    refine h_al_g C dX0_linkWithFlight_17 rfl rfl rfv_r ?_
    refine h_iload_w C dX0_linkWithFlight_18 rfl ?_
    refine h_aald (r := some _) C dX0_linkWithFlight_20 (⟨by rw [CRep.kLA hC (by assumption)]; decide, by rw [CRep.kLA hC (by assumption)]; decide⟩) (by rw [CRep.lnL hC he]; exact vp_in_nI (n := 1) (by decide) (by decide)) (CRep.eL hC he (b := 1) (by decide)) ?_
    refine h_ast_5 C dX0_linkWithFlight_21 ct_i rfv_r ?_
    refine h_al_w (j := 0) C dX0_linkWithFlight_23 rfl rfv_r ?_
    rcases CRep.c136 hC he (b := 1) (by decide) with ⟨e1, e2⟩ | ⟨s, r1, e1, hr1, hf⟩
    · have n1 := fIs_no (n := x) e2
      refine gn_X0_50 C dX0_linkWithFlight_25 (CRep.kL hC he (b := 1) (by decide)) e1 ?_
      refine h_ifnull_n (tgt := 46) C dX0_linkWithFlight_28 (by decide) ?_
      refine h_iinc_4 (q := 1) C dX0_linkWithFlight_46 (by decide) ct_i ?_
      rw [show (1 + 1 : Int32) = 2 from by decide]
      refine h_goto (tgt := 11) C dX0_linkWithFlight_49 (by decide) ?_
      refine h_iload_w C dX0_linkWithFlight_11 rfl ?_
      refine h_iload_g C dX0_linkWithFlight_13 rfl rfl ?_
      refine h_icmp_ge (tgt := 52) C dX0_linkWithFlight_14 (by decide) (fun c3 => absurd c3 (by decide)) (fun c3 => ?_)
      refine h_al_g C dX0_linkWithFlight_17 rfl rfl rfv_r ?_
      refine h_iload_w C dX0_linkWithFlight_18 rfl ?_
      refine h_aald (r := some _) C dX0_linkWithFlight_20 (⟨by rw [CRep.kLA hC (by assumption)]; decide, by rw [CRep.kLA hC (by assumption)]; decide⟩) (by rw [CRep.lnL hC he]; exact vp_in_nI (n := 2) (by decide) (by decide)) (CRep.eL hC he (b := 2) (by decide)) ?_
      refine h_ast_5 C dX0_linkWithFlight_21 ct_i rfv_r ?_
      refine h_al_w (j := 0) C dX0_linkWithFlight_23 rfl rfv_r ?_
      rcases CRep.c136 hC he (b := 2) (by decide) with ⟨e1, e2⟩ | ⟨s, r2, e1, hr2, hf⟩
      · have n2 := fIs_no (n := x) e2
        refine gn_X0_50 C dX0_linkWithFlight_25 (CRep.kL hC he (b := 2) (by decide)) e1 ?_
        refine h_ifnull_n (tgt := 46) C dX0_linkWithFlight_28 (by decide) ?_
        refine h_iinc_4 (q := 1) C dX0_linkWithFlight_46 (by decide) ct_i ?_
        rw [show (2 + 1 : Int32) = 3 from by decide]
        refine h_goto (tgt := 11) C dX0_linkWithFlight_49 (by decide) ?_
        refine h_iload_w C dX0_linkWithFlight_11 rfl ?_
        refine h_iload_g C dX0_linkWithFlight_13 rfl rfl ?_
        refine h_icmp_ge (tgt := 52) C dX0_linkWithFlight_14 (by decide) (fun c4 => ?_) (fun c4 => absurd (by decide) c4)
        refine h_null C dX0_linkWithFlight_52 ?_
        refine h_aret (r := none) C E (by first | exact Or.inl ⟨_, rfl⟩ | exact Or.inr ⟨_, rfl⟩) dX0_linkWithFlight_53 (by decide) (by decide) ?_
        exact Or.inl ⟨rfl, rfl, fun b h => by
            have h9 : b = 0 ∨ b = 1 ∨ b = 2 := by omega
            rcases h9 with rfl | rfl | rfl <;> assumption⟩
      · refine gs_X0_50 C dX0_linkWithFlight_25 (CRep.kL hC he (b := 2) (by decide)) e1 ?_
        refine h_ifnull_r C dX0_linkWithFlight_28 ?_
        refine h_al_w (j := 0) C dX0_linkWithFlight_31 rfl rfv_r ?_
        refine gs_X0_50 C dX0_linkWithFlight_33 (CRep.kL hC he (b := 2) (by decide)) e1 ?_
        refine gf_X0_54 C dX0_linkWithFlight_36 (FlIn.k hf) (FlIn.f64 hf) ?_
        refine h_iload_g C dX0_linkWithFlight_39 rfl rfl ?_
        refine h_icmp_ne (tgt := 46) C dX0_linkWithFlight_40 (by decide) (fun c9 => ?_) (fun c9 => ?_)
        · have n2 := fIs_ne hr2 c9
          refine h_iinc_4 (q := 1) C dX0_linkWithFlight_46 (by decide) ct_i ?_
          rw [show (2 + 1 : Int32) = 3 from by decide]
          refine h_goto (tgt := 11) C dX0_linkWithFlight_49 (by decide) ?_
          refine h_iload_w C dX0_linkWithFlight_11 rfl ?_
          refine h_iload_g C dX0_linkWithFlight_13 rfl rfl ?_
          refine h_icmp_ge (tgt := 52) C dX0_linkWithFlight_14 (by decide) (fun c6 => ?_) (fun c6 => absurd (by decide) c6)
          refine h_null C dX0_linkWithFlight_52 ?_
          refine h_aret (r := none) C E (by first | exact Or.inl ⟨_, rfl⟩ | exact Or.inr ⟨_, rfl⟩) dX0_linkWithFlight_53 (by decide) (by decide) ?_
          exact Or.inl ⟨rfl, rfl, fun b h => by
              have h9 : b = 0 ∨ b = 1 ∨ b = 2 := by omega
              rcases h9 with rfl | rfl | rfl <;> assumption⟩
        · have c9 := c9
          refine h_al_w (j := 0) C dX0_linkWithFlight_43 rfl rfv_r ?_
          refine h_aret (r := (some _)) C E (by first | exact Or.inl ⟨_, rfl⟩ | exact Or.inr ⟨_, rfl⟩) dX0_linkWithFlight_45 (by decide) (by decide) ?_
          exact Or.inr ⟨_, rfl, rfl, 2, ⟨by decide, ⟨r2, hr2, c9⟩, fun b' h => by
              have h9 : b' = 0 ∨ b' = 1 := by omega
              rcases h9 with rfl | rfl <;> assumption⟩, rfl⟩
    · refine gs_X0_50 C dX0_linkWithFlight_25 (CRep.kL hC he (b := 1) (by decide)) e1 ?_
      refine h_ifnull_r C dX0_linkWithFlight_28 ?_
      refine h_al_w (j := 0) C dX0_linkWithFlight_31 rfl rfv_r ?_
      refine gs_X0_50 C dX0_linkWithFlight_33 (CRep.kL hC he (b := 1) (by decide)) e1 ?_
      refine gf_X0_54 C dX0_linkWithFlight_36 (FlIn.k hf) (FlIn.f64 hf) ?_
      refine h_iload_g C dX0_linkWithFlight_39 rfl rfl ?_
      refine h_icmp_ne (tgt := 46) C dX0_linkWithFlight_40 (by decide) (fun c9 => ?_) (fun c9 => ?_)
      · have n1 := fIs_ne hr1 c9
        refine h_iinc_4 (q := 1) C dX0_linkWithFlight_46 (by decide) ct_i ?_
        rw [show (1 + 1 : Int32) = 2 from by decide]
        refine h_goto (tgt := 11) C dX0_linkWithFlight_49 (by decide) ?_
        refine h_iload_w C dX0_linkWithFlight_11 rfl ?_
        refine h_iload_g C dX0_linkWithFlight_13 rfl rfl ?_
        refine h_icmp_ge (tgt := 52) C dX0_linkWithFlight_14 (by decide) (fun c8 => absurd c8 (by decide)) (fun c8 => ?_)
        refine h_al_g C dX0_linkWithFlight_17 rfl rfl rfv_r ?_
        refine h_iload_w C dX0_linkWithFlight_18 rfl ?_
        refine h_aald (r := some _) C dX0_linkWithFlight_20 (⟨by rw [CRep.kLA hC (by assumption)]; decide, by rw [CRep.kLA hC (by assumption)]; decide⟩) (by rw [CRep.lnL hC he]; exact vp_in_nI (n := 2) (by decide) (by decide)) (CRep.eL hC he (b := 2) (by decide)) ?_
        refine h_ast_5 C dX0_linkWithFlight_21 ct_i rfv_r ?_
        refine h_al_w (j := 0) C dX0_linkWithFlight_23 rfl rfv_r ?_
        rcases CRep.c136 hC he (b := 2) (by decide) with ⟨e1, e2⟩ | ⟨s, r2, e1, hr2, hf⟩
        · have n2 := fIs_no (n := x) e2
          refine gn_X0_50 C dX0_linkWithFlight_25 (CRep.kL hC he (b := 2) (by decide)) e1 ?_
          refine h_ifnull_n (tgt := 46) C dX0_linkWithFlight_28 (by decide) ?_
          refine h_iinc_4 (q := 1) C dX0_linkWithFlight_46 (by decide) ct_i ?_
          rw [show (2 + 1 : Int32) = 3 from by decide]
          refine h_goto (tgt := 11) C dX0_linkWithFlight_49 (by decide) ?_
          refine h_iload_w C dX0_linkWithFlight_11 rfl ?_
          refine h_iload_g C dX0_linkWithFlight_13 rfl rfl ?_
          refine h_icmp_ge (tgt := 52) C dX0_linkWithFlight_14 (by decide) (fun c9 => ?_) (fun c9 => absurd (by decide) c9)
          refine h_null C dX0_linkWithFlight_52 ?_
          refine h_aret (r := none) C E (by first | exact Or.inl ⟨_, rfl⟩ | exact Or.inr ⟨_, rfl⟩) dX0_linkWithFlight_53 (by decide) (by decide) ?_
          exact Or.inl ⟨rfl, rfl, fun b h => by
              have h9 : b = 0 ∨ b = 1 ∨ b = 2 := by omega
              rcases h9 with rfl | rfl | rfl <;> assumption⟩
        · refine gs_X0_50 C dX0_linkWithFlight_25 (CRep.kL hC he (b := 2) (by decide)) e1 ?_
          refine h_ifnull_r C dX0_linkWithFlight_28 ?_
          refine h_al_w (j := 0) C dX0_linkWithFlight_31 rfl rfv_r ?_
          refine gs_X0_50 C dX0_linkWithFlight_33 (CRep.kL hC he (b := 2) (by decide)) e1 ?_
          refine gf_X0_54 C dX0_linkWithFlight_36 (FlIn.k hf) (FlIn.f64 hf) ?_
          refine h_iload_g C dX0_linkWithFlight_39 rfl rfl ?_
          refine h_icmp_ne (tgt := 46) C dX0_linkWithFlight_40 (by decide) (fun c9 => ?_) (fun c9 => ?_)
          · have n2 := fIs_ne hr2 c9
            refine h_iinc_4 (q := 1) C dX0_linkWithFlight_46 (by decide) ct_i ?_
            rw [show (2 + 1 : Int32) = 3 from by decide]
            refine h_goto (tgt := 11) C dX0_linkWithFlight_49 (by decide) ?_
            refine h_iload_w C dX0_linkWithFlight_11 rfl ?_
            refine h_iload_g C dX0_linkWithFlight_13 rfl rfl ?_
            refine h_icmp_ge (tgt := 52) C dX0_linkWithFlight_14 (by decide) (fun c11 => ?_) (fun c11 => absurd (by decide) c11)
            refine h_null C dX0_linkWithFlight_52 ?_
            refine h_aret (r := none) C E (by first | exact Or.inl ⟨_, rfl⟩ | exact Or.inr ⟨_, rfl⟩) dX0_linkWithFlight_53 (by decide) (by decide) ?_
            exact Or.inl ⟨rfl, rfl, fun b h => by
                have h9 : b = 0 ∨ b = 1 ∨ b = 2 := by omega
                rcases h9 with rfl | rfl | rfl <;> assumption⟩
          · have c9 := c9
            refine h_al_w (j := 0) C dX0_linkWithFlight_43 rfl rfv_r ?_
            refine h_aret (r := (some _)) C E (by first | exact Or.inl ⟨_, rfl⟩ | exact Or.inr ⟨_, rfl⟩) dX0_linkWithFlight_45 (by decide) (by decide) ?_
            exact Or.inr ⟨_, rfl, rfl, 2, ⟨by decide, ⟨r2, hr2, c9⟩, fun b' h => by
                have h9 : b' = 0 ∨ b' = 1 := by omega
                rcases h9 with rfl | rfl <;> assumption⟩, rfl⟩
      · have c9 := c9
        refine h_al_w (j := 0) C dX0_linkWithFlight_43 rfl rfv_r ?_
        refine h_aret (r := (some _)) C E (by first | exact Or.inl ⟨_, rfl⟩ | exact Or.inr ⟨_, rfl⟩) dX0_linkWithFlight_45 (by decide) (by decide) ?_
        exact Or.inr ⟨_, rfl, rfl, 1, ⟨by decide, ⟨r1, hr1, c9⟩, fun b' h => by
            have h9 : b' = 0 := by omega
            rcases h9 with rfl <;> assumption⟩, rfl⟩
  · refine gs_X0_50 C dX0_linkWithFlight_25 (CRep.kL hC he (b := 0) (by decide)) e1 ?_
    refine h_ifnull_r C dX0_linkWithFlight_28 ?_
    refine h_al_w (j := 0) C dX0_linkWithFlight_31 rfl rfv_r ?_
    refine gs_X0_50 C dX0_linkWithFlight_33 (CRep.kL hC he (b := 0) (by decide)) e1 ?_
    refine gf_X0_54 C dX0_linkWithFlight_36 (FlIn.k hf) (FlIn.f64 hf) ?_
    refine h_iload_g C dX0_linkWithFlight_39 rfl rfl ?_
    refine h_icmp_ne (tgt := 46) C dX0_linkWithFlight_40 (by decide) (fun c9 => ?_) (fun c9 => ?_)
    · have n0 := fIs_ne hr0 c9
      refine h_iinc_4 (q := 1) C dX0_linkWithFlight_46 (by decide) ct_i ?_
      rw [show (0 + 1 : Int32) = 1 from by decide]
      refine h_goto (tgt := 11) C dX0_linkWithFlight_49 (by decide) ?_
      refine h_iload_w C dX0_linkWithFlight_11 rfl ?_
      refine h_iload_g C dX0_linkWithFlight_13 rfl rfl ?_
      refine h_icmp_ge (tgt := 52) C dX0_linkWithFlight_14 (by decide) (fun c13 => absurd c13 (by decide)) (fun c13 => ?_)
      refine h_al_g C dX0_linkWithFlight_17 rfl rfl rfv_r ?_
      refine h_iload_w C dX0_linkWithFlight_18 rfl ?_
      refine h_aald (r := some _) C dX0_linkWithFlight_20 (⟨by rw [CRep.kLA hC (by assumption)]; decide, by rw [CRep.kLA hC (by assumption)]; decide⟩) (by rw [CRep.lnL hC he]; exact vp_in_nI (n := 1) (by decide) (by decide)) (CRep.eL hC he (b := 1) (by decide)) ?_
      refine h_ast_5 C dX0_linkWithFlight_21 ct_i rfv_r ?_
      refine h_al_w (j := 0) C dX0_linkWithFlight_23 rfl rfv_r ?_
      rcases CRep.c136 hC he (b := 1) (by decide) with ⟨e1, e2⟩ | ⟨s, r1, e1, hr1, hf⟩
      · have n1 := fIs_no (n := x) e2
        refine gn_X0_50 C dX0_linkWithFlight_25 (CRep.kL hC he (b := 1) (by decide)) e1 ?_
        refine h_ifnull_n (tgt := 46) C dX0_linkWithFlight_28 (by decide) ?_
        refine h_iinc_4 (q := 1) C dX0_linkWithFlight_46 (by decide) ct_i ?_
        rw [show (1 + 1 : Int32) = 2 from by decide]
        refine h_goto (tgt := 11) C dX0_linkWithFlight_49 (by decide) ?_
        refine h_iload_w C dX0_linkWithFlight_11 rfl ?_
        refine h_iload_g C dX0_linkWithFlight_13 rfl rfl ?_
        refine h_icmp_ge (tgt := 52) C dX0_linkWithFlight_14 (by decide) (fun c14 => absurd c14 (by decide)) (fun c14 => ?_)
        refine h_al_g C dX0_linkWithFlight_17 rfl rfl rfv_r ?_
        refine h_iload_w C dX0_linkWithFlight_18 rfl ?_
        refine h_aald (r := some _) C dX0_linkWithFlight_20 (⟨by rw [CRep.kLA hC (by assumption)]; decide, by rw [CRep.kLA hC (by assumption)]; decide⟩) (by rw [CRep.lnL hC he]; exact vp_in_nI (n := 2) (by decide) (by decide)) (CRep.eL hC he (b := 2) (by decide)) ?_
        refine h_ast_5 C dX0_linkWithFlight_21 ct_i rfv_r ?_
        refine h_al_w (j := 0) C dX0_linkWithFlight_23 rfl rfv_r ?_
        rcases CRep.c136 hC he (b := 2) (by decide) with ⟨e1, e2⟩ | ⟨s, r2, e1, hr2, hf⟩
        · have n2 := fIs_no (n := x) e2
          refine gn_X0_50 C dX0_linkWithFlight_25 (CRep.kL hC he (b := 2) (by decide)) e1 ?_
          refine h_ifnull_n (tgt := 46) C dX0_linkWithFlight_28 (by decide) ?_
          refine h_iinc_4 (q := 1) C dX0_linkWithFlight_46 (by decide) ct_i ?_
          rw [show (2 + 1 : Int32) = 3 from by decide]
          refine h_goto (tgt := 11) C dX0_linkWithFlight_49 (by decide) ?_
          refine h_iload_w C dX0_linkWithFlight_11 rfl ?_
          refine h_iload_g C dX0_linkWithFlight_13 rfl rfl ?_
          refine h_icmp_ge (tgt := 52) C dX0_linkWithFlight_14 (by decide) (fun c15 => ?_) (fun c15 => absurd (by decide) c15)
          refine h_null C dX0_linkWithFlight_52 ?_
          refine h_aret (r := none) C E (by first | exact Or.inl ⟨_, rfl⟩ | exact Or.inr ⟨_, rfl⟩) dX0_linkWithFlight_53 (by decide) (by decide) ?_
          exact Or.inl ⟨rfl, rfl, fun b h => by
              have h9 : b = 0 ∨ b = 1 ∨ b = 2 := by omega
              rcases h9 with rfl | rfl | rfl <;> assumption⟩
        · refine gs_X0_50 C dX0_linkWithFlight_25 (CRep.kL hC he (b := 2) (by decide)) e1 ?_
          refine h_ifnull_r C dX0_linkWithFlight_28 ?_
          refine h_al_w (j := 0) C dX0_linkWithFlight_31 rfl rfv_r ?_
          refine gs_X0_50 C dX0_linkWithFlight_33 (CRep.kL hC he (b := 2) (by decide)) e1 ?_
          refine gf_X0_54 C dX0_linkWithFlight_36 (FlIn.k hf) (FlIn.f64 hf) ?_
          refine h_iload_g C dX0_linkWithFlight_39 rfl rfl ?_
          refine h_icmp_ne (tgt := 46) C dX0_linkWithFlight_40 (by decide) (fun c9 => ?_) (fun c9 => ?_)
          · have n2 := fIs_ne hr2 c9
            refine h_iinc_4 (q := 1) C dX0_linkWithFlight_46 (by decide) ct_i ?_
            rw [show (2 + 1 : Int32) = 3 from by decide]
            refine h_goto (tgt := 11) C dX0_linkWithFlight_49 (by decide) ?_
            refine h_iload_w C dX0_linkWithFlight_11 rfl ?_
            refine h_iload_g C dX0_linkWithFlight_13 rfl rfl ?_
            refine h_icmp_ge (tgt := 52) C dX0_linkWithFlight_14 (by decide) (fun c17 => ?_) (fun c17 => absurd (by decide) c17)
            refine h_null C dX0_linkWithFlight_52 ?_
            refine h_aret (r := none) C E (by first | exact Or.inl ⟨_, rfl⟩ | exact Or.inr ⟨_, rfl⟩) dX0_linkWithFlight_53 (by decide) (by decide) ?_
            exact Or.inl ⟨rfl, rfl, fun b h => by
                have h9 : b = 0 ∨ b = 1 ∨ b = 2 := by omega
                rcases h9 with rfl | rfl | rfl <;> assumption⟩
          · have c9 := c9
            refine h_al_w (j := 0) C dX0_linkWithFlight_43 rfl rfv_r ?_
            refine h_aret (r := (some _)) C E (by first | exact Or.inl ⟨_, rfl⟩ | exact Or.inr ⟨_, rfl⟩) dX0_linkWithFlight_45 (by decide) (by decide) ?_
            exact Or.inr ⟨_, rfl, rfl, 2, ⟨by decide, ⟨r2, hr2, c9⟩, fun b' h => by
                have h9 : b' = 0 ∨ b' = 1 := by omega
                rcases h9 with rfl | rfl <;> assumption⟩, rfl⟩
      · refine gs_X0_50 C dX0_linkWithFlight_25 (CRep.kL hC he (b := 1) (by decide)) e1 ?_
        refine h_ifnull_r C dX0_linkWithFlight_28 ?_
        refine h_al_w (j := 0) C dX0_linkWithFlight_31 rfl rfv_r ?_
        refine gs_X0_50 C dX0_linkWithFlight_33 (CRep.kL hC he (b := 1) (by decide)) e1 ?_
        refine gf_X0_54 C dX0_linkWithFlight_36 (FlIn.k hf) (FlIn.f64 hf) ?_
        refine h_iload_g C dX0_linkWithFlight_39 rfl rfl ?_
        refine h_icmp_ne (tgt := 46) C dX0_linkWithFlight_40 (by decide) (fun c9 => ?_) (fun c9 => ?_)
        · have n1 := fIs_ne hr1 c9
          refine h_iinc_4 (q := 1) C dX0_linkWithFlight_46 (by decide) ct_i ?_
          rw [show (1 + 1 : Int32) = 2 from by decide]
          refine h_goto (tgt := 11) C dX0_linkWithFlight_49 (by decide) ?_
          refine h_iload_w C dX0_linkWithFlight_11 rfl ?_
          refine h_iload_g C dX0_linkWithFlight_13 rfl rfl ?_
          refine h_icmp_ge (tgt := 52) C dX0_linkWithFlight_14 (by decide) (fun c19 => absurd c19 (by decide)) (fun c19 => ?_)
          refine h_al_g C dX0_linkWithFlight_17 rfl rfl rfv_r ?_
          refine h_iload_w C dX0_linkWithFlight_18 rfl ?_
          refine h_aald (r := some _) C dX0_linkWithFlight_20 (⟨by rw [CRep.kLA hC (by assumption)]; decide, by rw [CRep.kLA hC (by assumption)]; decide⟩) (by rw [CRep.lnL hC he]; exact vp_in_nI (n := 2) (by decide) (by decide)) (CRep.eL hC he (b := 2) (by decide)) ?_
          refine h_ast_5 C dX0_linkWithFlight_21 ct_i rfv_r ?_
          refine h_al_w (j := 0) C dX0_linkWithFlight_23 rfl rfv_r ?_
          rcases CRep.c136 hC he (b := 2) (by decide) with ⟨e1, e2⟩ | ⟨s, r2, e1, hr2, hf⟩
          · have n2 := fIs_no (n := x) e2
            refine gn_X0_50 C dX0_linkWithFlight_25 (CRep.kL hC he (b := 2) (by decide)) e1 ?_
            refine h_ifnull_n (tgt := 46) C dX0_linkWithFlight_28 (by decide) ?_
            refine h_iinc_4 (q := 1) C dX0_linkWithFlight_46 (by decide) ct_i ?_
            rw [show (2 + 1 : Int32) = 3 from by decide]
            refine h_goto (tgt := 11) C dX0_linkWithFlight_49 (by decide) ?_
            refine h_iload_w C dX0_linkWithFlight_11 rfl ?_
            refine h_iload_g C dX0_linkWithFlight_13 rfl rfl ?_
            refine h_icmp_ge (tgt := 52) C dX0_linkWithFlight_14 (by decide) (fun c20 => ?_) (fun c20 => absurd (by decide) c20)
            refine h_null C dX0_linkWithFlight_52 ?_
            refine h_aret (r := none) C E (by first | exact Or.inl ⟨_, rfl⟩ | exact Or.inr ⟨_, rfl⟩) dX0_linkWithFlight_53 (by decide) (by decide) ?_
            exact Or.inl ⟨rfl, rfl, fun b h => by
                have h9 : b = 0 ∨ b = 1 ∨ b = 2 := by omega
                rcases h9 with rfl | rfl | rfl <;> assumption⟩
          · refine gs_X0_50 C dX0_linkWithFlight_25 (CRep.kL hC he (b := 2) (by decide)) e1 ?_
            refine h_ifnull_r C dX0_linkWithFlight_28 ?_
            refine h_al_w (j := 0) C dX0_linkWithFlight_31 rfl rfv_r ?_
            refine gs_X0_50 C dX0_linkWithFlight_33 (CRep.kL hC he (b := 2) (by decide)) e1 ?_
            refine gf_X0_54 C dX0_linkWithFlight_36 (FlIn.k hf) (FlIn.f64 hf) ?_
            refine h_iload_g C dX0_linkWithFlight_39 rfl rfl ?_
            refine h_icmp_ne (tgt := 46) C dX0_linkWithFlight_40 (by decide) (fun c9 => ?_) (fun c9 => ?_)
            · have n2 := fIs_ne hr2 c9
              refine h_iinc_4 (q := 1) C dX0_linkWithFlight_46 (by decide) ct_i ?_
              rw [show (2 + 1 : Int32) = 3 from by decide]
              refine h_goto (tgt := 11) C dX0_linkWithFlight_49 (by decide) ?_
              refine h_iload_w C dX0_linkWithFlight_11 rfl ?_
              refine h_iload_g C dX0_linkWithFlight_13 rfl rfl ?_
              refine h_icmp_ge (tgt := 52) C dX0_linkWithFlight_14 (by decide) (fun c22 => ?_) (fun c22 => absurd (by decide) c22)
              refine h_null C dX0_linkWithFlight_52 ?_
              refine h_aret (r := none) C E (by first | exact Or.inl ⟨_, rfl⟩ | exact Or.inr ⟨_, rfl⟩) dX0_linkWithFlight_53 (by decide) (by decide) ?_
              exact Or.inl ⟨rfl, rfl, fun b h => by
                  have h9 : b = 0 ∨ b = 1 ∨ b = 2 := by omega
                  rcases h9 with rfl | rfl | rfl <;> assumption⟩
            · have c9 := c9
              refine h_al_w (j := 0) C dX0_linkWithFlight_43 rfl rfv_r ?_
              refine h_aret (r := (some _)) C E (by first | exact Or.inl ⟨_, rfl⟩ | exact Or.inr ⟨_, rfl⟩) dX0_linkWithFlight_45 (by decide) (by decide) ?_
              exact Or.inr ⟨_, rfl, rfl, 2, ⟨by decide, ⟨r2, hr2, c9⟩, fun b' h => by
                  have h9 : b' = 0 ∨ b' = 1 := by omega
                  rcases h9 with rfl | rfl <;> assumption⟩, rfl⟩
        · have c9 := c9
          refine h_al_w (j := 0) C dX0_linkWithFlight_43 rfl rfv_r ?_
          refine h_aret (r := (some _)) C E (by first | exact Or.inl ⟨_, rfl⟩ | exact Or.inr ⟨_, rfl⟩) dX0_linkWithFlight_45 (by decide) (by decide) ?_
          exact Or.inr ⟨_, rfl, rfl, 1, ⟨by decide, ⟨r1, hr1, c9⟩, fun b' h => by
              have h9 : b' = 0 := by omega
              rcases h9 with rfl <;> assumption⟩, rfl⟩
    · have c9 := c9
      refine h_al_w (j := 0) C dX0_linkWithFlight_43 rfl rfv_r ?_
      refine h_aret (r := (some _)) C E (by first | exact Or.inl ⟨_, rfl⟩ | exact Or.inr ⟨_, rfl⟩) dX0_linkWithFlight_45 (by decide) (by decide) ?_
      exact Or.inr ⟨_, rfl, rfl, 0, ⟨by decide, ⟨r0, hr0, c9⟩, fun b' h => absurd h (Nat.not_lt_zero _)⟩, rfl⟩

set_option maxRecDepth 100000 in
set_option maxHeartbeats 4000000 in
theorem k_X0_linkWithSession (l : Launch) (G : Gx) (P : Nat → Nat) (S : Sx) (μ : Mem) (hC : CRep G P S μ) (e : Nat) (he : e < 3) (x : Int32) : Kon l yX0_linkWithSession cX0_linkWithSession 6 (some (.object "Burrowline$Link")) 2 0 0 44 G [.ref (P (4 + e)), .int x] μ (pO (fun μ' => μ = μ' ∧ ∀ b, b < 3 → ∀ w, w < 3 → ¬ sIs S e b w x) (fun s μ' => μ = μ' ∧ ∃ b, LWN S e x b ∧ s = P (16 + 3 * e + b))) noX := by
  refine Kon.ofG (by decide +kernel) (Nat.le_of_ble_eq_true rfl) (Nat.le_of_ble_eq_true rfl) (fun Z hZG C E NT MT => ?_)
  subst hZG
  have C : Cx Z RX0 cX0_linkWithSession 2 0 0 44 := C
  show HW Z 0 0 0 [some (.ref (P (4 + e))), some (.int x), none, none, none, none] [] μ
  refine h_al_g C dX0_linkWithSession_0 rfl rfl rfv_r ?_
  refine gs_X0_11 C dX0_linkWithSession_1 (CRep.kE hC (by assumption)) (CRep.f34 hC (by assumption)) ?_
  refine h_ast_2 C dX0_linkWithSession_4 ct_i rfv_r ?_
  refine h_al_g C dX0_linkWithSession_5 rfl rfl rfv_r ?_
  refine h_alen C dX0_linkWithSession_6 (⟨by rw [CRep.kLA hC (by assumption)]; decide, by rw [CRep.kLA hC (by assumption)]; decide⟩) (CRep.lnL hC (by assumption)) ?_
  rw [show (Int32.ofNat 3 : Int32) = 3 from rfl]
  refine h_ist_3 C dX0_linkWithSession_7 ct_r ?_
  refine h_iconst (v := 0) C dX0_linkWithSession_8 (by decide) ?_
  refine h_ist_4 C dX0_linkWithSession_9 ct_i ?_
  refine h_iload_w C dX0_linkWithSession_11 rfl ?_
  refine h_iload_g C dX0_linkWithSession_13 rfl rfl ?_
  refine h_icmp_ge (tgt := 41) C dX0_linkWithSession_14 (by decide) (fun c1 => absurd c1 (by decide)) (fun c1 => ?_)
  refine h_al_g C dX0_linkWithSession_17 rfl rfl rfv_r ?_
  refine h_iload_w C dX0_linkWithSession_18 rfl ?_
  refine h_aald (r := some _) C dX0_linkWithSession_20 (⟨by rw [CRep.kLA hC (by assumption)]; decide, by rw [CRep.kLA hC (by assumption)]; decide⟩) (by rw [CRep.lnL hC he]; exact vp_in_nI (n := 0) (by decide) (by decide)) (CRep.eL hC he (b := 0) (by decide)) ?_
  refine h_ast_5 C dX0_linkWithSession_21 ct_i rfv_r ?_
  refine h_al_w (j := 0) C dX0_linkWithSession_23 rfl rfv_r ?_
  refine h_iload_g C dX0_linkWithSession_25 rfl rfl ?_
  refine h_callV1 (ci := 4) C (k_X3_sessionWith Z.l Z.G P S _ hC _ 0 (by assumption) (by decide) x) cw_X0_59 im_X3_sessionWith sl_X3_sessionWith rfl (by decide) (CRep.kL hC he (b := 0) (by decide)) dX0_linkWithSession_26 (by first | decide | exact Nat.le_of_ble_eq_true rfl) (by decide) (by decide) (by decide) (by decide) (kO (fun μ1 hp1 => ?_) (fun r1 μ1 hp1 => ?_)) kN
  · obtain ⟨rfl, n0⟩ := hp1
    refine h_ifnull_n (tgt := 35) C dX0_linkWithSession_29 (by decide) ?_
    refine h_iinc_4 (q := 1) C dX0_linkWithSession_35 (by decide) ct_i ?_
    rw [show (0 + 1 : Int32) = 1 from by decide]
    refine h_goto (tgt := 11) C dX0_linkWithSession_38 (by decide) ?_
    refine h_iload_w C dX0_linkWithSession_11 rfl ?_
    refine h_iload_g C dX0_linkWithSession_13 rfl rfl ?_
    refine h_icmp_ge (tgt := 41) C dX0_linkWithSession_14 (by decide) (fun c2 => absurd c2 (by decide)) (fun c2 => ?_)
    refine h_al_g C dX0_linkWithSession_17 rfl rfl rfv_r ?_
    refine h_iload_w C dX0_linkWithSession_18 rfl ?_
    refine h_aald (r := some _) C dX0_linkWithSession_20 (⟨by rw [CRep.kLA hC (by assumption)]; decide, by rw [CRep.kLA hC (by assumption)]; decide⟩) (by rw [CRep.lnL hC he]; exact vp_in_nI (n := 1) (by decide) (by decide)) (CRep.eL hC he (b := 1) (by decide)) ?_
    refine h_ast_5 C dX0_linkWithSession_21 ct_i rfv_r ?_
    refine h_al_w (j := 0) C dX0_linkWithSession_23 rfl rfv_r ?_
    refine h_iload_g C dX0_linkWithSession_25 rfl rfl ?_
    refine h_callV1 (ci := 4) C (k_X3_sessionWith Z.l Z.G P S _ hC _ 1 (by assumption) (by decide) x) cw_X0_59 im_X3_sessionWith sl_X3_sessionWith rfl (by decide) (CRep.kL hC he (b := 1) (by decide)) dX0_linkWithSession_26 (by first | decide | exact Nat.le_of_ble_eq_true rfl) (by decide) (by decide) (by decide) (by decide) (kO (fun μ2 hp2 => ?_) (fun r2 μ2 hp2 => ?_)) kN
    · obtain ⟨rfl, n1⟩ := hp2
      refine h_ifnull_n (tgt := 35) C dX0_linkWithSession_29 (by decide) ?_
      refine h_iinc_4 (q := 1) C dX0_linkWithSession_35 (by decide) ct_i ?_
      rw [show (1 + 1 : Int32) = 2 from by decide]
      refine h_goto (tgt := 11) C dX0_linkWithSession_38 (by decide) ?_
      refine h_iload_w C dX0_linkWithSession_11 rfl ?_
      refine h_iload_g C dX0_linkWithSession_13 rfl rfl ?_
      refine h_icmp_ge (tgt := 41) C dX0_linkWithSession_14 (by decide) (fun c3 => absurd c3 (by decide)) (fun c3 => ?_)
      refine h_al_g C dX0_linkWithSession_17 rfl rfl rfv_r ?_
      refine h_iload_w C dX0_linkWithSession_18 rfl ?_
      refine h_aald (r := some _) C dX0_linkWithSession_20 (⟨by rw [CRep.kLA hC (by assumption)]; decide, by rw [CRep.kLA hC (by assumption)]; decide⟩) (by rw [CRep.lnL hC he]; exact vp_in_nI (n := 2) (by decide) (by decide)) (CRep.eL hC he (b := 2) (by decide)) ?_
      refine h_ast_5 C dX0_linkWithSession_21 ct_i rfv_r ?_
      refine h_al_w (j := 0) C dX0_linkWithSession_23 rfl rfv_r ?_
      refine h_iload_g C dX0_linkWithSession_25 rfl rfl ?_
      refine h_callV1 (ci := 4) C (k_X3_sessionWith Z.l Z.G P S _ hC _ 2 (by assumption) (by decide) x) cw_X0_59 im_X3_sessionWith sl_X3_sessionWith rfl (by decide) (CRep.kL hC he (b := 2) (by decide)) dX0_linkWithSession_26 (by first | decide | exact Nat.le_of_ble_eq_true rfl) (by decide) (by decide) (by decide) (by decide) (kO (fun μ3 hp3 => ?_) (fun r3 μ3 hp3 => ?_)) kN
      · obtain ⟨rfl, n2⟩ := hp3
        refine h_ifnull_n (tgt := 35) C dX0_linkWithSession_29 (by decide) ?_
        refine h_iinc_4 (q := 1) C dX0_linkWithSession_35 (by decide) ct_i ?_
        rw [show (2 + 1 : Int32) = 3 from by decide]
        refine h_goto (tgt := 11) C dX0_linkWithSession_38 (by decide) ?_
        refine h_iload_w C dX0_linkWithSession_11 rfl ?_
        refine h_iload_g C dX0_linkWithSession_13 rfl rfl ?_
        refine h_icmp_ge (tgt := 41) C dX0_linkWithSession_14 (by decide) (fun c4 => ?_) (fun c4 => absurd (by decide) c4)
        refine h_null C dX0_linkWithSession_41 ?_
        refine h_aret (r := none) C E (by first | exact Or.inl ⟨_, rfl⟩ | exact Or.inr ⟨_, rfl⟩) dX0_linkWithSession_42 (by decide) (by decide) ?_
        exact Or.inl ⟨rfl, rfl, fun b h => by
            have h9 : b = 0 ∨ b = 1 ∨ b = 2 := by omega
            rcases h9 with rfl | rfl | rfl <;> assumption⟩
      · obtain ⟨rfl, w, r, hw, hr, hsl, hs⟩ := hp3
        refine h_ifnull_r C dX0_linkWithSession_29 ?_
        refine h_al_w (j := 0) C dX0_linkWithSession_32 rfl rfv_r ?_
        refine h_aret (r := (some _)) C E (by first | exact Or.inl ⟨_, rfl⟩ | exact Or.inr ⟨_, rfl⟩) dX0_linkWithSession_34 (by decide) (by decide) ?_
        exact Or.inr ⟨_, rfl, rfl, 2, ⟨by decide, ⟨w, hw.1, hw.2.1⟩, fun b' h => by
            have h9 : b' = 0 ∨ b' = 1 := by omega
            rcases h9 with rfl | rfl <;> assumption⟩, rfl⟩
    · obtain ⟨rfl, w, r, hw, hr, hsl, hs⟩ := hp2
      refine h_ifnull_r C dX0_linkWithSession_29 ?_
      refine h_al_w (j := 0) C dX0_linkWithSession_32 rfl rfv_r ?_
      refine h_aret (r := (some _)) C E (by first | exact Or.inl ⟨_, rfl⟩ | exact Or.inr ⟨_, rfl⟩) dX0_linkWithSession_34 (by decide) (by decide) ?_
      exact Or.inr ⟨_, rfl, rfl, 1, ⟨by decide, ⟨w, hw.1, hw.2.1⟩, fun b' h => by
          have h9 : b' = 0 := by omega
          rcases h9 with rfl <;> assumption⟩, rfl⟩
  · obtain ⟨rfl, w, r, hw, hr, hsl, hs⟩ := hp1
    refine h_ifnull_r C dX0_linkWithSession_29 ?_
    refine h_al_w (j := 0) C dX0_linkWithSession_32 rfl rfv_r ?_
    refine h_aret (r := (some _)) C E (by first | exact Or.inl ⟨_, rfl⟩ | exact Or.inr ⟨_, rfl⟩) dX0_linkWithSession_34 (by decide) (by decide) ?_
    exact Or.inr ⟨_, rfl, rfl, 0, ⟨by decide, ⟨w, hw.1, hw.2.1⟩, fun b' h => absurd h (Nat.not_lt_zero _)⟩, rfl⟩

def PRI (p b : Int32) : List Row → Nat → Int32
  | [], _ => -1
  | r :: rs, j => if r 0 = p ∧ r 1 = b then nI j else PRI p b rs (j + 1)
def GVN (x : Int32) : List Row → Int32 → Int32 → Int32
  | [], _, peer => peer
  | r :: rs, most, peer => if most < r 1 ∧ TOPB x (r 1) = r 0 then GVN x rs (r 1) (r 2) else GVN x rs most peer
theorem RtAt.k {μ : Mem} {e p : Nat} {r : Row} (h : RtAt μ (KRT e) p r) : μ.kd p % 32 = 7 := by rw [h.1]; unfold KRT; omega
set_option maxRecDepth 100000 in
set_option maxHeartbeats 4000000 in
theorem lp_X0_placeOfRoute {Z : Zx} {Post : Option Value → Mem → Prop} {PostX : String → Mem → Prop} {rc rs mc ms : Nat} {P : Nat → Nat} {S : Sx} {μ : Mem} {e : Nat} {p b : Int32} (hC : CRep Z.G P S μ) (he : e < 3) (C : Cx Z RX0 cX0_placeOfRoute 3 rc rs 64) (E : Rt Z mc ms (some .int) Post PostX) {xs : List Nat} (hxs : ListAt Z.G μ (P (10 + e)) xs) (hLR : LR (RtAt μ (KRT e)) xs (S.rt e)) {k n : Nat} (hk : k ≤ mc) (hn : n ≤ ms) (hk2 : k ≤ rc) (hn2 : n ≤ rs) :
    ∀ (m j : Nat), j + m = xs.length → (∀ v, v = PRI p b ((S.rt e).drop j) j → Post (some (.int v)) μ) → ∀ z : Option Value, HW Z k n 2 [some (.ref (P (4 + e))), some (.int p), some (.int b), some (.int (nI j)), z] [] μ := by
  have hlen := hLR.1
  have hmx := hxs.2.1
  intro m
  induction m with
  | zero =>
    intro j hj hP z
    refine h_iload_g C dX0_placeOfRoute_2 rfl rfl ?_
    refine h_al_g C dX0_placeOfRoute_3 rfl rfl rfv_r ?_
    refine gs_X0_20 C dX0_placeOfRoute_4 (CRep.kE hC (by assumption)) (CRep.f35 hC (by assumption)) ?_
    refine h_callV0 (ci := 0) (a_ := .null) C (k_Jx4a65c_size_8abf5 Z.l Z.G _ xs _ hxs) cw_X0_63 im_Jx4a65c_size_8abf5 sl_Jx4a65c_size_8abf5 rfl (by decide) hxs.1 dX0_placeOfRoute_7 (by first | decide | exact Nat.le_of_ble_eq_true rfl) (by decide) (by decide) (by omega) (by omega) (kI fun r1 μ1 hp1 => ?_) kN
    obtain ⟨rfl, rfl⟩ := hp1
    refine h_icmp_ge (tgt := 52) C dX0_placeOfRoute_10 (by decide) (fun c1 => ?_) (fun c1 => absurd ((nI_le (by omega) (by omega))) c1)
    refine h_iconst (v := (-1)) C dX0_placeOfRoute_52 (by decide) ?_
    refine h_iret C E dX0_placeOfRoute_53 hk hn ?_
    refine hP _ ?_
    rw [List.drop_eq_nil_of_le (by omega)]
    rfl
  | succ m ih =>
    intro j hj hP z
    have hjl : j < xs.length := by omega
    have hi : xs[j]? = some xs[j] := List.getElem?_eq_getElem hjl
    have hj2 : (S.rt e)[j]? = some (S.rt e)[j] := List.getElem?_eq_getElem (by omega)
    have hle := hLR.2 _ _ _ hi hj2
    have q2 := hle.2.1
    have q3 := hle.2.2.1
    have q4 := hle.2.2.2
    have hk7 := RtAt.k hle
    have hdr : (S.rt e).drop j = (S.rt e)[j] :: (S.rt e).drop (j + 1) := List.drop_eq_getElem_cons (by omega)
    refine h_iload_g C dX0_placeOfRoute_2 rfl rfl ?_
    refine h_al_g C dX0_placeOfRoute_3 rfl rfl rfv_r ?_
    refine gs_X0_20 C dX0_placeOfRoute_4 (CRep.kE hC (by assumption)) (CRep.f35 hC (by assumption)) ?_
    refine h_callV0 (ci := 0) (a_ := .null) C (k_Jx4a65c_size_8abf5 Z.l Z.G _ xs _ hxs) cw_X0_63 im_Jx4a65c_size_8abf5 sl_Jx4a65c_size_8abf5 rfl (by decide) hxs.1 dX0_placeOfRoute_7 (by first | decide | exact Nat.le_of_ble_eq_true rfl) (by decide) (by decide) (by omega) (by omega) (kI fun r1 μ1 hp1 => ?_) kN
    obtain ⟨rfl, rfl⟩ := hp1
    refine h_icmp_ge (tgt := 52) C dX0_placeOfRoute_10 (by decide) (fun c1 => absurd c1 ((nI_ge (by omega) (by omega)))) (fun c1 => ?_)
    refine h_al_g C dX0_placeOfRoute_13 rfl rfl rfv_r ?_
    refine gs_X0_20 C dX0_placeOfRoute_14 (CRep.kE hC (by assumption)) (CRep.f35 hC (by assumption)) ?_
    refine h_iload_g C dX0_placeOfRoute_17 rfl rfl ?_
    refine h_callV1 (ci := 0) C (k_Jx4a65c_get_915e3 Z.l Z.G _ xs _ j _ _ hxs rfl hi) cw_X0_67 im_Jx4a65c_get_915e3 sl_Jx4a65c_get_915e3 rfl (by decide) hxs.1 dX0_placeOfRoute_18 (by first | decide | exact Nat.le_of_ble_eq_true rfl) (by decide) (by decide) (by omega) (by omega) (kA fun r2 μ2 hp2 => ?_) kN
    obtain ⟨rfl, rfl⟩ := hp2
    refine h_castO (ci := 6) C kl_X0_71 rfl (by decide) dX0_placeOfRoute_21 hk7 ?_
    refine h_ast_4 C dX0_placeOfRoute_24 ct_i rfv_r ?_
    refine h_al_w (j := 0) C dX0_placeOfRoute_26 rfl rfv_r ?_
    refine gf_X0_73 C dX0_placeOfRoute_28 hk7 q2 ?_
    refine h_iload_g C dX0_placeOfRoute_31 rfl rfl ?_
    refine h_icmp_ne (tgt := 46) C dX0_placeOfRoute_32 (by decide) (fun c8 => ?_) (fun c8 => ?_)
    · have hne : ¬ ((S.rt e)[j] 0 = p ∧ (S.rt e)[j] 1 = b) := fun h => c8 h.1
      refine h_iinc_3 (q := 1) C dX0_placeOfRoute_46 (by decide) ct_i ?_
      refine h_goto (tgt := 2) C dX0_placeOfRoute_49 (by decide) ?_
      rw [nI_1]
      exact ih (j + 1) (by omega) (fun v hv => hP v (by rw [hdr]; exact hv.trans (if_neg hne).symm)) _
    · refine h_al_w (j := 0) C dX0_placeOfRoute_35 rfl rfv_r ?_
      refine gf_X0_76 C dX0_placeOfRoute_37 hk7 q3 ?_
      refine h_iload_g C dX0_placeOfRoute_40 rfl rfl ?_
      refine h_icmp_ne (tgt := 46) C dX0_placeOfRoute_41 (by decide) (fun c7 => ?_) (fun c7 => ?_)
      · have hne : ¬ ((S.rt e)[j] 0 = p ∧ (S.rt e)[j] 1 = b) := fun h => c7 h.2
        refine h_iinc_3 (q := 1) C dX0_placeOfRoute_46 (by decide) ct_i ?_
        refine h_goto (tgt := 2) C dX0_placeOfRoute_49 (by decide) ?_
        rw [nI_1]
        exact ih (j + 1) (by omega) (fun v hv => hP v (by rw [hdr]; exact hv.trans (if_neg hne).symm)) _
      · refine h_iload_g C dX0_placeOfRoute_44 rfl rfl ?_
        refine h_iret C E dX0_placeOfRoute_45 hk hn ?_
        refine hP _ ?_
        rw [hdr]
        exact (if_pos ⟨c8, c7⟩).symm

set_option maxRecDepth 100000 in
set_option maxHeartbeats 4000000 in
theorem k_X0_placeOfRoute (l : Launch) (G : Gx) (P : Nat → Nat) (S : Sx) (μ : Mem) (hC : CRep G P S μ) (e : Nat) (he : e < 3) (p b : Int32) : Kon l yX0_placeOfRoute cX0_placeOfRoute 5 (some .int) 3 0 0 64 G [.ref (P (4 + e)), .int p, .int b] μ (pI fun v μ' => μ = μ' ∧ v = PRI p b (S.rt e) 0) noX := by
  refine Kon.ofG (by decide +kernel) (Nat.le_of_ble_eq_true rfl) (Nat.le_of_ble_eq_true rfl) (fun Z hZG C E NT MT => ?_)
  subst hZG
  have C : Cx Z RX0 cX0_placeOfRoute 3 0 0 64 := C
  show HW Z 0 0 0 [some (.ref (P (4 + e))), some (.int p), some (.int b), none, none] [] μ
  obtain ⟨xs, hxs, hnd, hLR⟩ := hC.2.2.2.2.2.2.2.2.2.2.2.2.1 e he
  refine h_iconst (v := 0) C dX0_placeOfRoute_0 (by decide) ?_
  refine h_ist_3 C dX0_placeOfRoute_1 ct_i ?_
  exact lp_X0_placeOfRoute hC he C E hxs hLR (Nat.le_refl _) (Nat.le_refl _) (Nat.le_refl _) (Nat.le_refl _) xs.length 0 (by omega) (fun v hv => ⟨v, rfl, rfl, hv⟩) none

set_option maxRecDepth 100000 in
set_option maxHeartbeats 4000000 in
theorem lp_X0_peerFor {Z : Zx} {Post : Option Value → Mem → Prop} {PostX : String → Mem → Prop} {rc rs mc ms : Nat} {P : Nat → Nat} {S : Sx} {μ : Mem} {e : Nat} {x : Int32} (hC : CRep Z.G P S μ) (he : e < 3) (C : Cx Z RX0 cX0_peerFor 3 rc rs 64) (E : Rt Z mc ms (some .int) Post PostX) {xs : List Nat} (hxs : ListAt Z.G μ (P (10 + e)) xs) (hLR : LR (RtAt μ (KRT e)) xs (S.rt e)) {k n : Nat} (hk : k ≤ mc) (hn : n ≤ ms) (hk2 : k ≤ rc) (hn2 : n ≤ rs) :
    ∀ (m j : Nat) (most peer : Int32), j + m = xs.length → (∀ v, v = GVN x ((S.rt e).drop j) most peer → Post (some (.int v)) μ) → ∀ z : Option Value, HW Z k n 7 [some (.ref (P (4 + e))), some (.int x), some (.int peer), some (.int most), some (.int (nI j)), z] [] μ := by
  have hlen := hLR.1
  have hmx := hxs.2.1
  intro m
  induction m with
  | zero =>
    intro j most peer hj hP z
    refine h_iload_w C dX0_peerFor_7 rfl ?_
    refine h_al_g C dX0_peerFor_9 rfl rfl rfv_r ?_
    refine gs_X0_20 C dX0_peerFor_10 (CRep.kE hC (by assumption)) (CRep.f35 hC (by assumption)) ?_
    refine h_callV0 (ci := 0) (a_ := .null) C (k_Jx4a65c_size_8abf5 Z.l Z.G _ xs _ hxs) cw_X0_63 im_Jx4a65c_size_8abf5 sl_Jx4a65c_size_8abf5 rfl (by decide) hxs.1 dX0_peerFor_13 (by first | decide | exact Nat.le_of_ble_eq_true rfl) (by decide) (by decide) (by omega) (by omega) (kI fun r1 μ1 hp1 => ?_) kN
    obtain ⟨rfl, rfl⟩ := hp1
    refine h_icmp_ge (tgt := 77) C dX0_peerFor_16 (by decide) (fun c1 => ?_) (fun c1 => absurd ((nI_le (by omega) (by omega))) c1)
    refine h_iload_g C dX0_peerFor_77 rfl rfl ?_
    refine h_iret C E dX0_peerFor_78 hk hn ?_
    refine hP _ ?_
    rw [List.drop_eq_nil_of_le (by omega)]
    rfl
  | succ m ih =>
    intro j most peer hj hP z
    have hjl : j < xs.length := by omega
    have hi : xs[j]? = some xs[j] := List.getElem?_eq_getElem hjl
    have hj2 : (S.rt e)[j]? = some (S.rt e)[j] := List.getElem?_eq_getElem (by omega)
    have hle := hLR.2 _ _ _ hi hj2
    have q2 := hle.2.1
    have q3 := hle.2.2.1
    have q4 := hle.2.2.2
    have hk7 := RtAt.k hle
    have hdr : (S.rt e).drop j = (S.rt e)[j] :: (S.rt e).drop (j + 1) := List.drop_eq_getElem_cons (by omega)
    refine h_iload_w C dX0_peerFor_7 rfl ?_
    refine h_al_g C dX0_peerFor_9 rfl rfl rfv_r ?_
    refine gs_X0_20 C dX0_peerFor_10 (CRep.kE hC (by assumption)) (CRep.f35 hC (by assumption)) ?_
    refine h_callV0 (ci := 0) (a_ := .null) C (k_Jx4a65c_size_8abf5 Z.l Z.G _ xs _ hxs) cw_X0_63 im_Jx4a65c_size_8abf5 sl_Jx4a65c_size_8abf5 rfl (by decide) hxs.1 dX0_peerFor_13 (by first | decide | exact Nat.le_of_ble_eq_true rfl) (by decide) (by decide) (by omega) (by omega) (kI fun r1 μ1 hp1 => ?_) kN
    obtain ⟨rfl, rfl⟩ := hp1
    refine h_icmp_ge (tgt := 77) C dX0_peerFor_16 (by decide) (fun c1 => absurd c1 ((nI_ge (by omega) (by omega)))) (fun c1 => ?_)
    refine h_al_g C dX0_peerFor_19 rfl rfl rfv_r ?_
    refine gs_X0_20 C dX0_peerFor_20 (CRep.kE hC (by assumption)) (CRep.f35 hC (by assumption)) ?_
    refine h_iload_w C dX0_peerFor_23 rfl ?_
    refine h_callV1 (ci := 0) C (k_Jx4a65c_get_915e3 Z.l Z.G _ xs _ j _ _ hxs rfl hi) cw_X0_67 im_Jx4a65c_get_915e3 sl_Jx4a65c_get_915e3 rfl (by decide) hxs.1 dX0_peerFor_25 (by first | decide | exact Nat.le_of_ble_eq_true rfl) (by decide) (by decide) (by omega) (by omega) (kA fun r2 μ2 hp2 => ?_) kN
    obtain ⟨rfl, rfl⟩ := hp2
    refine h_castO (ci := 6) C kl_X0_71 rfl (by decide) dX0_peerFor_28 hk7 ?_
    refine h_ast_5 C dX0_peerFor_31 ct_i rfv_r ?_
    refine h_al_w (j := 0) C dX0_peerFor_33 rfl rfv_r ?_
    refine gf_X0_76 C dX0_peerFor_35 hk7 q3 ?_
    refine h_iload_g C dX0_peerFor_38 rfl rfl ?_
    refine h_icmp_le (tgt := 71) C dX0_peerFor_39 (by decide) (fun c8 => ?_) (fun c8 => ?_)
    · have hne : ¬ (most < (S.rt e)[j] 1 ∧ TOPB x ((S.rt e)[j] 1) = (S.rt e)[j] 0) := fun h => absurd c8 (Int32.not_le.mpr h.1)
      refine h_iinc_4 (q := 1) C dX0_peerFor_71 (by decide) ct_i ?_
      refine h_goto (tgt := 7) C dX0_peerFor_74 (by decide) ?_
      rw [nI_1]
      exact ih (j + 1) _ _ (by omega) (fun v hv => hP v (by rw [hdr]; exact hv.trans (if_neg hne).symm)) _
    · refine h_iload_g C dX0_peerFor_42 rfl rfl ?_
      refine h_al_w (j := 0) C dX0_peerFor_43 rfl rfv_r ?_
      refine gf_X0_76 C dX0_peerFor_45 hk7 q3 ?_
      refine h_callSN2 C (k_X8_topBits Z.l Z.G _ _ _) nest_79 ini_X8 cd_X8_topBits ⟨by decide +kernel, by decide +kernel, by decide +kernel⟩ st_X8_topBits dX0_peerFor_48 (by first | decide | exact Nat.le_of_ble_eq_true rfl) (by decide) (by decide) (by omega) (by omega) (kI fun r3 μ3 hp3 => ?_) kN
      obtain ⟨rfl, rfl⟩ := hp3
      refine h_al_w (j := 0) C dX0_peerFor_51 rfl rfv_r ?_
      refine gf_X0_73 C dX0_peerFor_53 hk7 q2 ?_
      refine h_icmp_ne (tgt := 71) C dX0_peerFor_56 (by decide) (fun c7 => ?_) (fun c7 => ?_)
      · have hne : ¬ (most < (S.rt e)[j] 1 ∧ TOPB x ((S.rt e)[j] 1) = (S.rt e)[j] 0) := fun h => c7 h.2
        refine h_iinc_4 (q := 1) C dX0_peerFor_71 (by decide) ct_i ?_
        refine h_goto (tgt := 7) C dX0_peerFor_74 (by decide) ?_
        rw [nI_1]
        exact ih (j + 1) _ _ (by omega) (fun v hv => hP v (by rw [hdr]; exact hv.trans (if_neg hne).symm)) _
      · refine h_al_w (j := 0) C dX0_peerFor_59 rfl rfv_r ?_
        refine gf_X0_83 C dX0_peerFor_61 hk7 q4 ?_
        refine h_ist_2 C dX0_peerFor_64 ct_i ?_
        refine h_al_w (j := 0) C dX0_peerFor_65 rfl rfv_r ?_
        refine gf_X0_76 C dX0_peerFor_67 hk7 q3 ?_
        refine h_ist_3 C dX0_peerFor_70 ct_i ?_
        refine h_iinc_4 (q := 1) C dX0_peerFor_71 (by decide) ct_i ?_
        refine h_goto (tgt := 7) C dX0_peerFor_74 (by decide) ?_
        rw [nI_1]
        exact ih (j + 1) _ _ (by omega) (fun v hv => hP v (by rw [hdr]; exact hv.trans (if_pos ⟨Int32.not_le.mp c8, c7⟩).symm)) _

set_option maxRecDepth 100000 in
set_option maxHeartbeats 4000000 in
theorem k_X0_peerFor (l : Launch) (G : Gx) (P : Nat → Nat) (S : Sx) (μ : Mem) (hC : CRep G P S μ) (e : Nat) (he : e < 3) (x : Int32) : Kon l yX0_peerFor cX0_peerFor 6 (some .int) 3 0 0 64 G [.ref (P (4 + e)), .int x] μ (pI fun v μ' => μ = μ' ∧ v = GVN x (S.rt e) (-1) (-1)) noX := by
  refine Kon.ofG (by decide +kernel) (Nat.le_of_ble_eq_true rfl) (Nat.le_of_ble_eq_true rfl) (fun Z hZG C E NT MT => ?_)
  subst hZG
  have C : Cx Z RX0 cX0_peerFor 3 0 0 64 := C
  show HW Z 0 0 0 [some (.ref (P (4 + e))), some (.int x), none, none, none, none] [] μ
  obtain ⟨xs, hxs, hnd, hLR⟩ := hC.2.2.2.2.2.2.2.2.2.2.2.2.1 e he
  refine h_iconst (v := (-1)) C dX0_peerFor_0 (by decide) ?_
  refine h_ist_2 C dX0_peerFor_1 ct_i ?_
  refine h_iconst (v := (-1)) C dX0_peerFor_2 (by decide) ?_
  refine h_ist_3 C dX0_peerFor_3 ct_i ?_
  refine h_iconst (v := 0) C dX0_peerFor_4 (by decide) ?_
  refine h_ist_4 C dX0_peerFor_5 ct_i ?_
  exact lp_X0_peerFor hC he C E hxs hLR (Nat.le_refl _) (Nat.le_refl _) (Nat.le_refl _) (Nat.le_refl _) xs.length 0 (-1) (-1) (by omega) (fun v hv => ⟨v, rfl, rfl, hv⟩) none

end
