section
abbrev vOK (v : Int32) : Prop := -7 ≤ v.toInt ∧ v.toInt ≤ 3
theorem p7 {v : Int32} (h : vOK v) : 0 ≤ (v - (-7)).toInt ∧ (v - (-7)).toInt < 11 := by
  have h1 := h.1
  have h2 := h.2
  have e : (v - (-7)).toInt = v.toInt + 7 := by rw [fb_subI (by rw [tl_m7]; omega) (by rw [tl_m7]; omega), tl_m7]; omega
  omega
theorem vOK_l : vOK 0 ∧ vOK (-1) ∧ vOK (-2) ∧ vOK (-3) ∧ vOK (-4) ∧ vOK (-5) ∧ vOK (-6) ∧ vOK (-7) ∧ vOK 1 ∧ vOK 2 ∧ vOK 3 := by
  refine ⟨?_, ?_, ?_, ?_, ?_, ?_, ?_, ?_, ?_, ?_, ?_⟩ <;> exact ⟨by decide, by decide⟩
theorem vOK_TH {S : Sx} {e a b : Nat} {g : Row} : vOK (THc S e a b g) := by
  obtain ⟨-, m1, m2, -, -, -, m6, m7, -, -, q3⟩ := vOK_l
  unfold THc
  split; exact m1; split; exact m7; split; exact m2; split; exact m6; exact q3
theorem vOK_BO {S : Sx} {e b : Nat} {g : Row} : vOK (BOc S e b g) := by
  obtain ⟨-, -, -, -, -, m5, -, -, q1, q2, -⟩ := vOK_l
  unfold BOc
  split; exact q2; split; exact q1; exact m5
theorem vOK_TR {S S9 : Sx} {e : Nat} {g : Row} {v : Int32} (h : TRc S e g v S9) : vOK v := by
  obtain ⟨-, m1, m2, -, -, -, -, -, -, -, q3⟩ := vOK_l
  rcases h with ⟨_, h, _⟩ | ⟨b, f, _, _, ⟨_, h, _⟩ | ⟨_, h, _⟩⟩ <;> rw [h]
  · exact m1
  · exact m2
  · exact q3
theorem vOK_TC {S S9 : Sx} {e : Nat} {g : Row} {v : Int32} (h : TCc S e g v S9) : vOK v := by
  obtain ⟨-, m1, m2, -, -, -, -, -, -, -, q3⟩ := vOK_l
  rcases h with ⟨_, h, _⟩ | ⟨b, f, _, _, ⟨_, h, _⟩ | ⟨_, h, _⟩⟩ <;> rw [h]
  · exact m1
  · exact m2
  · exact q3
theorem vOK_TD {S S9 : Sx} {e : Nat} {g : Row} {v : Int32} (h : TDc S e g v S9) : vOK v := by
  obtain ⟨-, m1, m2, m3, m4, -⟩ := vOK_l
  rcases h with ⟨_, h, _⟩ | ⟨b, w, r, _, _, _, ⟨_, h, _⟩ | ⟨_, _, h, _⟩ | ⟨_, _, _, h, _⟩ | ⟨_, _, _, h, _⟩⟩ <;> rw [h]
  · exact m1
  · exact m4
  · exact m2
  · exact m3
  · exact vOK_BO
/-- a letter comes to whoever has the address -/
def GOT (S : Sx) (g : Row) (v : Int32) (S9 : Sx) : Prop := (FWA S (g 1) = none ∧ v = 0 ∧ S9 = S) ∨ ∃ e, e < 3 ∧ FWA S (g 1) = some e ∧ ((g 2 = 1 ∧ ∃ a b, a < 3 ∧ b < 3 ∧ g 5 = nI (10 * a + b) ∧ v = THc S e a b g ∧ S9 = THs S e a b g) ∨ (g 2 = 2 ∧ TRc S e g v S9) ∨ (g 2 = 3 ∧ TCc S e g v S9) ∨ (¬ g 2 = 1 ∧ ¬ g 2 = 2 ∧ ¬ g 2 = 3 ∧ TDc S e g v S9))
def okLt (g : Row) : Prop := (g 2 = 1 → (∃ a b, a < 3 ∧ b < 3 ∧ g 5 = nI (10 * a + b)) ∧ g 4 = nI (cl (g 4)) ∧ cl (g 4) < 2039) ∧ (g 2 = 2 → g 5 = nI (cl (g 5)) ∧ cl (g 5) < 2039)
def DLF (S9 : Sx) (v : Int32) : Sx := (S9.sSc 2 (S9.sc 2 + 1)).sCd (cl (v - (-7))) (S9.cd (cl (v - (-7))) + 1)
/-- what a picture promises, for the class's own calls -/
def okS (S : Sx) : Prop := (0 ≤ (HNUM S).toInt ∧ (HNUM S).toInt < 1000000) ∧ (∀ e, e < 3 → okF S e ∧ okR S e ∧ (∀ b, b < 3 → (S.wt e b).length ≤ 4) ∧ (OUT e S.ou).length < 512) ∧ ∀ g ∈ S.nt, okLt g
def FREb (S : Sx) (a b : Nat) : Bool := match S.fl a b with
  | none => false
  | some r => decide (S.sc 0 - r 3 < 5)
theorem FRE_iff {S : Sx} {a b : Nat} : FRE S a b ↔ FREb S a b = true := by
  unfold FRE FREb
  cases h : S.fl a b with
  | none => exact ⟨fun ⟨r, h1, _⟩ => (by cases h1), fun h1 => (by cases h1)⟩
  | some r => exact ⟨fun ⟨r9, h1, h2⟩ => by cases h1; exact decide_eq_true h2, fun h1 => ⟨r, rfl, of_decide_eq_true h1⟩⟩
def GUF (S : Sx) (a b : Nat) : Sx := if FREb S a b = true then S else HELS S a b
theorem GUFS_eq {S S9 : Sx} {a b : Nat} (h : GUFS S a b S9) : S9 = GUF S a b := by
  unfold GUF
  rcases h with ⟨h, e⟩ | ⟨h, e⟩
  · rw [if_pos (FRE_iff.mp h)]; exact e
  · rw [if_neg (fun z => h (FRE_iff.mpr z))]; exact e
def greC (S : Sx) (x y : Int32) : Int32 := if isE x ∧ isE y then (if ¬ x = y then (if FREb S (cl x) (cl y) = true then 3 else 0) else 2) else 1
theorem greC_X {S : Sx} {x y : Int32} {X : String} {μ μ' : Mem} (h : μ = μ' ∧ ((X = xIOB ∧ ¬ (isE x ∧ isE y)) ∨ (X = xIAE ∧ isE x ∧ isE y ∧ x = y))) : PX3 xIOB xIAE xISE (greC S x y) μ X μ' := ⟨h.1, h.2.elim (fun z => Or.inl ⟨z.1, if_neg z.2⟩) (fun z => Or.inr (Or.inl ⟨z.1, (if_pos ⟨z.2.1, z.2.2.1⟩).trans (if_neg fun k => k z.2.2.2)⟩))⟩
def sndC (x s d l : Int32) : Int32 := if isE x then (if inR s 0 255 then (if inR d 0 255 then (if inR l 0 9999 then 0 else 2) else 2) else 2) else 1
def SND (S : Sx) (a b : Nat) (s d l : Int32) : Int32 × Sx := match USE S a b with
  | none => (0, GUF (S.sWt a b (PTW (S.wt a b) (mkP s d l))) a b)
  | some r => (1, if ¬ r.1 6 = 0 ∧ (20 ≤ S.sc 0 - r.1 2 ∨ 30 ≤ r.1 5 + 1) then GUF (DATS S a b r s d l) a b else DATS S a b r s d l)

end
