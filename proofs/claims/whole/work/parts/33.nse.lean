section NSE
abbrev nX : String := "java/util/NoSuchElementException"
abbrev nY : String := "java/lang/RuntimeException"
abbrev nZ : List String := ["java/lang/Exception"]
def sixN : ByteArray := ⟨#[0x2a, 0x2b, 0xb7, 0x00, 0x0d, 0xb1]⟩
theorem sixN_0 : decode sixN 0 = .ok (.aload_n 0, 1) := by decide +kernel
theorem sixN_1 : decode sixN 1 = .ok (.aload_n 1, 1) := by decide +kernel
theorem sixN_2 : decode sixN 2 = .ok (.invokespecial 13, 3) := by decide +kernel
theorem sixN_5 : decode sixN 5 = .ok (.return_, 1) := by decide +kernel
def nK1 : Cond := .code (Bundle.initS nX) Bundle.six 2 none
def nK2 : Cond := .methodLink nX 7 (Bundle.initS nY)
/-- the words of a throw of this class: its own super link stands at 13 -/
def nsAtoms (own : String) (ic : Nat) : List Cond := ((Bundle.ownAtoms own ic nX (nY :: nZ)).filter (fun w => decide (w ≠ nK1) && decide (w ≠ nK2))) ++ Bundle.passSAtoms nX nY 13 sixN
def vx_atN (own : String) (ic : Nat) : List Cond := (nsAtoms own ic).filter vx_no
theorem xat_NSE : (vx_atN RX8 111).all (fun w => decide (w ∈ lw_good) || decide (w ∈ xW)) = true := by decide +kernel
end NSE
