section
theorem h_callH3 {Z : Zx} {own : String} {cc : ByteArray} {rf rc rs rl k n pc mc ms rf' rl' idx nL' : Nat} {L : List (Option Value)} {rest : List Value} {a0 a1 a2 : Value} {μ : Mem} {Post : Option Value → Mem → Prop} {y : MethodName} {bytes : ByteArray} {ret : Option FieldType} {hh : Hh} (C : Cx Z own cc rf rc rs rl) (hN : NcZ Z) (hM : KonH Z.l y bytes nL' ret hh rf' mc ms rl' Z.G [a0, a1, a2] μ Post) (cw : CwH own idx y bytes nL' ret hh 3) (d : decode cc pc = .ok (.invokestatic idx, 3)) (hw : (rest.map fun v => v.category).sum ≤ 8) (hf : rf' + 1 ≤ rf) (hlo : 8 + (nL' + 11) + rl' ≤ rl) (hcl : k + mc ≤ rc) (hsl : n + ms ≤ rs) (kk : ∀ (v : Option Value) (μ' : Mem), Post v μ' → HW Z (k + mc) (n + ms) (pc + 3) L (v.toList ++ rest) μ') : HW Z k n pc L (a2 :: a1 :: a0 :: rest) μ := h_callH_g (As := [a0, a1, a2]) C hN hM cw rfl hw hf hlo hcl hsl d kk
theorem h_callH4 {Z : Zx} {own : String} {cc : ByteArray} {rf rc rs rl k n pc mc ms rf' rl' idx nL' : Nat} {L : List (Option Value)} {rest : List Value} {a0 a1 a2 a3 : Value} {μ : Mem} {Post : Option Value → Mem → Prop} {y : MethodName} {bytes : ByteArray} {ret : Option FieldType} {hh : Hh} (C : Cx Z own cc rf rc rs rl) (hN : NcZ Z) (hM : KonH Z.l y bytes nL' ret hh rf' mc ms rl' Z.G [a0, a1, a2, a3] μ Post) (cw : CwH own idx y bytes nL' ret hh 4) (d : decode cc pc = .ok (.invokestatic idx, 3)) (hw : (rest.map fun v => v.category).sum ≤ 8) (hf : rf' + 1 ≤ rf) (hlo : 8 + (nL' + 11) + rl' ≤ rl) (hcl : k + mc ≤ rc) (hsl : n + ms ≤ rs) (kk : ∀ (v : Option Value) (μ' : Mem), Post v μ' → HW Z (k + mc) (n + ms) (pc + 3) L (v.toList ++ rest) μ') : HW Z k n pc L (a3 :: a2 :: a1 :: a0 :: rest) μ := h_callH_g (As := [a0, a1, a2, a3]) C hN hM cw rfl hw hf hlo hcl hsl d kk
theorem h_callH5 {Z : Zx} {own : String} {cc : ByteArray} {rf rc rs rl k n pc mc ms rf' rl' idx nL' : Nat} {L : List (Option Value)} {rest : List Value} {a0 a1 a2 a3 a4 : Value} {μ : Mem} {Post : Option Value → Mem → Prop} {y : MethodName} {bytes : ByteArray} {ret : Option FieldType} {hh : Hh} (C : Cx Z own cc rf rc rs rl) (hN : NcZ Z) (hM : KonH Z.l y bytes nL' ret hh rf' mc ms rl' Z.G [a0, a1, a2, a3, a4] μ Post) (cw : CwH own idx y bytes nL' ret hh 5) (d : decode cc pc = .ok (.invokestatic idx, 3)) (hw : (rest.map fun v => v.category).sum ≤ 8) (hf : rf' + 1 ≤ rf) (hlo : 8 + (nL' + 11) + rl' ≤ rl) (hcl : k + mc ≤ rc) (hsl : n + ms ≤ rs) (kk : ∀ (v : Option Value) (μ' : Mem), Post v μ' → HW Z (k + mc) (n + ms) (pc + 3) L (v.toList ++ rest) μ') : HW Z k n pc L (a4 :: a3 :: a2 :: a1 :: a0 :: rest) μ := h_callH_g (As := [a0, a1, a2, a3, a4]) C hN hM cw rfl hw hf hlo hcl hsl d kk
theorem h_callH6 {Z : Zx} {own : String} {cc : ByteArray} {rf rc rs rl k n pc mc ms rf' rl' idx nL' : Nat} {L : List (Option Value)} {rest : List Value} {a0 a1 a2 a3 a4 a5 : Value} {μ : Mem} {Post : Option Value → Mem → Prop} {y : MethodName} {bytes : ByteArray} {ret : Option FieldType} {hh : Hh} (C : Cx Z own cc rf rc rs rl) (hN : NcZ Z) (hM : KonH Z.l y bytes nL' ret hh rf' mc ms rl' Z.G [a0, a1, a2, a3, a4, a5] μ Post) (cw : CwH own idx y bytes nL' ret hh 6) (d : decode cc pc = .ok (.invokestatic idx, 3)) (hw : (rest.map fun v => v.category).sum ≤ 8) (hf : rf' + 1 ≤ rf) (hlo : 8 + (nL' + 11) + rl' ≤ rl) (hcl : k + mc ≤ rc) (hsl : n + ms ≤ rs) (kk : ∀ (v : Option Value) (μ' : Mem), Post v μ' → HW Z (k + mc) (n + ms) (pc + 3) L (v.toList ++ rest) μ') : HW Z k n pc L (a5 :: a4 :: a3 :: a2 :: a1 :: a0 :: rest) μ := h_callH_g (As := [a0, a1, a2, a3, a4, a5]) C hN hM cw rfl hw hf hlo hcl hsl d kk
theorem h_dcmp {Z : Zx} {own : String} {cc : ByteArray} {rf rc rs rl k n pc : Nat} {L : List (Option Value)} {st : List Value} {μ : Mem} {x y : UInt64} {op : CmpOp} (C : Cx Z own cc rf rc rs rl) (d : decode cc pc = .ok (.dcmp op, 1)) (kk : HW Z k n (pc + 1) L (.int (Op.cmpValue (FP.dcmp x y) op) :: st) μ) : HW Z k n pc L (.double y :: .double x :: st) μ := by
  refine HW.go C ?_ kk
  obtain ⟨p, l, e, R, s, m, args, below, meth, c, G, A, nL, Q⟩ := Z
  intro hx hb hown hts H locs ls hl kk
  exact lv_dcmp hx hb d (kk ls hl)
/-- the law's own two arrays: what is brought out, the script -/
def OS (o : Nat) (μ : Mem) : Prop := μ.kd o = KLO ∧ μ.ln o = 1
theorem OS.to {o : Nat} {μ μ' : Mem} (h : OS o μ) (h1 : SameAt μ μ' o) : OS o μ' := ⟨h1.1.trans h.1, h1.2.2.2.2.1.trans h.2⟩
theorem OS.frC {o : Nat} {μ μ' : Mem} (h : OS o μ) (hf : FrS isC μ μ') : OS o μ' := h.to ((hf o).1 (by rw [h.1]; decide) (by rw [h.1]; exact KLO_nC))
theorem KLO_nM : ¬ isMk KLO := by unfold isMk; decide
theorem OS.frM {o : Nat} {μ μ' : Mem} (h : OS o μ) (hf : FrS isMk μ μ') : OS o μ' := h.to ((hf o).1 (by rw [h.1]; decide) (by rw [h.1]; exact KLO_nM))
theorem OS.elM {o : Nat} {μ μ' : Mem} (h : OS o μ) (hf : FrS isMk μ μ') : μ'.el o = μ.el o := ((hf o).1 (by rw [h.1]; decide) (by rw [h.1]; exact KLO_nM)).2.2.2.2.2.2.2
theorem sel_el {μ : Mem} {o i : Nat} {w : Int64} : (μ.sel o i w).el o i = w := by
  show u2 μ.el o i w o i = w
  exact u2_eq
theorem sel_same {μ : Mem} {o i z : Nat} {w : Int64} (h : z ≠ o) : SameAt μ (μ.sel o i w) z := ⟨rfl, fun _ => rfl, fun _ => rfl, fun _ => rfl, rfl, rfl, rfl, funext fun j => by
  show u2 μ.el o i w z j = μ.el z j
  unfold u2
  rw [if_neg h]⟩
theorem OS.sel {o i : Nat} {μ : Mem} {w : Int64} (h : OS o μ) : OS o (μ.sel o i w) := ⟨h.1, h.2⟩
theorem CRep.sel {G : Gx} {P : Nat → Nat} {S : Sx} {μ : Mem} {o i : Nat} {w : Int64} (h : CRep G P S μ) (ho : μ.kd o = KLO) : CRep G P S (μ.sel o i w) := h.other fun q hq => sel_same (fun e => by rw [e, ho] at hq; exact KLO_nC hq)
theorem MRq.sel {Q : Nat → Nat} {S : Sx} {l : LX} {μ : Mem} {o i : Nat} {w : Int64} (h : MRq Q S l μ) (ho : μ.kd o = KLO) : MRq Q S l (μ.sel o i w) := h.same fun q hq => sel_same (fun e => by rw [e, ho] at hq; exact KLO_nM (usK_mk hq))
theorem CTo.rf9 {G : Gx} {P : Nat → Nat} {S : Sx} {μ : Mem} (h : CRep G P S μ) : CTo G P μ S μ := ⟨h, FrS.rf⟩
/-- after the small method, before the model's -/
theorem lmid {G : Gx} {P Q : Nat → Nat} {o : Nat} {S : Sx} {t code k : Int32} {μ μ1 : Mem} {R : Int64 → Mem → Prop} {SP : Int32 → Sx → Prop} (hM : MRq Q S (LXo S t) μ) (hO : OS o μ) (h : wrp code R o μ k μ1) (hR : ∀ w m, R w m → ∃ v9 S1, w = v9.toInt64 ∧ SP v9 S1 ∧ CTo G P μ S1 m) : MRq Q S (LXo S t) μ1 ∧ OS o μ1 := by
  rcases h with ⟨-, -, w, m, hr, rfl⟩ | ⟨-, -, rfl⟩
  · obtain ⟨v9, S1, -, -, hT⟩ := hR w m hr
    have h1 := hO.frC hT.2
    exact ⟨(hM.other hT.2).sel h1.1, h1.sel⟩
  · exact ⟨hM, hO⟩
/-- after both -/
theorem lfin {G : Gx} {P Q : Nat → Nat} {o : Nat} {S : Sx} {code k v : Int32} {μ μ1 μ3 : Mem} {R : Int64 → Mem → Prop} {SP : Int32 → Sx → Prop} (hC : CRep G P S μ) (hO : OS o μ) (h : wrp code R o μ k μ1) (hR : ∀ w m, R w m → ∃ v9 S1, w = v9.toInt64 ∧ SP v9 S1 ∧ CTo G P μ S1 m)
    (hm : (code = 0 ∧ ∃ S2, SP v S2 ∧ MTo Q WAll μ1 S2 (LXo S2 0) μ3) ∨ (¬ code = 0 ∧ MTo Q WAll μ1 S (LXo S code) μ3)) (hU : ∀ v S1 v' S2, SP v S1 → SP v' S2 → v = v' ∧ S1 = S2) :
    μ3.fi 290 (Q 0) = k ∧ ∃ S' t, (S' = S ∨ code = 0 ∧ ∃ v, SP v S') ∧ CRep G P S' μ3 ∧ MRq Q S' (LXo S' t) μ3 ∧ OS o μ3 ∧ (k = 0 → μ3.el o 0 = v.toInt64) := by
  rcases h with ⟨c0, rfl, w, m, hr, rfl⟩ | ⟨c0, rfl, rfl⟩
  · obtain ⟨v9, S1, rfl, hs, hT⟩ := hR w m hr
    have h1 := hO.frC hT.2
    rcases hm with ⟨-, S2, hs2, hT2⟩ | ⟨c1, -⟩
    · obtain ⟨rfl, rfl⟩ := hU _ _ _ _ hs hs2
      refine ⟨hT2.1.f290, S1, 0, Or.inr ⟨c0, v9, hs⟩, (hT.1.sel h1.1).othM hT2.2.1, hT2.1, h1.sel.frM hT2.2.1, fun _ => ?_⟩
      rw [h1.sel.elM hT2.2.1]
      exact sel_el
    · exact absurd c0 c1
  · rcases hm with ⟨c1, -⟩ | ⟨-, hT2⟩
    · exact absurd c1 c0
    · exact ⟨hT2.1.f290, S, k, Or.inl rfl, hC.othM hT2.2.1, hT2.1, hO.frM hT2.2.1, fun h9 => absurd h9 c0⟩
/-- the script lies there as it lay at the start -/
def ScZ (Z : Zx) (b L : Nat) (xs : Nat → Int32) : Prop := match Z with
  | (_, _, _, _, s, _, _, _, _, _, _, A, _, _) => va_X b L xs s s.heap ∧ b < s.heap.size ∧ ¬ A b
theorem h_scld {Z : Zx} {own : String} {cc : ByteArray} {rf rc rs rl k n pc b L9 : Nat} {xs : Nat → Int32} {L : List (Option Value)} {st : List Value} {μ : Mem} {i v : Int32} (C : Cx Z own cc rf rc rs rl) (hZ : ScZ Z b L9 xs) (d : decode cc pc = .ok (.iaload, 1)) (hin : vp_in i L9) (hv : xs i.toNatClampNeg = v) (kk : HW Z k n (pc + 1) L (.int v :: st) μ) : HW Z k n pc L (.int i :: .ref b :: st) μ := by
  obtain ⟨p, l, e, R, s, m, args, below, meth, c, G, A, nL, Q⟩ := Z
  obtain ⟨⟨hx, hb, hml, hown, hts⟩, _, hK, _⟩ := C
  subst hv
  intro H locs ls hR hS hl
  exact va_sld hx hb hZ.1 hZ.2.1 hZ.2.2 hS hin d (kk H locs ls hR hS hl)
theorem h_sclen {Z : Zx} {own : String} {cc : ByteArray} {rf rc rs rl k n pc b L9 : Nat} {xs : Nat → Int32} {L : List (Option Value)} {st : List Value} {μ : Mem} (C : Cx Z own cc rf rc rs rl) (hZ : ScZ Z b L9 xs) (d : decode cc pc = .ok (.arraylength, 1)) (kk : HW Z k n (pc + 1) L (.int (nI L9) :: st) μ) : HW Z k n pc L (.ref b :: st) μ := by
  obtain ⟨p, l, e, R, s, m, args, below, meth, c, G, A, nL, Q⟩ := Z
  obtain ⟨⟨hx, hb, hml, hown, hts⟩, _, hK, _⟩ := C
  intro H locs ls hR hS hl
  exact va_slen hx hb hZ.1 hZ.2.1 hZ.2.2 hS d (kk H locs ls hR hS hl)
theorem ixv {i k L : Nat} (h : i + k < L) (hL : L < 2 ^ 31) : vp_in (nI i + nI k) L := by rw [nI_add]; exact vp_in_nI h hL
theorem ixe {i k L : Nat} (h : i + k < L) (hL : L < 2 ^ 31) : (nI i + nI k : Int32).toNatClampNeg = i + k := by rw [nI_add]; exact cl_of (by omega)
theorem rd_pub {Q : Nat → Nat} {S : Sx} {t c : Int32} {μ m : Mem} (hM : MRq Q S (LXo S t) μ) (e : m = μ.sfi 290 (Q 0) c) : MTo Q WAll μ S (LXo S c) m := (MTo.rf hM).sfi (Or.inr trivial) e (hM.w290 e)
theorem cwh_pass : CwH RL 122 yL_pass cL_pass 4 (some .int) [(0, 9, 12, 13), (0, 9, 15, 15)] 3 := ⟨by decide +kernel, by decide +kernel, by decide +kernel, ml_L_122, ini_L, lg_2 154 (by decide +kernel) (by decide +kernel), st_L_pass⟩
theorem cwh_move : CwH RL 132 yL_move cL_move 5 (some .int) [(0, 10, 13, 21), (0, 10, 17, 13)] 4 := ⟨by decide +kernel, by decide +kernel, by decide +kernel, ml_L_132, ini_L, lg_2 181 (by decide +kernel) (by decide +kernel), st_L_move⟩
theorem cwh_load : CwH RL 136 yL_load cL_load 5 (some .int) [(0, 17, 20, 21)] 4 := ⟨by decide +kernel, by decide +kernel, by decide +kernel, ml_L_136, ini_L, lg_2 214 (by decide +kernel) (by decide +kernel), st_L_load⟩
theorem cwh_allow : CwH RL 140 yL_allow cL_allow 7 (some .int) [(0, 14, 17, 21), (0, 14, 21, 13), (0, 14, 25, 15)] 6 := ⟨by decide +kernel, by decide +kernel, by decide +kernel, ml_L_140, ini_L, lg_2 221 (by decide +kernel) (by decide +kernel), st_L_allow⟩
theorem cwh_forbid : CwH RL 144 yL_forbid cL_forbid 6 (some .int) [(0, 12, 15, 21), (0, 12, 19, 13), (0, 12, 23, 35)] 5 := ⟨by decide +kernel, by decide +kernel, by decide +kernel, ml_L_144, ini_L, lg_3 85 (by decide +kernel) (by decide +kernel), st_L_forbid⟩
theorem cwh_send : CwH RL 148 yL_send cL_send 7 (some .int) [(0, 14, 17, 21), (0, 14, 21, 13)] 6 := ⟨by decide +kernel, by decide +kernel, by decide +kernel, ml_L_148, ini_L, lg_3 118 (by decide +kernel) (by decide +kernel), st_L_send⟩
theorem cwh_keep : CwH RL 151 yL_keep cL_keep 5 (some .int) [(0, 17, 20, 21), (0, 17, 24, 13)] 4 := ⟨by decide +kernel, by decide +kernel, by decide +kernel, ml_L_151, ini_L, lg_4 42 (by decide +kernel) (by decide +kernel), st_L_keep⟩
theorem cwh_greet : CwH RL 154 yL_greet cL_greet 5 (some .int) [(0, 10, 13, 21), (0, 10, 17, 13), (0, 10, 21, 15)] 4 := ⟨by decide +kernel, by decide +kernel, by decide +kernel, ml_L_154, ini_L, lg_4 49 (by decide +kernel) (by decide +kernel), st_L_greet⟩
theorem cwh_deliver : CwH RL 157 yL_deliver cL_deliver 4 (some .int) [(0, 9, 12, 21)] 3 := ⟨by decide +kernel, by decide +kernel, by decide +kernel, ml_L_157, ini_L, lg_4 57 (by decide +kernel) (by decide +kernel), st_L_deliver⟩
theorem cwh_lose : CwH RL 160 yL_lose cL_lose 4 (some .int) [(0, 9, 12, 21)] 3 := ⟨by decide +kernel, by decide +kernel, by decide +kernel, ml_L_160, ini_L, lg_4 182 (by decide +kernel) (by decide +kernel), st_L_lose⟩
theorem cwh_twice : CwH RL 163 yL_twice cL_twice 4 (some .int) [(0, 9, 12, 21), (0, 9, 15, 15)] 3 := ⟨by decide +kernel, by decide +kernel, by decide +kernel, ml_L_163, ini_L, lg_4 189 (by decide +kernel) (by decide +kernel), st_L_twice⟩
theorem cwh_turn : CwH RL 166 yL_turn cL_turn 6 (some .int) [(0, 12, 15, 21), (0, 12, 19, 13), (0, 12, 23, 15)] 5 := ⟨by decide +kernel, by decide +kernel, by decide +kernel, ml_L_166, ini_L, lg_4 203 (by decide +kernel) (by decide +kernel), st_L_turn⟩
theorem cwh_reroute : CwH RL 169 yL_reroute cL_reroute 5 (some .int) [(0, 10, 13, 21), (0, 10, 17, 13)] 4 := ⟨by decide +kernel, by decide +kernel, by decide +kernel, ml_L_169, ini_L, lg_4 221 (by decide +kernel) (by decide +kernel), st_L_reroute⟩
theorem cwh_later : CwH RL 172 yL_later cL_later 4 (some .int) [(0, 9, 12, 21)] 3 := ⟨by decide +kernel, by decide +kernel, by decide +kernel, ml_L_172, ini_L, lg_4 228 (by decide +kernel) (by decide +kernel), st_L_later⟩
theorem cwh_letter : CwH RL 183 yL_letter cL_letter 5 (some .int) [(0, 10, 13, 21), (0, 10, 17, 13)] 4 := ⟨by decide +kernel, by decide +kernel, by decide +kernel, ml_L_183, ini_L, lg_4 235 (by decide +kernel) (by decide +kernel), st_L_letter⟩
theorem cwh_isTurned : CwH RL 186 yL_isTurned cL_isTurned 4 (some .int) [(0, 16, 19, 21)] 3 := ⟨by decide +kernel, by decide +kernel, by decide +kernel, ml_L_186, ini_L, lg_5 2 (by decide +kernel) (by decide +kernel), st_L_isTurned⟩
theorem cwh_address : CwH RL 189 yL_address cL_address 4 (some .int) [(0, 9, 12, 21)] 3 := ⟨by decide +kernel, by decide +kernel, by decide +kernel, ml_L_189, ini_L, lg_5 9 (by decide +kernel) (by decide +kernel), st_L_address⟩
theorem cwh_known : CwH RL 192 yL_known cL_known 5 (some .int) [(0, 10, 13, 21), (0, 10, 17, 13)] 4 := ⟨by decide +kernel, by decide +kernel, by decide +kernel, ml_L_192, ini_L, lg_5 16 (by decide +kernel) (by decide +kernel), st_L_known⟩
theorem cwh_route : CwH RL 195 yL_route cL_route 5 (some .int) [(0, 10, 13, 21), (0, 10, 17, 13)] 4 := ⟨by decide +kernel, by decide +kernel, by decide +kernel, ml_L_195, ini_L, lg_5 23 (by decide +kernel) (by decide +kernel), st_L_route⟩
theorem cwh_session : CwH RL 198 yL_session cL_session 7 (some .int) [(0, 14, 17, 21), (0, 14, 21, 13), (0, 14, 25, 35)] 6 := ⟨by decide +kernel, by decide +kernel, by decide +kernel, ml_L_198, ini_L, lg_5 30 (by decide +kernel) (by decide +kernel), st_L_session⟩
theorem cwh_isUsable : CwH RL 201 yL_isUsable cL_isUsable 5 (some .int) [(0, 17, 20, 21), (0, 17, 24, 13)] 4 := ⟨by decide +kernel, by decide +kernel, by decide +kernel, ml_L_201, ini_L, lg_5 42 (by decide +kernel) (by decide +kernel), st_L_isUsable⟩
theorem cwh_flight : CwH RL 204 yL_flight cL_flight 5 (some .int) [(0, 10, 13, 21), (0, 10, 17, 13)] 4 := ⟨by decide +kernel, by decide +kernel, by decide +kernel, ml_L_204, ini_L, lg_5 49 (by decide +kernel) (by decide +kernel), st_L_flight⟩
theorem cwh_waiting : CwH RL 207 yL_waiting cL_waiting 5 (some .int) [(0, 10, 13, 21), (0, 10, 17, 13)] 4 := ⟨by decide +kernel, by decide +kernel, by decide +kernel, ml_L_207, ini_L, lg_5 56 (by decide +kernel) (by decide +kernel), st_L_waiting⟩
theorem cwh_cookie : CwH RL 210 yL_cookie cL_cookie 5 (some .int) [(0, 10, 13, 21), (0, 10, 17, 13)] 4 := ⟨by decide +kernel, by decide +kernel, by decide +kernel, ml_L_210, ini_L, lg_5 63 (by decide +kernel) (by decide +kernel), st_L_cookie⟩
theorem cwh_stamp : CwH RL 213 yL_stamp cL_stamp 6 (some .int) [(0, 12, 15, 21), (0, 12, 19, 13)] 5 := ⟨by decide +kernel, by decide +kernel, by decide +kernel, ml_L_213, ini_L, lg_5 70 (by decide +kernel) (by decide +kernel), st_L_stamp⟩
theorem cwh_outs : CwH RL 217 yL_outs cL_outs 4 (some .int) [(0, 9, 12, 21)] 3 := ⟨by decide +kernel, by decide +kernel, by decide +kernel, ml_L_217, ini_L, lg_5 77 (by decide +kernel) (by decide +kernel), st_L_outs⟩
theorem cwh_out : CwH RL 220 yL_out cL_out 6 (some .int) [(0, 12, 15, 21), (0, 12, 19, 13)] 5 := ⟨by decide +kernel, by decide +kernel, by decide +kernel, ml_L_220, ini_L, lg_5 84 (by decide +kernel) (by decide +kernel), st_L_out⟩
theorem cwh_drops : CwH RL 223 yL_drops cL_drops 4 (some .int) [(0, 9, 12, 13)] 3 := ⟨by decide +kernel, by decide +kernel, by decide +kernel, ml_L_223, ini_L, lg_5 92 (by decide +kernel) (by decide +kernel), st_L_drops⟩
theorem cwh_publicOf : CwH RL 226 yL_publicOf cL_publicOf 4 (some .int) [(0, 9, 12, 13)] 3 := ⟨by decide +kernel, by decide +kernel, by decide +kernel, ml_L_226, ini_L, lg_5 96 (by decide +kernel) (by decide +kernel), st_L_publicOf⟩
theorem cwh_shared : CwH RL 229 yL_shared cL_shared 5 (some .int) [(0, 10, 13, 13)] 4 := ⟨by decide +kernel, by decide +kernel, by decide +kernel, ml_L_229, ini_L, lg_5 104 (by decide +kernel) (by decide +kernel), st_L_shared⟩
theorem cwh_seal : CwH RL 232 yL_seal cL_seal 7 (some .int) [(0, 14, 17, 13)] 6 := ⟨by decide +kernel, by decide +kernel, by decide +kernel, ml_L_232, ini_L, lg_5 111 (by decide +kernel) (by decide +kernel), st_L_seal⟩
end
