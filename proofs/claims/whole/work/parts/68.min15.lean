section
theorem GVN_in (x : Int32) : ∀ (rs : List Row) (m p : Int32), GVN x rs m p = p ∨ ∃ r ∈ rs, GVN x rs m p = r 2 := by
  intro rs
  induction rs with
  | nil => intro m p; exact Or.inl rfl
  | cons r rs ih =>
    intro m p
    show (if m < r 1 ∧ TOPB x (r 1) = r 0 then GVN x rs (r 1) (r 2) else GVN x rs m p) = p ∨ ∃ r9 ∈ r :: rs, (if m < r 1 ∧ TOPB x (r 1) = r 0 then GVN x rs (r 1) (r 2) else GVN x rs m p) = r9 2
    by_cases c : m < r 1 ∧ TOPB x (r 1) = r 0
    · rw [if_pos c]
      rcases ih (r 1) (r 2) with h | ⟨r9, h1, h2⟩
      · exact Or.inr ⟨r, List.mem_cons_self, h⟩
      · exact Or.inr ⟨r9, List.mem_cons_of_mem _ h1, h2⟩
    · rw [if_neg c]
      rcases ih m p with h | ⟨r9, h1, h2⟩
      · exact Or.inl h
      · exact Or.inr ⟨r9, List.mem_cons_of_mem _ h1, h2⟩
theorem m1_isE : ¬ isE (-1) := fun h => absurd h.1 (by decide)
theorem MTo.lxW {Q : Nat → Nat} {W : Nat → Prop} {S : Sx} {t : Int32} {μ0 μ : Mem} {a b n : Nat} {ws : List Row} (h : MTo Q W μ0 (S.sWt a b ws) ((LXo S t).sWl a b n) μ) (hn : n = ws.length) : MTo Q W μ0 (S.sWt a b ws) (LXo (S.sWt a b ws) t) μ := by
  refine h.lx rfl (fun _ _ => rfl) (fun _ _ => rfl) (fun a9 b9 _ _ => ?_) (fun _ _ _ _ _ _ => rfl) (fun _ _ _ _ _ _ z => z) (fun _ _ _ _ _ _ z => z)
  show w2 (fun x y => (S.wt x y).length) a b n a9 b9 = (w2 S.wt a b ws a9 b9).length
  by_cases c9 : a9 = a ∧ b9 = b
  · obtain ⟨rfl, rfl⟩ := c9
    rw [w2_eq, w2_eq, hn]
  · rw [w2_ne c9, w2_ne c9]
set_option maxRecDepth 100000 in
set_option maxHeartbeats 1000000 in
theorem lp_X9_send {Z : Zx} {rf mc ms rl : Nat} {Q : Nat → Nat} {S : Sx} {t : Int32} {μ0 : Mem} {x s d l9 z5 b9 : Int32} (C : Cx Z RX9 cX9_send rf mc ms rl) (hx : isE x) (hb9 : isE b9) {L : List Row} (hLn : L.length = 4) {k0 n0 : Nat}
    (kk : ∀ m M, M.length = 4 → (∀ i, M[i]? = if i < 3 then L[i + 1]? else L[i]?) → MTo Q WAll μ0 (S.sWt (cl x) (cl b9) M) (LXo S t) m → ∀ z7 : Option Value, HW Z k0 n0 229 [some (.ref (Q 0)), some (.int x), some (.int s), some (.int d), some (.int l9), some (.int z5), some (.int b9), z7] [] m) :
    ∀ (m j : Nat) (mz : Mem) (M : List Row), j + m = 3 → M.length = 4 → (∀ i, M[i]? = if i < j then L[i + 1]? else L[i]?) → MTo Q WAll μ0 (S.sWt (cl x) (cl b9) M) (LXo S t) mz → HW Z k0 n0 191 [some (.ref (Q 0)), some (.int x), some (.int s), some (.int d), some (.int l9), some (.int z5), some (.int b9), some (.int (nI j))] [] mz := by
  intro m
  induction m with
  | zero =>
    intro j mz M hj hM1 hM2 hT
    have hj3 : j = 3 := by omega
    subst hj3
    have hM := hT.1
    refine h_iload_w C dX9_send_191 rfl ?_
    refine h_iconst (v := 3) C dX9_send_193 (by decide) ?_
    refine h_icmp_ge (tgt := 229) C dX9_send_194 (by decide) (fun c1 => ?_) (fun c1 => absurd ((show (3 : Int32) ≤ nI 3 by decide)) c1)
    exact kk _ _ hM1 hM2 hT _
  | succ m ih =>
    intro j mz M hj hM1 hM2 hT
    have hM := hT.1
    refine h_iload_w C dX9_send_191 rfl ?_
    refine h_iconst (v := 3) C dX9_send_193 (by decide) ?_
    refine h_icmp_ge (tgt := 229) C dX9_send_194 (by decide) (fun c1 => absurd c1 ((nI_ge (b := 3) (by omega) (by decide)))) (fun c1 => ?_)
    refine h_al_g C dX9_send_197 rfl rfl rfv_r ?_
    refine gs_X9_69 C dX9_send_198 hM.kX (hM.fA (i := 17) (by decide)) ?_
    refine h_iload_g C dX9_send_201 rfl rfl ?_
    refine h_aald (r := some _) C dX9_send_202 (hM.kr (by decide)) (inb (hM.ln3 (by decide)) (vp_isE hx.1 hx.2 (by decide))) (atI rfl (hM.d1 (i := 0) (by decide) hx.lt)) ?_
    refine h_iload_w C dX9_send_203 rfl ?_
    refine h_aald (r := some _) C dX9_send_205 (hM.kr (by have h0_ := hx.lt; have g0_ : Int32.toNatClampNeg x < 3 := hx.lt; omega)) (inb (hM.ln3 (by have h0_ := hx.lt; have g0_ : Int32.toNatClampNeg x < 3 := hx.lt; omega)) (vp_isE hb9.1 hb9.2 (by decide))) (atI rfl (hM.d2 (i := 0) (by decide) hx.lt hb9.lt)) ?_
    refine h_iload_w C dX9_send_206 rfl ?_
    refine h_al_g C dX9_send_208 rfl rfl rfv_r ?_
    refine gs_X9_69 C dX9_send_209 hM.kX (hM.fA (i := 17) (by decide)) ?_
    refine h_iload_g C dX9_send_212 rfl rfl ?_
    refine h_aald (r := some _) C dX9_send_213 (hM.kr (by decide)) (inb (hM.ln3 (by decide)) (vp_isE hx.1 hx.2 (by decide))) (atI rfl (hM.d1 (i := 0) (by decide) hx.lt)) ?_
    refine h_iload_w C dX9_send_214 rfl ?_
    refine h_aald (r := some _) C dX9_send_216 (hM.kr (by have h0_ := hx.lt; have g0_ : Int32.toNatClampNeg x < 3 := hx.lt; omega)) (inb (hM.ln3 (by have h0_ := hx.lt; have g0_ : Int32.toNatClampNeg x < 3 := hx.lt; omega)) (vp_isE hb9.1 hb9.2 (by decide))) (atI rfl (hM.d2 (i := 0) (by decide) hx.lt hb9.lt)) ?_
    refine h_iload_w C dX9_send_217 rfl ?_
    refine h_iconst (v := 1) C dX9_send_219 (by decide) ?_
    refine h_iadd C dX9_send_220 ?_
    have hj1 : j + 1 < L.length := by omega
    obtain ⟨y, y1, y2⟩ := (hM.wt hx.lt hb9.lt).2 (j + 1) L[j + 1] (by rw [show (S.sWt (cl x) (cl b9) M).wt (cl x) (cl b9) = M from w2_eq, hM2, if_neg (by omega)]; exact List.getElem?_eq_getElem hj1)
    refine h_aald (r := some _) C dX9_send_221 (hM.kr (by have : Int32.toNatClampNeg x < 3 := hx.lt; have : Int32.toNatClampNeg b9 < 3 := hb9.lt; have := hx.lt; have := hb9.lt; omega)) (inb (hM.ln4 (by have : Int32.toNatClampNeg x < 3 := hx.lt; have : Int32.toNatClampNeg b9 < 3 := hb9.lt; have := hx.lt; have := hb9.lt; omega)) (by rw [nI_1]; exact vp_in_nI (by omega) (by decide))) (atI (show (nI j + 1 : Int32).toNatClampNeg = j + 1 from by rw [nI_1]; exact cl_of (by omega)) y1) ?_
    refine h_aast C dX9_send_222 (by rw [hM.k17 (by have : Int32.toNatClampNeg x < 3 := hx.lt; have : Int32.toNatClampNeg b9 < 3 := hb9.lt; have := hx.lt; have := hb9.lt; omega), y2.1]; decide) (inb (hM.ln4 (by have : Int32.toNatClampNeg x < 3 := hx.lt; have : Int32.toNatClampNeg b9 < 3 := hb9.lt; have := hx.lt; have := hb9.lt; omega)) (vp_in_nI (by omega) (by decide))) ?_
    refine h_abs (fun m9 e9 => ?_)
    rw [show (nI j).toNatClampNeg = j from cl_of (by omega)] at e9
    have hT := hT.ser (j := 63 + 3 * cl x + cl b9) (by have := hx.lt; have := hb9.lt; omega) (Or.inr trivial) e9 (hM.pWt hx.lt hb9.lt e9 y2 (rs' := M.set j (L[j + 1])) (by rw [show (S.sWt (cl x) (cl b9) M).wt (cl x) (cl b9) = M from w2_eq]; exact PutAt.set) (by rw [List.length_set]; omega))
    rw [sWt_sWt] at hT
    refine h_iinc_7 (q := 1) C dX9_send_223 (by decide) ct_i ?_
    refine h_goto (tgt := 191) C dX9_send_226 (by decide) ?_
    rw [nI_1]
    exact ih (j + 1) m9 (M.set j (L[j + 1])) (by omega) (by rw [List.length_set]; exact hM1) (fun i => by
      rw [List.getElem?_set]
      by_cases c9 : j = i
      · subst c9
        rw [if_pos rfl, if_pos (by omega), if_pos (by omega)]
        exact (List.getElem?_eq_getElem hj1).symm
      · rw [if_neg c9, hM2]
        by_cases c8 : i < j
        · rw [if_pos c8, if_pos (by omega)]
        · rw [if_neg c8, if_neg (by omega)]) hT

set_option maxRecDepth 100000 in
set_option maxHeartbeats 1000000 in
theorem lp_X9_sendT {Z : Zx} {Post : Option Value → Mem → Prop} {PostX : String → Mem → Prop} {mc ms : Nat} {Q : Nat → Nat} {S1 : Sx} {t : Int32} {μ0 mz : Mem} {x s d l9 z5 b9 : Int32} (C : Cx Z RX9 cX9_send 5 mc ms 116) (E : Rt Z mc ms (some .int) Post PostX) (hx : isE x) (hb9 : isE b9) {k0 n0 : Nat} (hk2 : k0 + 6 ≤ mc) (hn2 : n0 + 36 ≤ ms) (h4 : (S1.wt (cl x) (cl b9)).length < 4) (hHN : 0 ≤ (HNUM S1).toInt ∧ (HNUM S1).toInt < 1000000) (hfn : ∀ r, S1.fl (cl x) (cl b9) = some r → ¬ r 0 = -1) (hT : MTo Q WAll μ0 S1 (LXo S1 t) mz)
    (hP : ∀ m, MTo Q WAll μ0 (GUF (S1.sWt (cl x) (cl b9) (S1.wt (cl x) (cl b9) ++ [mkP s d l9])) (cl x) (cl b9)) (LXo (GUF (S1.sWt (cl x) (cl b9) (S1.wt (cl x) (cl b9) ++ [mkP s d l9])) (cl x) (cl b9)) t) m → Post (some (.int 0)) m) : ∀ z7 : Option Value, HW Z k0 n0 242 [some (.ref (Q 0)), some (.int x), some (.int s), some (.int d), some (.int l9), some (.int z5), some (.int b9), z7] [] mz := by
  intro z7
  have hM := hT.1
  refine h_al_g C dX9_send_242 rfl rfl rfv_r ?_
  refine gs_X9_69 C dX9_send_243 hM.kX (hM.fA (i := 17) (by decide)) ?_
  refine h_iload_g C dX9_send_246 rfl rfl ?_
  refine h_aald (r := some _) C dX9_send_247 (hM.kr (by decide)) (inb (hM.ln3 (by decide)) (vp_isE hx.1 hx.2 (by decide))) (atI rfl (hM.d1 (i := 0) (by decide) hx.lt)) ?_
  refine h_iload_w C dX9_send_248 rfl ?_
  refine h_aald (r := some _) C dX9_send_250 (hM.kr (by have h0_ := hx.lt; have g0_ : Int32.toNatClampNeg x < 3 := hx.lt; omega)) (inb (hM.ln3 (by have h0_ := hx.lt; have g0_ : Int32.toNatClampNeg x < 3 := hx.lt; omega)) (vp_isE hb9.1 hb9.2 (by decide))) (atI rfl (hM.d2 (i := 0) (by decide) hx.lt hb9.lt)) ?_
  refine h_al_g C dX9_send_251 rfl rfl rfv_r ?_
  refine gs_X9_64 C dX9_send_252 hM.kX (hM.fA (i := 16) (by decide)) ?_
  refine h_iload_g C dX9_send_255 rfl rfl ?_
  refine h_aald (r := some _) C dX9_send_256 (hM.kr (by decide)) (inb (hM.ln3 (by decide)) (vp_isE hx.1 hx.2 (by decide))) (atI rfl (hM.tb (t := 9) (by decide) hx.lt)) ?_
  refine h_iload_w C dX9_send_257 rfl ?_
  refine h_dup2 C dX9_send_259 rfl rfl ?_
  refine h_iald C dX9_send_260 (hM.k11 (by have h0_ := hx.lt; have g0_ : Int32.toNatClampNeg x < 3 := hx.lt; omega)) (inb (hM.ln3 (by have h0_ := hx.lt; have g0_ : Int32.toNatClampNeg x < 3 := hx.lt; omega)) (vp_isE hb9.1 hb9.2 (by decide))) (atI rfl (hM.t9 hx.lt hb9.lt)) ?_
  refine h_dup_x2 C dX9_send_261 rfl rfl rfl ?_
  refine h_iconst (v := 1) C dX9_send_262 (by decide) ?_
  refine h_iadd C dX9_send_263 ?_
  refine h_iast C dX9_send_264 (hM.k11 (by have h0_ := hx.lt; have g0_ : Int32.toNatClampNeg x < 3 := hx.lt; omega)) (inb (hM.ln3 (by have h0_ := hx.lt; have g0_ : Int32.toNatClampNeg x < 3 := hx.lt; omega)) (vp_isE hb9.1 hb9.2 (by decide))) ?_
  refine h_abs (fun m1 em1 => ?_)
  rw [show (nI ((LXo S1 t).wl (cl x) (cl b9)) + 1 : Int32) = nI ((S1.wt (cl x) (cl b9)).length + 1) from nI_1 _] at em1
  have hT := hT.sei (j := 21 + 3 * 9 + (cl x)) (by have h0_ := hx.lt; omega) (Or.inr trivial) em1 (hT.1.wT9 hx.lt hb9.lt em1)
  have hM := hT.1
  refine h_iconst (v := 3) C dX9_send_265 (by decide) ?_
  refine h_newarr (atype := .int) (N := 3) (11 + 32 * 100) C ac_11 (by decide) (Or.inl (by decide)) dX9_send_266 (by decide) (by decide) (by decide) (by omega) (by omega) (fun qa hqa => ?_)
  refine h_abs (fun m2 em2 => ?_)
  have hLqa := NL.new em2
  have hwqa := hT.fresh hqa
  have hT := hT.newT hqa em2
  have hM := hT.1
  refine h_dup C dX9_send_268 rfl ?_
  refine h_iconst (v := 0) C dX9_send_269 (by decide) ?_
  refine h_iload_g C dX9_send_270 rfl rfl ?_
  refine h_iast C dX9_send_271 hLqa.k (inb hLqa.2.1 (vp_in_nI (n := 0) (by decide) (by decide))) ?_
  refine h_abs (fun m3 em3 => ?_)
  rw [show Int32.toNatClampNeg 0 = 0 from rfl] at em3
  have hT := hT.tmp hLqa hwqa em3
  have hM := hT.1
  have hLqa := hLqa.push em3 rfl
  refine h_dup C dX9_send_272 rfl ?_
  refine h_iconst (v := 1) C dX9_send_273 (by decide) ?_
  refine h_iload_g C dX9_send_274 rfl rfl ?_
  refine h_iast C dX9_send_275 hLqa.k (inb hLqa.2.1 (vp_in_nI (n := 1) (by decide) (by decide))) ?_
  refine h_abs (fun m4 em4 => ?_)
  rw [show Int32.toNatClampNeg 1 = 1 from rfl] at em4
  have hT := hT.tmp hLqa hwqa em4
  have hM := hT.1
  have hLqa := hLqa.push em4 rfl
  refine h_dup C dX9_send_276 rfl ?_
  refine h_iconst (v := 2) C dX9_send_277 (by decide) ?_
  refine h_iload_w C dX9_send_278 rfl ?_
  refine h_iast C dX9_send_280 hLqa.k (inb hLqa.2.1 (vp_in_nI (n := 2) (by decide) (by decide))) ?_
  refine h_abs (fun m5 em5 => ?_)
  rw [show Int32.toNatClampNeg 2 = 2 from rfl] at em5
  have hT := hT.tmp hLqa hwqa em5
  have hM := hT.1
  have hLqa := hLqa.push em5 rfl
  refine h_skd qa KIM (by rw [hLqa.1]; decide) (by rw [hLqa.1]; decide) ?_
  have hT := hT.mark hLqa.1 (k := KIM) ⟨by decide, by decide⟩ hwqa
  have hR := hLqa.row (k := KIM) (r := mkP s d l9) rfl (fun i hi => by
    have h9 : i = 0 ∨ i = 1 ∨ i = 2 := by have : i < 3 := hi; omega
    rcases h9 with h9 | h9 | h9
    · subst h9; rfl
    · subst h9; rfl
    · subst h9; rfl)
  have hM := hT.1
  refine h_aast C dX9_send_281 (by rw [hM.k17 (by have : Int32.toNatClampNeg x < 3 := hx.lt; have : Int32.toNatClampNeg b9 < 3 := hb9.lt; have := hx.lt; have := hb9.lt; omega), kd_skd]; decide) (inb (hM.ln4 (by have : Int32.toNatClampNeg x < 3 := hx.lt; have : Int32.toNatClampNeg b9 < 3 := hb9.lt; have := hx.lt; have := hb9.lt; omega)) (vp_in_nI (show (S1.wt (cl x) (cl b9)).length < 4 from h4) (by decide))) ?_
  refine h_abs (fun m9 e9 => ?_)
  rw [show Int32.toNatClampNeg (nI ((LXo S1 t).wl (cl x) (cl b9))) = (S1.wt (cl x) (cl b9)).length from cl_of (show (S1.wt (cl x) (cl b9)).length < 2 ^ 31 by omega)] at e9
  have hT := hT.ser (j := 63 + 3 * cl x + cl b9) (by have := hx.lt; have := hb9.lt; omega) (Or.inr trivial) e9 (hM.pWt hx.lt hb9.lt e9 hR (rs' := S1.wt (cl x) (cl b9) ++ [mkP s d l9]) PutAt.app (by rw [List.length_append]; show _ + 1 ≤ 4; omega))
  have hT := hT.lxW (List.length_append (as := S1.wt (cl x) (cl b9)) (bs := [_])).symm
  have hM := hT.1
  refine h_al_g C dX9_send_282 rfl rfl rfv_r ?_
  refine h_iload_g C dX9_send_283 rfl rfl ?_
  refine h_iload_w C dX9_send_284 rfl ?_
  refine h_callV2 (ci := 9) C (k_X9_isFrQ Z.l Z.G Q _ _ _ hM x b9 hx hb9) cw_X9_235 im_X9_isFresh sl_X9_isFresh rfl (by decide) hM.kX dX9_send_286 (by first | decide | exact Nat.le_of_ble_eq_true rfl) (by decide) (by decide) (by omega) (by omega) (kB (fun μ1 hp1 => ?_) (fun μ1 hp1 => ?_)) kN
  · obtain ⟨rfl, hf1⟩ := hp1
    have hfr := (FREb_M hM hx.lt hb9.lt hfn).mp hf1
    refine h_if_ne (tgt := 300) C dX9_send_289 (by decide) (fun c1 => ?_) (fun c1 => absurd c1 (by decide))
    refine h_iconst (v := 0) C dX9_send_300 (by decide) ?_
    refine h_iret C E dX9_send_301 (by omega) (by omega) ?_
    exact hP _ (by unfold GUF; rw [if_pos hfr]; exact hT)
  · obtain ⟨rfl, hf1⟩ := hp1
    have hfr := fun z => hf1 ((FREb_M hM hx.lt hb9.lt hfn).mpr z)
    refine h_if_ne (tgt := 300) C dX9_send_289 (by decide) (fun c2 => absurd c2 (by decide)) (fun c2 => ?_)
    refine h_al_g C dX9_send_292 rfl rfl rfv_r ?_
    refine h_iload_g C dX9_send_293 rfl rfl ?_
    refine h_iload_w C dX9_send_294 rfl ?_
    refine h_callV2 (ci := 9) C (k_X9_hello Z.l Z.G Q (S1.sWt (cl x) (cl b9) (S1.wt (cl x) (cl b9) ++ [mkP s d l9])) _ _ hM _ hx.lt _ hx.nI _ hb9.lt _ hb9.nI hHN) cw_X9_238 im_X9_hello sl_X9_hello rfl (by decide) hM.kX dX9_send_296 (by first | decide | exact Nat.le_of_ble_eq_true rfl) (by decide) (by decide) (by omega) (by omega) (kI fun r2 μ2 hp2 => ?_) kN
    obtain ⟨-, hHe⟩ := hp2
    have hT := hT.tr hHe (fun _ _ => trivial)
    have hM := hT.1
    refine h_pop C dX9_send_299 rfl ?_
    refine h_iconst (v := 0) C dX9_send_300 (by decide) ?_
    refine h_iret C E dX9_send_301 (by omega) (by omega) ?_
    exact hP _ (by unfold GUF; rw [if_neg hfr]; exact hT)

set_option maxRecDepth 100000 in
set_option maxHeartbeats 1000000 in
theorem lp_X9_sendD {Z : Zx} {rf mc ms rl : Nat} {Q : Nat → Nat} {S : Sx} {t : Int32} {μ0 mz : Mem} {x s d l9 z5 b9 : Int32} (C : Cx Z RX9 cX9_send rf mc ms rl) (hx : isE x) (hb9 : isE b9) {k0 n0 : Nat} {M : List Row} (hL4 : (S.wt (cl x) (cl b9)).length = 4) (hM1 : M.length = 4) (hM2 : ∀ i : Nat, M[i]? = if i < 3 then (S.wt (cl x) (cl b9))[i + 1]? else (S.wt (cl x) (cl b9))[i]?) (hT : MTo Q WAll μ0 (S.sWt (cl x) (cl b9) M) (LXo S t) mz)
    (kk : ∀ m, MTo Q WAll μ0 (S.sWt (cl x) (cl b9) ((S.wt (cl x) (cl b9)).eraseIdx 0)) (LXo (S.sWt (cl x) (cl b9) ((S.wt (cl x) (cl b9)).eraseIdx 0)) t) m → ∀ z7 : Option Value, HW Z k0 n0 242 [some (.ref (Q 0)), some (.int x), some (.int s), some (.int d), some (.int l9), some (.int z5), some (.int b9), z7] [] m) : ∀ z7 : Option Value, HW Z k0 n0 229 [some (.ref (Q 0)), some (.int x), some (.int s), some (.int d), some (.int l9), some (.int z5), some (.int b9), z7] [] mz := by
  intro z7
  have hM := hT.1
  refine h_al_g C dX9_send_229 rfl rfl rfv_r ?_
  refine gs_X9_64 C dX9_send_230 hM.kX (hM.fA (i := 16) (by decide)) ?_
  refine h_iload_g C dX9_send_233 rfl rfl ?_
  refine h_aald (r := some _) C dX9_send_234 (hM.kr (by decide)) (inb (hM.ln3 (by decide)) (vp_isE hx.1 hx.2 (by decide))) (atI rfl (hM.tb (t := 9) (by decide) hx.lt)) ?_
  refine h_iload_w C dX9_send_235 rfl ?_
  refine h_dup2 C dX9_send_237 rfl rfl ?_
  refine h_iald C dX9_send_238 (hM.k11 (by have h0_ := hx.lt; have g0_ : Int32.toNatClampNeg x < 3 := hx.lt; omega)) (inb (hM.ln3 (by have h0_ := hx.lt; have g0_ : Int32.toNatClampNeg x < 3 := hx.lt; omega)) (vp_isE hb9.1 hb9.2 (by decide))) (atI rfl (hM.t9 hx.lt hb9.lt)) ?_
  refine h_iconst (v := 1) C dX9_send_239 (by decide) ?_
  refine h_isub C dX9_send_240 ?_
  refine h_iast C dX9_send_241 (hM.k11 (by have h0_ := hx.lt; have g0_ : Int32.toNatClampNeg x < 3 := hx.lt; omega)) (inb (hM.ln3 (by have h0_ := hx.lt; have g0_ : Int32.toNatClampNeg x < 3 := hx.lt; omega)) (vp_isE hb9.1 hb9.2 (by decide))) ?_
  refine h_abs (fun m1 em1 => ?_)
  rw [show (nI ((LXo S t).wl (cl x) (cl b9)) - 1 : Int32) = nI 3 from by rw [show ((LXo S t).wl (cl x) (cl b9)) = 4 from hL4]; rfl] at em1
  have hT := hT.sei (j := 21 + 3 * 9 + (cl x)) (by have h0_ := hx.lt; omega) (Or.inr trivial) em1 (hT.1.wT9 (n := 3) hx.lt hb9.lt em1)
  have hM := hT.1
  refine kk _ ?_ _
  have h7 : MRq Q (S.sWt (cl x) (cl b9) ((S.wt (cl x) (cl b9)).eraseIdx 0)) ((LXo S t).sWl (cl x) (cl b9) 3) m1 := by
    have h8 := hT.1.subWt (a := cl x) (b := cl b9) (rs' := (S.wt (cl x) (cl b9)).eraseIdx 0) (fun k r hk => by
      rw [show (S.sWt (cl x) (cl b9) M).wt (cl x) (cl b9) = M from w2_eq, hM2]
      have hk9 := (List.getElem?_eq_some_iff.mp hk).1
      rw [List.length_eraseIdx, if_pos (by omega)] at hk9
      rw [List.getElem?_eraseIdx, if_neg (Nat.not_lt_zero _)] at hk
      rw [if_pos (by omega)]
      exact hk) (by rw [List.length_eraseIdx, if_pos (by omega)]; omega)
    rw [sWt_sWt] at h8
    exact h8
  have h6 : MTo Q WAll μ0 (S.sWt (cl x) (cl b9) ((S.wt (cl x) (cl b9)).eraseIdx 0)) ((LXo S t).sWl (cl x) (cl b9) 3) m1 := ⟨h7, hT.2⟩
  exact h6.lxW (by rw [List.length_eraseIdx, if_pos (by omega)]; omega)

set_option maxRecDepth 100000 in
set_option maxHeartbeats 1000000 in
theorem k_X9_send (l : Launch) (G : Gx) (Q : Nat → Nat) (S : Sx) (t : Int32) (μ : Mem) (hM : MRq Q S (LXo S t) μ) (x s d l9 : Int32) (hW : okW S) (hPr : ∀ e, e < 3 → ∀ r ∈ S.rt e, isE (r 2)) (h6 : ∀ a b w r, a < 3 → b < 3 → w < 3 → S.ses a b w = some r → r.1 6 = 0 ∨ r.1 6 = 1) : Kon l yX9_send cX9_send 8 (some .int) 5 8 61 116 G [.ref (Q 0), .int x, .int s, .int d, .int l9] μ (pI fun v μ' => (sndC x s d l9 = 0 ∧ ((¬ isE (GVN d (S.rt (cl x)) (-1) (-1)) ∧ v = -1 ∧ MTo Q WAll μ (S) (LXo (S) 0) μ') ∨ (isE (GVN d (S.rt (cl x)) (-1) (-1)) ∧ v = (SND S (cl x) (cl (GVN d (S.rt (cl x)) (-1) (-1))) s d l9).1 ∧ MTo Q WAll μ ((SND S (cl x) (cl (GVN d (S.rt (cl x)) (-1) (-1))) s d l9).2) (LXo ((SND S (cl x) (cl (GVN d (S.rt (cl x)) (-1) (-1))) s d l9).2) 0) μ'))) ∨ (¬ sndC x s d l9 = 0 ∧ MTo Q WAll μ S (LXo S (sndC x s d l9)) μ')) noX := by
  refine Kon.ofG (by decide +kernel) (Nat.le_of_ble_eq_true rfl) (Nat.le_of_ble_eq_true rfl) (fun Z hZG C E NT MT => ?_)
  subst hZG
  have C : Cx Z RX9 cX9_send 5 8 61 116 := C
  show HW Z 0 0 0 [some (.ref (Q 0)), some (.int x), some (.int s), some (.int d), some (.int l9), none, none, none] [] μ
  have hT : MTo Q WAll μ S (LXo S t) μ := MTo.rf hM
  have h60_ := hM.nt.1
  refine h_iload_g C dX9_send_0 rfl rfl ?_
  refine h_i2l C dX9_send_1 ?_
  refine h_lconst (v := 0) C dX9_send_2 (by decide) ?_
  refine h_ldc2 C kc_X9_220 dX9_send_3 ?_
  refine h_callS3 C (k_X9_isBetween Z.l Z.G _ _ _ _) cw_X9_91 st_X9_isBetween dX9_send_6 (by first | decide | exact Nat.le_of_ble_eq_true rfl) (by decide) (by decide) (by decide) (by decide) (kB (fun μ1 hp1 => ?_) (fun μ1 hp1 => ?_)) kN
  · obtain ⟨rfl, hBt⟩ := hp1
    rw [btw_i] at hBt
    have hB1 : inR s 0 255 := hBt
    refine h_if_eq (tgt := 41) C dX9_send_9 (by decide) (fun c1 => absurd c1 (by decide)) (fun c1 => ?_)
    refine h_iload_g C dX9_send_12 rfl rfl ?_
    refine h_i2l C dX9_send_13 ?_
    refine h_lconst (v := 0) C dX9_send_14 (by decide) ?_
    refine h_ldc2 C kc_X9_220 dX9_send_15 ?_
    refine h_callS3 C (k_X9_isBetween Z.l Z.G _ _ _ _) cw_X9_91 st_X9_isBetween dX9_send_18 (by first | decide | exact Nat.le_of_ble_eq_true rfl) (by decide) (by decide) (by decide) (by decide) (kB (fun μ2 hp2 => ?_) (fun μ2 hp2 => ?_)) kN
    · obtain ⟨rfl, hBt⟩ := hp2
      rw [btw_i] at hBt
      have hB2 : inR d 0 255 := hBt
      refine h_if_eq (tgt := 41) C dX9_send_21 (by decide) (fun c2 => absurd c2 (by decide)) (fun c2 => ?_)
      refine h_iload_w C dX9_send_24 rfl ?_
      refine h_i2l C dX9_send_26 ?_
      refine h_lconst (v := 0) C dX9_send_27 (by decide) ?_
      refine h_ldc2 C kc_X9_233 dX9_send_28 ?_
      refine h_callS3 C (k_X9_isBetween Z.l Z.G _ _ _ _) cw_X9_91 st_X9_isBetween dX9_send_31 (by first | decide | exact Nat.le_of_ble_eq_true rfl) (by decide) (by decide) (by decide) (by decide) (kB (fun μ3 hp3 => ?_) (fun μ3 hp3 => ?_)) kN
      · obtain ⟨rfl, hBt⟩ := hp3
        rw [btw_i] at hBt
        have hB3 : inR l9 0 9999 := hBt
        refine h_if_eq (tgt := 41) C dX9_send_34 (by decide) (fun c3 => absurd c3 (by decide)) (fun c3 => ?_)
        refine h_iconst (v := 1) C dX9_send_37 (by decide) ?_
        refine h_goto (tgt := 42) C dX9_send_38 (by decide) ?_
        refine h_ist_5 C dX9_send_42 ct_i ?_
        refine h_al_g C dX9_send_44 rfl rfl rfv_r ?_
        refine h_iload_g C dX9_send_45 rfl rfl ?_
        refine h_callS1 C (k_X9_isEnd Z.l Z.G _ _) cw_X9_98 st_X9_isEnd dX9_send_46 (by first | decide | exact Nat.le_of_ble_eq_true rfl) (by decide) (by decide) (by decide) (by decide) (kB (fun μ4 hp4 => ?_) (fun μ4 hp4 => ?_)) kN
        · obtain ⟨rfl, hx⟩ := hp4
          refine h_if_ne (tgt := 56) C dX9_send_49 (by decide) (fun c4 => ?_) (fun c4 => absurd c4 (by decide))
          refine h_iload_w C dX9_send_56 rfl ?_
          refine h_if_ne (tgt := 65) C dX9_send_58 (by decide) (fun c5 => ?_) (fun c5 => absurd c5 (by decide))
          refine h_iconst (v := 0) C dX9_send_65 (by decide) ?_
          refine h_callV1 (ci := 9) C (k_X9_isWrong Z.l Z.G (Q 0) _ hM.kX (0)) cw_X9_215 im_X9_isWrong sl_X9_isWrong rfl (by decide) hM.kX dX9_send_66 (by first | decide | exact Nat.le_of_ble_eq_true rfl) (by decide) (by decide) (by decide) (by decide) (kB (fun μ5 hp5 => ?_) (fun μ5 hp5 => ?_)) kN
          · obtain ⟨hc, e9⟩ := hp5
            exact absurd rfl hc
          · obtain ⟨hc, e9⟩ := hp5
            have hT := hT.sfi (Or.inr trivial) e9 (hT.1.w290 e9)
            have hM := hT.1
            have hcode : sndC x s d l9 = 0 := (if_pos hx).trans ((if_pos hB1).trans ((if_pos hB2).trans (if_pos hB3)))
            refine h_if_eq (tgt := 74) C dX9_send_69 (by decide) (fun c6 => ?_) (fun c6 => absurd (by decide) c6)
            refine h_al_g C dX9_send_74 rfl rfl rfv_r ?_
            refine h_iload_g C dX9_send_75 rfl rfl ?_
            refine h_iload_g C dX9_send_76 rfl rfl ?_
            refine h_callV2 (ci := 9) C (k_X9_given Z.l Z.G Q S _ _ hM _ hx.lt _ hx.nI d ⟨cl d, by have h8 : d.toInt ≤ 255 := hB2.2; have := cl_eq (x := d) hB2.1; omega, cl_nI hB2.1⟩ (hW.2.2.2.2.2.1 _ hx.lt)) cw_X9_196 im_X9_given sl_X9_given rfl (by decide) hM.kX dX9_send_77 (by first | decide | exact Nat.le_of_ble_eq_true rfl) (by decide) (by decide) (by decide) (by decide) (kI fun b9 μ6 hp6 => ?_) kN
            obtain ⟨rfl, hgv⟩ := hp6
            refine h_ist_6 C dX9_send_80 ct_i ?_
            refine h_iload_w C dX9_send_82 rfl ?_
            refine h_iconst (v := (-1)) C dX9_send_84 (by decide) ?_
            refine h_icmp_ne (tgt := 90) C dX9_send_85 (by decide) (fun cG => ?_) (fun cG => ?_)
            · have hb9 : isE b9 := by
                rcases GVN_in d (S.rt (cl x)) (-1) (-1) with h | ⟨r, h1, h2⟩
                · exact absurd (hgv.trans h) cG
                · rw [hgv, h2]
                  exact hPr _ hx.lt r h1
              have hHN : 0 ≤ (HNUM S).toInt ∧ (HNUM S).toInt < 1000000 := ⟨Int.le_of_lt hW.2.1.1, hW.2.1.2⟩
              have hfn : ∀ r, S.fl (cl x) (cl b9) = some r → ¬ r 0 = -1 := fun r h e => by
                have h9 := (hW.2.2.2.1 (cl x) (cl b9) r hx.lt hb9.lt h).1
                rw [e] at h9
                exact absurd h9 (by decide)
              refine h_al_g C dX9_send_90 rfl rfl rfv_r ?_
              refine h_iload_g C dX9_send_91 rfl rfl ?_
              refine h_iload_w C dX9_send_92 rfl ?_
              refine h_callV2 (ci := 9) C (k_X9_usable Z.l Z.G Q S _ _ hM _ hx.lt _ hx.nI _ hb9.lt _ hb9.nI) cw_X9_173 im_X9_usable sl_X9_usable rfl (by decide) hM.kX dX9_send_94 (by first | decide | exact Nat.le_of_ble_eq_true rfl) (by decide) (by decide) (by decide) (by decide) (kB (fun μ7 hp7 => ?_) (fun μ7 hp7 => ?_)) kN
              · obtain ⟨rfl, r, hU⟩ := hp7
                refine h_if_eq (tgt := 175) C dX9_send_97 (by decide) (fun c8 => absurd c8 (by decide)) (fun c8 => ?_)
                refine h_al_g C dX9_send_100 rfl rfl rfv_r ?_
                refine h_iload_g C dX9_send_101 rfl rfl ?_
                refine h_iload_w C dX9_send_102 rfl ?_
                refine h_iload_g C dX9_send_104 rfl rfl ?_
                refine h_iload_g C dX9_send_105 rfl rfl ?_
                refine h_iload_w C dX9_send_106 rfl ?_
                refine h_callV5 (ci := 9) C (k_X9_data Z.l Z.G Q S _ _ hM _ hx.lt _ hx.nI _ hb9.lt _ hb9.nI _ _ _ r (USE_some hU) (hW.km hx.lt hb9.lt r (USE_some hU)).1 (hW.km hx.lt hb9.lt r (USE_some hU)).2) cw_X9_176 im_X9_data sl_X9_data rfl (by decide) hM.kX dX9_send_108 (by first | decide | exact Nat.le_of_ble_eq_true rfl) (by decide) (by decide) (by decide) (by decide) (kV fun μ8 hp8 => ?_) kN
                have hDa := hp8
                have hT := hT.tr hDa (fun _ _ => trivial)
                have hM := hT.1
                have hS9 : (DATS S (cl x) (cl b9) r s d l9).ses (cl x) (cl b9) 1 = some (u1 r.1 5 (r.1 5 + 1), r.2) := w3_eq
                obtain ⟨s9, s1, s2, s3, s4⟩ := hM.se hx.lt hb9.lt (w := 1) (by decide) (fun z => z)
                rw [hS9] at s4
                refine h_al_g C dX9_send_111 rfl rfl rfv_r ?_
                refine gs_X9_72 C dX9_send_112 hM.kX (hM.fA (i := 18) (by decide)) ?_
                refine h_iload_g C dX9_send_115 rfl rfl ?_
                refine h_aald (r := some _) C dX9_send_116 (hM.kr (by decide)) (inb (hM.ln3 (by decide)) (vp_isE hx.1 hx.2 (by decide))) (atI rfl (hM.d1 (i := 1) (by decide) hx.lt)) ?_
                refine h_iload_w C dX9_send_117 rfl ?_
                refine h_aald (r := some _) C dX9_send_119 (hM.kr (by have h0_ := hx.lt; have g0_ : Int32.toNatClampNeg x < 3 := hx.lt; omega)) (inb (hM.ln3 (by have h0_ := hx.lt; have g0_ : Int32.toNatClampNeg x < 3 := hx.lt; omega)) (vp_isE hb9.1 hb9.2 (by decide))) (atI rfl (hM.d2 (i := 1) (by decide) hx.lt hb9.lt)) ?_
                refine h_iconst (v := 1) C dX9_send_120 (by decide) ?_
                refine h_aald (r := some _) C dX9_send_121 (hM.kr (by have : Int32.toNatClampNeg x < 3 := hx.lt; have : Int32.toNatClampNeg b9 < 3 := hb9.lt; have := hx.lt; have := hb9.lt; omega)) (inb (hM.ln3 (by have : Int32.toNatClampNeg x < 3 := hx.lt; have : Int32.toNatClampNeg b9 < 3 := hb9.lt; have := hx.lt; have := hb9.lt; omega)) (vp_in_nI (n := 1) (by decide) (by decide))) (atI (show (1 : Int32).toNatClampNeg = 1 from rfl) s1) ?_
                refine h_ast_7 C dX9_send_122 ct_i rfv_r ?_
                refine h_al_w (j := 0) C dX9_send_124 rfl rfv_r ?_
                refine h_bipush (v := 6) C dX9_send_126 (by decide) ?_
                refine h_iald C dX9_send_128 (by rw [s2]; exact KSE_m _ _ _) (inb s3 (vp_in_nI (n := 6) (by decide) (by decide))) (s4.2 6 (by decide)) ?_
                refine h_iconst (v := 1) C dX9_send_129 (by decide) ?_
                refine h_icmp_ne (tgt := 173) C dX9_send_130 (by decide) (fun c6 => ?_) (fun c6 => ?_)
                · refine h_iconst (v := 1) C dX9_send_173 (by decide) ?_
                  refine h_iret C E dX9_send_174 (by decide) (by decide) ?_
                  have hr6 : r.1 6 = 0 := (h6 _ _ 1 r hx.lt hb9.lt (by decide) (USE_some hU)).resolve_right (fun z => c6 ((show u1 r.1 5 (r.1 5 + 1) 6 = r.1 6 from u1_ne (by decide)).trans z))
                  have hSN : SND S (cl x) (cl b9) s d l9 = (1, DATS S (cl x) (cl b9) r s d l9) := by
                    unfold SND
                    rw [hU]
                    exact congrArg (fun q => ((1 : Int32), q)) (if_neg (fun z => z.1 hr6))
                  exact ⟨_, rfl, Or.inl ⟨hcode, Or.inr ⟨by rw [← hgv]; exact hb9, by rw [← hgv, hSN], by rw [← hgv, hSN]; exact hT⟩⟩⟩
                · refine h_al_g C dX9_send_133 rfl rfl rfv_r ?_
                  refine h_iload_g C dX9_send_134 rfl rfl ?_
                  refine h_iload_w C dX9_send_135 rfl ?_
                  refine h_iconst (v := 1) C dX9_send_137 (by decide) ?_
                  refine h_callV3 (ci := 9) C (k_X9_age Z.l Z.G Q _ _ _ hM _ hx.lt _ hx.nI _ hb9.lt _ hb9.nI 1 (by decide) 1 rfl _ hS9) cw_X9_170 im_X9_age sl_X9_age rfl (by decide) hM.kX dX9_send_138 (by first | decide | exact Nat.le_of_ble_eq_true rfl) (by decide) (by decide) (by decide) (by decide) (kI fun r8 μ9 hp9 => ?_) kN
                  obtain ⟨rfl, rfl⟩ := hp9
                  refine h_bipush (v := 20) C dX9_send_141 (by decide) ?_
                  refine h_icmp_ge (tgt := 155) C dX9_send_143 (by decide) (fun cY => ?_) (fun cY => ?_)
                  · refine h_al_g C dX9_send_155 rfl rfl rfv_r ?_
                    refine h_iload_g C dX9_send_156 rfl rfl ?_
                    refine h_iload_w C dX9_send_157 rfl ?_
                    refine h_callV2 (ci := 9) C (k_X9_isFrQ Z.l Z.G Q _ _ _ hM x b9 hx hb9) cw_X9_235 im_X9_isFresh sl_X9_isFresh rfl (by decide) hM.kX dX9_send_159 (by first | decide | exact Nat.le_of_ble_eq_true rfl) (by decide) (by decide) (by decide) (by decide) (kB (fun μ10 hp10 => ?_) (fun μ10 hp10 => ?_)) kN
                    · obtain ⟨rfl, hf1⟩ := hp10
                      have hfr := (FREb_M hM hx.lt hb9.lt hfn).mp hf1
                      refine h_if_ne (tgt := 173) C dX9_send_162 (by decide) (fun c11 => ?_) (fun c11 => absurd c11 (by decide))
                      refine h_iconst (v := 1) C dX9_send_173 (by decide) ?_
                      refine h_iret C E dX9_send_174 (by decide) (by decide) ?_
                      have hr6 : ¬ r.1 6 = 0 := fun z => absurd ((show u1 r.1 5 (r.1 5 + 1) 6 = r.1 6 from u1_ne (by decide)).symm.trans c6) (by rw [z]; decide)
                      have hY : (20 : Int32) ≤ S.sc 0 - r.1 2 := cY
                      have hSN : SND S (cl x) (cl b9) s d l9 = (1, DATS S (cl x) (cl b9) r s d l9) := by
                        unfold SND
                        rw [hU]
                        exact congrArg (fun q => ((1 : Int32), q)) ((if_pos ⟨hr6, Or.inl hY⟩).trans (if_pos hfr))
                      exact ⟨_, rfl, Or.inl ⟨hcode, Or.inr ⟨by rw [← hgv]; exact hb9, by rw [← hgv, hSN], by rw [← hgv, hSN]; exact hT⟩⟩⟩
                    · obtain ⟨rfl, hf1⟩ := hp10
                      have hfr := fun z => hf1 ((FREb_M hM hx.lt hb9.lt hfn).mpr z)
                      refine h_if_ne (tgt := 173) C dX9_send_162 (by decide) (fun c12 => absurd c12 (by decide)) (fun c12 => ?_)
                      refine h_al_g C dX9_send_165 rfl rfl rfv_r ?_
                      refine h_iload_g C dX9_send_166 rfl rfl ?_
                      refine h_iload_w C dX9_send_167 rfl ?_
                      refine h_callV2 (ci := 9) C (k_X9_hello Z.l Z.G Q (DATS S (cl x) (cl b9) r s d l9) _ _ hM _ hx.lt _ hx.nI _ hb9.lt _ hb9.nI hHN) cw_X9_238 im_X9_hello sl_X9_hello rfl (by decide) hM.kX dX9_send_169 (by first | decide | exact Nat.le_of_ble_eq_true rfl) (by decide) (by decide) (by decide) (by decide) (kI fun r10 μ11 hp11 => ?_) kN
                      obtain ⟨-, hHe⟩ := hp11
                      have hT := hT.tr hHe (fun _ _ => trivial)
                      have hM := hT.1
                      refine h_pop C dX9_send_172 rfl ?_
                      refine h_iconst (v := 1) C dX9_send_173 (by decide) ?_
                      refine h_iret C E dX9_send_174 (by decide) (by decide) ?_
                      have hr6 : ¬ r.1 6 = 0 := fun z => absurd ((show u1 r.1 5 (r.1 5 + 1) 6 = r.1 6 from u1_ne (by decide)).symm.trans c6) (by rw [z]; decide)
                      have hY : (20 : Int32) ≤ S.sc 0 - r.1 2 := cY
                      have hSN : SND S (cl x) (cl b9) s d l9 = (1, HELS (DATS S (cl x) (cl b9) r s d l9) (cl x) (cl b9)) := by
                        unfold SND
                        rw [hU]
                        exact congrArg (fun q => ((1 : Int32), q)) ((if_pos ⟨hr6, Or.inl hY⟩).trans (if_neg hfr))
                      exact ⟨_, rfl, Or.inl ⟨hcode, Or.inr ⟨by rw [← hgv]; exact hb9, by rw [← hgv, hSN], by rw [← hgv, hSN]; exact hT⟩⟩⟩
                  · refine h_al_w (j := 0) C dX9_send_146 rfl rfv_r ?_
                    refine h_iconst (v := 5) C dX9_send_148 (by decide) ?_
                    refine h_iald C dX9_send_149 (by rw [s2]; exact KSE_m _ _ _) (inb s3 (vp_in_nI (n := 5) (by decide) (by decide))) (s4.2 5 (by decide)) ?_
                    refine h_bipush (v := 30) C dX9_send_150 (by decide) ?_
                    refine h_icmp_lt (tgt := 173) C dX9_send_152 (by decide) (fun cK => ?_) (fun cK => ?_)
                    · refine h_iconst (v := 1) C dX9_send_173 (by decide) ?_
                      refine h_iret C E dX9_send_174 (by decide) (by decide) ?_
                      have hr6 : ¬ r.1 6 = 0 := fun z => absurd ((show u1 r.1 5 (r.1 5 + 1) 6 = r.1 6 from u1_ne (by decide)).symm.trans c6) (by rw [z]; decide)
                      have hY : ¬ (20 : Int32) ≤ S.sc 0 - r.1 2 := cY
                      have hK : ¬ (30 : Int32) ≤ r.1 5 + 1 := Int32.not_le.mpr cK
                      have hSN : SND S (cl x) (cl b9) s d l9 = (1, DATS S (cl x) (cl b9) r s d l9) := by
                        unfold SND
                        rw [hU]
                        exact congrArg (fun q => ((1 : Int32), q)) (if_neg (fun z => z.2.elim hY hK))
                      exact ⟨_, rfl, Or.inl ⟨hcode, Or.inr ⟨by rw [← hgv]; exact hb9, by rw [← hgv, hSN], by rw [← hgv, hSN]; exact hT⟩⟩⟩
                    · refine h_al_g C dX9_send_155 rfl rfl rfv_r ?_
                      refine h_iload_g C dX9_send_156 rfl rfl ?_
                      refine h_iload_w C dX9_send_157 rfl ?_
                      refine h_callV2 (ci := 9) C (k_X9_isFrQ Z.l Z.G Q _ _ _ hM x b9 hx hb9) cw_X9_235 im_X9_isFresh sl_X9_isFresh rfl (by decide) hM.kX dX9_send_159 (by first | decide | exact Nat.le_of_ble_eq_true rfl) (by decide) (by decide) (by decide) (by decide) (kB (fun μ12 hp12 => ?_) (fun μ12 hp12 => ?_)) kN
                      · obtain ⟨rfl, hf1⟩ := hp12
                        have hfr := (FREb_M hM hx.lt hb9.lt hfn).mp hf1
                        refine h_if_ne (tgt := 173) C dX9_send_162 (by decide) (fun c14 => ?_) (fun c14 => absurd c14 (by decide))
                        refine h_iconst (v := 1) C dX9_send_173 (by decide) ?_
                        refine h_iret C E dX9_send_174 (by decide) (by decide) ?_
                        have hr6 : ¬ r.1 6 = 0 := fun z => absurd ((show u1 r.1 5 (r.1 5 + 1) 6 = r.1 6 from u1_ne (by decide)).symm.trans c6) (by rw [z]; decide)
                        have hK : (30 : Int32) ≤ r.1 5 + 1 := Int32.not_lt.mp cK
                        have hSN : SND S (cl x) (cl b9) s d l9 = (1, DATS S (cl x) (cl b9) r s d l9) := by
                          unfold SND
                          rw [hU]
                          exact congrArg (fun q => ((1 : Int32), q)) ((if_pos ⟨hr6, Or.inr hK⟩).trans (if_pos hfr))
                        exact ⟨_, rfl, Or.inl ⟨hcode, Or.inr ⟨by rw [← hgv]; exact hb9, by rw [← hgv, hSN], by rw [← hgv, hSN]; exact hT⟩⟩⟩
                      · obtain ⟨rfl, hf1⟩ := hp12
                        have hfr := fun z => hf1 ((FREb_M hM hx.lt hb9.lt hfn).mpr z)
                        refine h_if_ne (tgt := 173) C dX9_send_162 (by decide) (fun c15 => absurd c15 (by decide)) (fun c15 => ?_)
                        refine h_al_g C dX9_send_165 rfl rfl rfv_r ?_
                        refine h_iload_g C dX9_send_166 rfl rfl ?_
                        refine h_iload_w C dX9_send_167 rfl ?_
                        refine h_callV2 (ci := 9) C (k_X9_hello Z.l Z.G Q (DATS S (cl x) (cl b9) r s d l9) _ _ hM _ hx.lt _ hx.nI _ hb9.lt _ hb9.nI hHN) cw_X9_238 im_X9_hello sl_X9_hello rfl (by decide) hM.kX dX9_send_169 (by first | decide | exact Nat.le_of_ble_eq_true rfl) (by decide) (by decide) (by decide) (by decide) (kI fun r12 μ13 hp13 => ?_) kN
                        obtain ⟨-, hHe⟩ := hp13
                        have hT := hT.tr hHe (fun _ _ => trivial)
                        have hM := hT.1
                        refine h_pop C dX9_send_172 rfl ?_
                        refine h_iconst (v := 1) C dX9_send_173 (by decide) ?_
                        refine h_iret C E dX9_send_174 (by decide) (by decide) ?_
                        have hr6 : ¬ r.1 6 = 0 := fun z => absurd ((show u1 r.1 5 (r.1 5 + 1) 6 = r.1 6 from u1_ne (by decide)).symm.trans c6) (by rw [z]; decide)
                        have hK : (30 : Int32) ≤ r.1 5 + 1 := Int32.not_lt.mp cK
                        have hSN : SND S (cl x) (cl b9) s d l9 = (1, HELS (DATS S (cl x) (cl b9) r s d l9) (cl x) (cl b9)) := by
                          unfold SND
                          rw [hU]
                          exact congrArg (fun q => ((1 : Int32), q)) ((if_pos ⟨hr6, Or.inr hK⟩).trans (if_neg hfr))
                        exact ⟨_, rfl, Or.inl ⟨hcode, Or.inr ⟨by rw [← hgv]; exact hb9, by rw [← hgv, hSN], by rw [← hgv, hSN]; exact hT⟩⟩⟩
              · obtain ⟨rfl, hU⟩ := hp7
                refine h_if_eq (tgt := 175) C dX9_send_97 (by decide) (fun c16 => ?_) (fun c16 => absurd (by decide) c16)
                refine h_al_g C dX9_send_175 rfl rfl rfv_r ?_
                refine gs_X9_64 C dX9_send_176 hM.kX (hM.fA (i := 16) (by decide)) ?_
                refine h_iload_g C dX9_send_179 rfl rfl ?_
                refine h_aald (r := some _) C dX9_send_180 (hM.kr (by decide)) (inb (hM.ln3 (by decide)) (vp_isE hx.1 hx.2 (by decide))) (atI rfl (hM.tb (t := 9) (by decide) hx.lt)) ?_
                refine h_iload_w C dX9_send_181 rfl ?_
                refine h_iald C dX9_send_183 (hM.k11 (by have h0_ := hx.lt; have g0_ : Int32.toNatClampNeg x < 3 := hx.lt; omega)) (inb (hM.ln3 (by have h0_ := hx.lt; have g0_ : Int32.toNatClampNeg x < 3 := hx.lt; omega)) (vp_isE hb9.1 hb9.2 (by decide))) (atI rfl (hM.t9 hx.lt hb9.lt)) ?_
                refine h_iconst (v := 4) C dX9_send_184 (by decide) ?_
                refine h_icmp_ne (tgt := 242) C dX9_send_185 (by decide) (fun cW => ?_) (fun cW => ?_)
                · have hw4 : (S.wt (cl x) (cl b9)).length < 4 := by
                    have h9 : (S.wt (cl x) (cl b9)).length ≠ 4 := fun z => cW (by show nI (S.wt (cl x) (cl b9)).length = 4; rw [z]; rfl)
                    have h8 := (hM.wt hx.lt hb9.lt).1
                    omega
                  have hSN : SND S (cl x) (cl b9) s d l9 = (0, GUF (S.sWt (cl x) (cl b9) (PTW (S.wt (cl x) (cl b9)) (mkP s d l9))) (cl x) (cl b9)) := by unfold SND; rw [hU]
                  have hP4 : PTW (S.wt (cl x) (cl b9)) (mkP s d l9) = S.wt (cl x) (cl b9) ++ [mkP s d l9] := by unfold PTW; rw [if_neg (by omega)]
                  exact lp_X9_sendT C E hx hb9 (by omega) (by omega) hw4 hHN hfn hT (fun m hTm => ⟨_, rfl, Or.inl ⟨hcode, Or.inr ⟨by rw [← hgv]; exact hb9, by rw [← hgv, hSN], by rw [← hgv, hSN, hP4]; exact hTm⟩⟩⟩) _
                · have hw4 : (S.wt (cl x) (cl b9)).length = 4 := by
                    have h8 := (hM.wt hx.lt hb9.lt).1
                    have h9 : cl (nI (S.wt (cl x) (cl b9)).length) = cl 4 := congrArg cl cW
                    rw [cl_of (by omega)] at h9
                    exact h9
                  refine h_iconst (v := 0) C dX9_send_188 (by decide) ?_
                  refine h_ist_7 C dX9_send_189 ct_i ?_
                  have hSN : SND S (cl x) (cl b9) s d l9 = (0, GUF (S.sWt (cl x) (cl b9) (PTW (S.wt (cl x) (cl b9)) (mkP s d l9))) (cl x) (cl b9)) := by unfold SND; rw [hU]
                  have hP4 : PTW (S.wt (cl x) (cl b9)) (mkP s d l9) = (S.wt (cl x) (cl b9)).eraseIdx 0 ++ [mkP s d l9] := by unfold PTW; rw [if_pos (by omega)]
                  refine lp_X9_send C hx hb9 (L := S.wt (cl x) (cl b9)) hw4 (fun m1 M hM1 hM2 hT1 z71 => lp_X9_sendD C hx hb9 hw4 hM1 hM2 hT1 (fun m2 hT2 z72 => lp_X9_sendT (S1 := S.sWt (cl x) (cl b9) ((S.wt (cl x) (cl b9)).eraseIdx 0)) C E hx hb9 (by omega) (by omega) (show (w2 S.wt (cl x) (cl b9) ((S.wt (cl x) (cl b9)).eraseIdx 0) (cl x) (cl b9)).length < 4 from by rw [w2_eq, List.length_eraseIdx, if_pos (by omega)]; omega) hHN hfn hT2 (fun m hTm => ⟨_, rfl, Or.inl ⟨hcode, Or.inr ⟨by rw [← hgv]; exact hb9, by rw [← hgv, hSN], ?_⟩⟩⟩) z72) z71) 3 0 _ (S.wt (cl x) (cl b9)) (by decide) hw4 (fun k => by rw [if_neg (by omega)]) (by rw [show S.sWt (cl x) (cl b9) (S.wt (cl x) (cl b9)) = S from sWt_id]; exact hT)
                  rw [← hgv, hSN, hP4]
                  rw [show (S.sWt (cl x) (cl b9) ((S.wt (cl x) (cl b9)).eraseIdx 0)).wt (cl x) (cl b9) = (S.wt (cl x) (cl b9)).eraseIdx 0 from w2_eq, sWt_sWt] at hTm
                  exact hTm
            · refine h_iconst (v := (-1)) C dX9_send_88 (by decide) ?_
              refine h_iret C E dX9_send_89 (by decide) (by decide) ?_
              exact ⟨_, rfl, Or.inl ⟨hcode, Or.inl ⟨by rw [← hgv, cG]; exact m1_isE, rfl, hT⟩⟩⟩
        · obtain ⟨rfl, hx⟩ := hp4
          refine h_if_ne (tgt := 56) C dX9_send_49 (by decide) (fun c18 => absurd c18 (by decide)) (fun c18 => ?_)
          refine h_iconst (v := 1) C dX9_send_52 (by decide) ?_
          refine h_goto (tgt := 66) C dX9_send_53 (by decide) ?_
          refine h_callV1 (ci := 9) C (k_X9_isWrong Z.l Z.G (Q 0) _ hM.kX (1)) cw_X9_215 im_X9_isWrong sl_X9_isWrong rfl (by decide) hM.kX dX9_send_66 (by first | decide | exact Nat.le_of_ble_eq_true rfl) (by decide) (by decide) (by decide) (by decide) (kB (fun μ14 hp14 => ?_) (fun μ14 hp14 => ?_)) kN
          · obtain ⟨hc, e9⟩ := hp14
            have hT := hT.sfi (Or.inr trivial) e9 (hT.1.w290 e9)
            have hM := hT.1
            refine h_if_eq (tgt := 74) C dX9_send_69 (by decide) (fun c19 => absurd c19 (by decide)) (fun c19 => ?_)
            refine h_iconst (v := 0) C dX9_send_72 (by decide) ?_
            refine h_iret C E dX9_send_73 (by decide) (by decide) ?_
            exact ⟨_, rfl, Or.inr ⟨by rw [show sndC x s d l9 = 1 from if_neg hx]; decide, by rw [show sndC x s d l9 = 1 from if_neg hx]; exact hT⟩⟩
          · obtain ⟨hc, e9⟩ := hp14
            exact absurd hc (by decide)
      · obtain ⟨rfl, hBt⟩ := hp3
        rw [btw_i] at hBt
        have hB3 : ¬ inR l9 0 9999 := hBt
        refine h_if_eq (tgt := 41) C dX9_send_34 (by decide) (fun c20 => ?_) (fun c20 => absurd (by decide) c20)
        refine h_iconst (v := 0) C dX9_send_41 (by decide) ?_
        refine h_ist_5 C dX9_send_42 ct_i ?_
        refine h_al_g C dX9_send_44 rfl rfl rfv_r ?_
        refine h_iload_g C dX9_send_45 rfl rfl ?_
        refine h_callS1 C (k_X9_isEnd Z.l Z.G _ _) cw_X9_98 st_X9_isEnd dX9_send_46 (by first | decide | exact Nat.le_of_ble_eq_true rfl) (by decide) (by decide) (by decide) (by decide) (kB (fun μ15 hp15 => ?_) (fun μ15 hp15 => ?_)) kN
        · obtain ⟨rfl, hx⟩ := hp15
          refine h_if_ne (tgt := 56) C dX9_send_49 (by decide) (fun c21 => ?_) (fun c21 => absurd c21 (by decide))
          refine h_iload_w C dX9_send_56 rfl ?_
          refine h_if_ne (tgt := 65) C dX9_send_58 (by decide) (fun c22 => absurd c22 (by decide)) (fun c22 => ?_)
          refine h_iconst (v := 2) C dX9_send_61 (by decide) ?_
          refine h_goto (tgt := 66) C dX9_send_62 (by decide) ?_
          refine h_callV1 (ci := 9) C (k_X9_isWrong Z.l Z.G (Q 0) _ hM.kX (2)) cw_X9_215 im_X9_isWrong sl_X9_isWrong rfl (by decide) hM.kX dX9_send_66 (by first | decide | exact Nat.le_of_ble_eq_true rfl) (by decide) (by decide) (by decide) (by decide) (kB (fun μ16 hp16 => ?_) (fun μ16 hp16 => ?_)) kN
          · obtain ⟨hc, e9⟩ := hp16
            have hT := hT.sfi (Or.inr trivial) e9 (hT.1.w290 e9)
            have hM := hT.1
            refine h_if_eq (tgt := 74) C dX9_send_69 (by decide) (fun c23 => absurd c23 (by decide)) (fun c23 => ?_)
            refine h_iconst (v := 0) C dX9_send_72 (by decide) ?_
            refine h_iret C E dX9_send_73 (by decide) (by decide) ?_
            exact ⟨_, rfl, Or.inr ⟨by rw [show sndC x s d l9 = 2 from (if_pos hx).trans ((if_pos hB1).trans ((if_pos hB2).trans (if_neg hB3)))]; decide, by rw [show sndC x s d l9 = 2 from (if_pos hx).trans ((if_pos hB1).trans ((if_pos hB2).trans (if_neg hB3)))]; exact hT⟩⟩
          · obtain ⟨hc, e9⟩ := hp16
            exact absurd hc (by decide)
        · obtain ⟨rfl, hx⟩ := hp15
          refine h_if_ne (tgt := 56) C dX9_send_49 (by decide) (fun c24 => absurd c24 (by decide)) (fun c24 => ?_)
          refine h_iconst (v := 1) C dX9_send_52 (by decide) ?_
          refine h_goto (tgt := 66) C dX9_send_53 (by decide) ?_
          refine h_callV1 (ci := 9) C (k_X9_isWrong Z.l Z.G (Q 0) _ hM.kX (1)) cw_X9_215 im_X9_isWrong sl_X9_isWrong rfl (by decide) hM.kX dX9_send_66 (by first | decide | exact Nat.le_of_ble_eq_true rfl) (by decide) (by decide) (by decide) (by decide) (kB (fun μ17 hp17 => ?_) (fun μ17 hp17 => ?_)) kN
          · obtain ⟨hc, e9⟩ := hp17
            have hT := hT.sfi (Or.inr trivial) e9 (hT.1.w290 e9)
            have hM := hT.1
            refine h_if_eq (tgt := 74) C dX9_send_69 (by decide) (fun c25 => absurd c25 (by decide)) (fun c25 => ?_)
            refine h_iconst (v := 0) C dX9_send_72 (by decide) ?_
            refine h_iret C E dX9_send_73 (by decide) (by decide) ?_
            exact ⟨_, rfl, Or.inr ⟨by rw [show sndC x s d l9 = 1 from if_neg hx]; decide, by rw [show sndC x s d l9 = 1 from if_neg hx]; exact hT⟩⟩
          · obtain ⟨hc, e9⟩ := hp17
            exact absurd hc (by decide)
    · obtain ⟨rfl, hBt⟩ := hp2
      rw [btw_i] at hBt
      have hB2 : ¬ inR d 0 255 := hBt
      refine h_if_eq (tgt := 41) C dX9_send_21 (by decide) (fun c26 => ?_) (fun c26 => absurd (by decide) c26)
      refine h_iconst (v := 0) C dX9_send_41 (by decide) ?_
      refine h_ist_5 C dX9_send_42 ct_i ?_
      refine h_al_g C dX9_send_44 rfl rfl rfv_r ?_
      refine h_iload_g C dX9_send_45 rfl rfl ?_
      refine h_callS1 C (k_X9_isEnd Z.l Z.G _ _) cw_X9_98 st_X9_isEnd dX9_send_46 (by first | decide | exact Nat.le_of_ble_eq_true rfl) (by decide) (by decide) (by decide) (by decide) (kB (fun μ18 hp18 => ?_) (fun μ18 hp18 => ?_)) kN
      · obtain ⟨rfl, hx⟩ := hp18
        refine h_if_ne (tgt := 56) C dX9_send_49 (by decide) (fun c27 => ?_) (fun c27 => absurd c27 (by decide))
        refine h_iload_w C dX9_send_56 rfl ?_
        refine h_if_ne (tgt := 65) C dX9_send_58 (by decide) (fun c28 => absurd c28 (by decide)) (fun c28 => ?_)
        refine h_iconst (v := 2) C dX9_send_61 (by decide) ?_
        refine h_goto (tgt := 66) C dX9_send_62 (by decide) ?_
        refine h_callV1 (ci := 9) C (k_X9_isWrong Z.l Z.G (Q 0) _ hM.kX (2)) cw_X9_215 im_X9_isWrong sl_X9_isWrong rfl (by decide) hM.kX dX9_send_66 (by first | decide | exact Nat.le_of_ble_eq_true rfl) (by decide) (by decide) (by decide) (by decide) (kB (fun μ19 hp19 => ?_) (fun μ19 hp19 => ?_)) kN
        · obtain ⟨hc, e9⟩ := hp19
          have hT := hT.sfi (Or.inr trivial) e9 (hT.1.w290 e9)
          have hM := hT.1
          refine h_if_eq (tgt := 74) C dX9_send_69 (by decide) (fun c29 => absurd c29 (by decide)) (fun c29 => ?_)
          refine h_iconst (v := 0) C dX9_send_72 (by decide) ?_
          refine h_iret C E dX9_send_73 (by decide) (by decide) ?_
          exact ⟨_, rfl, Or.inr ⟨by rw [show sndC x s d l9 = 2 from (if_pos hx).trans ((if_pos hB1).trans (if_neg hB2))]; decide, by rw [show sndC x s d l9 = 2 from (if_pos hx).trans ((if_pos hB1).trans (if_neg hB2))]; exact hT⟩⟩
        · obtain ⟨hc, e9⟩ := hp19
          exact absurd hc (by decide)
      · obtain ⟨rfl, hx⟩ := hp18
        refine h_if_ne (tgt := 56) C dX9_send_49 (by decide) (fun c30 => absurd c30 (by decide)) (fun c30 => ?_)
        refine h_iconst (v := 1) C dX9_send_52 (by decide) ?_
        refine h_goto (tgt := 66) C dX9_send_53 (by decide) ?_
        refine h_callV1 (ci := 9) C (k_X9_isWrong Z.l Z.G (Q 0) _ hM.kX (1)) cw_X9_215 im_X9_isWrong sl_X9_isWrong rfl (by decide) hM.kX dX9_send_66 (by first | decide | exact Nat.le_of_ble_eq_true rfl) (by decide) (by decide) (by decide) (by decide) (kB (fun μ20 hp20 => ?_) (fun μ20 hp20 => ?_)) kN
        · obtain ⟨hc, e9⟩ := hp20
          have hT := hT.sfi (Or.inr trivial) e9 (hT.1.w290 e9)
          have hM := hT.1
          refine h_if_eq (tgt := 74) C dX9_send_69 (by decide) (fun c31 => absurd c31 (by decide)) (fun c31 => ?_)
          refine h_iconst (v := 0) C dX9_send_72 (by decide) ?_
          refine h_iret C E dX9_send_73 (by decide) (by decide) ?_
          exact ⟨_, rfl, Or.inr ⟨by rw [show sndC x s d l9 = 1 from if_neg hx]; decide, by rw [show sndC x s d l9 = 1 from if_neg hx]; exact hT⟩⟩
        · obtain ⟨hc, e9⟩ := hp20
          exact absurd hc (by decide)
  · obtain ⟨rfl, hBt⟩ := hp1
    rw [btw_i] at hBt
    have hB1 : ¬ inR s 0 255 := hBt
    refine h_if_eq (tgt := 41) C dX9_send_9 (by decide) (fun c32 => ?_) (fun c32 => absurd (by decide) c32)
    refine h_iconst (v := 0) C dX9_send_41 (by decide) ?_
    refine h_ist_5 C dX9_send_42 ct_i ?_
    refine h_al_g C dX9_send_44 rfl rfl rfv_r ?_
    refine h_iload_g C dX9_send_45 rfl rfl ?_
    refine h_callS1 C (k_X9_isEnd Z.l Z.G _ _) cw_X9_98 st_X9_isEnd dX9_send_46 (by first | decide | exact Nat.le_of_ble_eq_true rfl) (by decide) (by decide) (by decide) (by decide) (kB (fun μ21 hp21 => ?_) (fun μ21 hp21 => ?_)) kN
    · obtain ⟨rfl, hx⟩ := hp21
      refine h_if_ne (tgt := 56) C dX9_send_49 (by decide) (fun c33 => ?_) (fun c33 => absurd c33 (by decide))
      refine h_iload_w C dX9_send_56 rfl ?_
      refine h_if_ne (tgt := 65) C dX9_send_58 (by decide) (fun c34 => absurd c34 (by decide)) (fun c34 => ?_)
      refine h_iconst (v := 2) C dX9_send_61 (by decide) ?_
      refine h_goto (tgt := 66) C dX9_send_62 (by decide) ?_
      refine h_callV1 (ci := 9) C (k_X9_isWrong Z.l Z.G (Q 0) _ hM.kX (2)) cw_X9_215 im_X9_isWrong sl_X9_isWrong rfl (by decide) hM.kX dX9_send_66 (by first | decide | exact Nat.le_of_ble_eq_true rfl) (by decide) (by decide) (by decide) (by decide) (kB (fun μ22 hp22 => ?_) (fun μ22 hp22 => ?_)) kN
      · obtain ⟨hc, e9⟩ := hp22
        have hT := hT.sfi (Or.inr trivial) e9 (hT.1.w290 e9)
        have hM := hT.1
        refine h_if_eq (tgt := 74) C dX9_send_69 (by decide) (fun c35 => absurd c35 (by decide)) (fun c35 => ?_)
        refine h_iconst (v := 0) C dX9_send_72 (by decide) ?_
        refine h_iret C E dX9_send_73 (by decide) (by decide) ?_
        exact ⟨_, rfl, Or.inr ⟨by rw [show sndC x s d l9 = 2 from (if_pos hx).trans (if_neg hB1)]; decide, by rw [show sndC x s d l9 = 2 from (if_pos hx).trans (if_neg hB1)]; exact hT⟩⟩
      · obtain ⟨hc, e9⟩ := hp22
        exact absurd hc (by decide)
    · obtain ⟨rfl, hx⟩ := hp21
      refine h_if_ne (tgt := 56) C dX9_send_49 (by decide) (fun c36 => absurd c36 (by decide)) (fun c36 => ?_)
      refine h_iconst (v := 1) C dX9_send_52 (by decide) ?_
      refine h_goto (tgt := 66) C dX9_send_53 (by decide) ?_
      refine h_callV1 (ci := 9) C (k_X9_isWrong Z.l Z.G (Q 0) _ hM.kX (1)) cw_X9_215 im_X9_isWrong sl_X9_isWrong rfl (by decide) hM.kX dX9_send_66 (by first | decide | exact Nat.le_of_ble_eq_true rfl) (by decide) (by decide) (by decide) (by decide) (kB (fun μ23 hp23 => ?_) (fun μ23 hp23 => ?_)) kN
      · obtain ⟨hc, e9⟩ := hp23
        have hT := hT.sfi (Or.inr trivial) e9 (hT.1.w290 e9)
        have hM := hT.1
        refine h_if_eq (tgt := 74) C dX9_send_69 (by decide) (fun c37 => absurd c37 (by decide)) (fun c37 => ?_)
        refine h_iconst (v := 0) C dX9_send_72 (by decide) ?_
        refine h_iret C E dX9_send_73 (by decide) (by decide) ?_
        exact ⟨_, rfl, Or.inr ⟨by rw [show sndC x s d l9 = 1 from if_neg hx]; decide, by rw [show sndC x s d l9 = 1 from if_neg hx]; exact hT⟩⟩
      · obtain ⟨hc, e9⟩ := hp23
        exact absurd hc (by decide)

end
