section
def St_pass (S S' : Sx) : Prop := ∃ x : Int32, passC S x = 0 ∧ S' = S.sSc 0 (S.sc 0 + x)
def St_move (S S' : Sx) : Prop := ∃ x y : Int32, movC S x y = 0 ∧ S' = S.sEf 0 (cl x) y
def St_load (S S' : Sx) : Prop := ∃ x z : Int32, endC x = 0 ∧ (z = 0 ∨ z = 1) ∧ S' = S.sEf 1 (cl x) z
def St_allow (S S' : Sx) : Prop := ∃ x y p b : Int32, allC S x y p b = 0 ∧ S' = S.sRt (cl x) (ALR (S.rt (cl x)) (TOPB p b) b y)
def St_forbid (S S' : Sx) : Prop := ∃ x p b : Int32, forC S x p b = 0 ∧ S' = S.sRt (cl x) (FOR (S.rt (cl x)) (TOPB p b) b)
def St_send (S S' : Sx) : Prop := ∃ x s0 d l0 : Int32, sndC x s0 d l0 = 0 ∧ isE (GVN d (S.rt (cl x)) (-1) (-1)) ∧ S' = (SND S (cl x) (cl (GVN d (S.rt (cl x)) (-1) (-1))) s0 d l0).2
def St_greet (S S' : Sx) : Prop := ∃ x y : Int32, greC S x y = 0 ∧ S' = HELS S (cl x) (cl y)
def St_lose (S S' : Sx) : Prop := ∃ x : Int32, letC S x = 0 ∧ S' = S.sNt (S.nt.eraseIdx (cl x))
def St_twice (S S' : Sx) : Prop := ∃ x : Int32, twiC S x = 0 ∧ S' = S.sNt (S.nt ++ [LTR S (cl x)])
def St_turn (S S' : Sx) : Prop := ∃ x f z : Int32, trnC S x f z = 0 ∧ S' = S.sNt (S.nt.set (cl x) (TRN (LTR S (cl x)) f z))
def St_reroute (S S' : Sx) : Prop := ∃ x y : Int32, rerC S x y = 0 ∧ S' = S.sNt (S.nt.set (cl x) (u1 (LTR S (cl x)) 0 y))
def St_later (S S' : Sx) : Prop := ∃ x : Int32, letC S x = 0 ∧ S' = S.sNt (S.nt.eraseIdx (cl x) ++ [LTR S (cl x)])
def St_keep (S S' : Sx) : Prop := ∃ (x y : Int32) (r : Ses), pairC x y = 0 ∧ USE S (cl x) (cl y) = some r ∧ S' = DATS S (cl x) (cl y) r (-1) (-1) (-1)
def St_deliver (S S' : Sx) : Prop := ∃ (x v : Int32) (S9 : Sx), letC S x = 0 ∧ GOT (S.sNt (S.nt.eraseIdx (cl x))) (LTR S (cl x)) v S9 ∧ S' = DLF S9 v
/-- what one step of a run may make of the state -/
def Sstep (S S' : Sx) : Prop := S' = S ∨ St_pass S S' ∨ St_move S S' ∨ St_load S S' ∨ St_allow S S' ∨ St_forbid S S' ∨ St_send S S' ∨ St_greet S S' ∨ St_lose S S' ∨ St_twice S S' ∨ St_turn S S' ∨ St_reroute S S' ∨ St_later S S' ∨ St_keep S S' ∨ St_deliver S S'
theorem Sstep.pass {S S' : Sx} (h : St_pass S S') : Sstep S S' := Or.inr (Or.inl h)
theorem Sstep.move {S S' : Sx} (h : St_move S S') : Sstep S S' := Or.inr (Or.inr (Or.inl h))
theorem Sstep.load {S S' : Sx} (h : St_load S S') : Sstep S S' := Or.inr (Or.inr (Or.inr (Or.inl h)))
theorem Sstep.allow {S S' : Sx} (h : St_allow S S') : Sstep S S' := Or.inr (Or.inr (Or.inr (Or.inr (Or.inl h))))
theorem Sstep.forbid {S S' : Sx} (h : St_forbid S S') : Sstep S S' := Or.inr (Or.inr (Or.inr (Or.inr (Or.inr (Or.inl h)))))
theorem Sstep.send {S S' : Sx} (h : St_send S S') : Sstep S S' := Or.inr (Or.inr (Or.inr (Or.inr (Or.inr (Or.inr (Or.inl h))))))
theorem Sstep.greet {S S' : Sx} (h : St_greet S S') : Sstep S S' := Or.inr (Or.inr (Or.inr (Or.inr (Or.inr (Or.inr (Or.inr (Or.inl h)))))))
theorem Sstep.lose {S S' : Sx} (h : St_lose S S') : Sstep S S' := Or.inr (Or.inr (Or.inr (Or.inr (Or.inr (Or.inr (Or.inr (Or.inr (Or.inl h))))))))
theorem Sstep.twice {S S' : Sx} (h : St_twice S S') : Sstep S S' := Or.inr (Or.inr (Or.inr (Or.inr (Or.inr (Or.inr (Or.inr (Or.inr (Or.inr (Or.inl h)))))))))
theorem Sstep.turn {S S' : Sx} (h : St_turn S S') : Sstep S S' := Or.inr (Or.inr (Or.inr (Or.inr (Or.inr (Or.inr (Or.inr (Or.inr (Or.inr (Or.inr (Or.inl h))))))))))
theorem Sstep.reroute {S S' : Sx} (h : St_reroute S S') : Sstep S S' := Or.inr (Or.inr (Or.inr (Or.inr (Or.inr (Or.inr (Or.inr (Or.inr (Or.inr (Or.inr (Or.inr (Or.inl h)))))))))))
theorem Sstep.later {S S' : Sx} (h : St_later S S') : Sstep S S' := Or.inr (Or.inr (Or.inr (Or.inr (Or.inr (Or.inr (Or.inr (Or.inr (Or.inr (Or.inr (Or.inr (Or.inr (Or.inl h))))))))))))
theorem Sstep.keep {S S' : Sx} (h : St_keep S S') : Sstep S S' := Or.inr (Or.inr (Or.inr (Or.inr (Or.inr (Or.inr (Or.inr (Or.inr (Or.inr (Or.inr (Or.inr (Or.inr (Or.inr (Or.inl h)))))))))))))
theorem Sstep.deliver {S S' : Sx} (h : St_deliver S S') : Sstep S S' := Or.inr (Or.inr (Or.inr (Or.inr (Or.inr (Or.inr (Or.inr (Or.inr (Or.inr (Or.inr (Or.inr (Or.inr (Or.inr (Or.inr (h))))))))))))))
def okH6 (S : Sx) : Prop := ∀ a b w r, a < 3 → b < 3 → w < 3 → S.ses a b w = some r → r.1 6 = 0 ∨ r.1 6 = 1
/-- what both sides need of a state -/
def okA (S : Sx) : Prop := okT S ∧ okS S ∧ okW S ∧ (∀ g ∈ S.nt, okLM S g) ∧ (∀ g ∈ S.nt, okG g) ∧ (∀ g ∈ S.nt, okSent g) ∧ (∀ e, e < 3 → S.ef 1 e = 0 ∨ S.ef 1 e = 1) ∧ okH6 S ∧ (∀ e, e < 3 → ∀ r ∈ S.rt e, isE (r 2)) ∧ SND0 S
theorem endC_z {x : Int32} (h : endC x = 0) : isE x := Classical.byContradiction fun z => by
  rw [show endC x = 1 from if_neg z] at h
  exact absurd h (by decide)
theorem I2S {Q : Nat → Nat} {S : Sx} {l : LX} {μ : Mem} (h : MRq Q S l μ) {t : Nat} (ht : t < 10) {g : Nat → Nat → Int32} (hg : ∀ a b, a < 3 → b < 3 → μ.ei (Q (21 + 3 * t + a)) b = g a b) : I2 μ (Q 0) (298 + t) 3 3 g := by
  obtain ⟨A, R, h1, h2, h3, h4, h5⟩ := h.I2 ht
  refine ⟨A, R, h1, h2, h3, h4, fun i hi => ?_⟩
  obtain ⟨k1, k2, k3, k4⟩ := h5 i hi
  exact ⟨k1, k2, k3, fun j hj => (k4 j hj).trans (hg i j hi hj)⟩
set_option maxRecDepth 100000 in
set_option maxHeartbeats 1000000 in
theorem bl_L_pass {Z : Zx} {P Q : Nat → Nat} {o sc L i : Nat} {xs : Row} {S : Sx} {t : Int32} {μ : Mem} {k n : Nat} (C : Cx Z RL cL_law 15 601024 7293034 610) (NN : NcZ Z) (SZ : ScZ Z sc L xs) (hk : k + 64 ≤ 601024) (hn : n + 12000 ≤ 7293034) (hL : L ≤ 2560) (hi : i + 4 < L) (hC : CRep Z.G P S μ) (hM : MRq Q S (LXo S t) μ) (hO : OS o μ) (hA : okA S) (kk : ∀ S' t' m, Sstep S S' → CRep Z.G P S' m → MRq Q S' (LXo S' t') m → OS o m → ∀ z5 z6 z7 z8 : Option Value, HW Z (k + 64) (n + 12000) 2529 [some (.ref sc), some (.ref (P 0)), some (.ref (Q 0)), some (.ref o), some (.int (nI i)), z5, z6, z7, z8] [] m) : ∀ z5 z6 z7 z8 : Option Value, HW Z k n 200 [some (.ref sc), some (.ref (P 0)), some (.ref (Q 0)), some (.ref o), some (.int (nI i)), z5, z6, z7, z8] [] μ := by
  intro z5 z6 z7 z8
  have hRR : ∀ w m, (fun (w9 : Int64) (μ1 : Mem) => ∃ v9 : Int32, w9 = v9.toInt64 ∧ passC S (xs (i + 1)) = 0 ∧ CTo Z.G P μ (S.sSc 0 (S.sc 0 + (xs (i + 1)))) μ1 ∧ v9 = S.sc 0 + (xs (i + 1))) w m → ∃ (v9 : Int32) (S1 : Sx), w = v9.toInt64 ∧ (fun v S' => v = (S.sc 0 + (xs (i + 1))) ∧ S' = (S.sSc 0 (S.sc 0 + (xs (i + 1))))) v9 S1 ∧ CTo Z.G P μ S1 m := fun w m ⟨v9, e, _, hT, e3⟩ => ⟨v9, _, e, ⟨e3, rfl⟩, hT⟩
  have hUU : ∀ (v : Int32) (S1 : Sx) (v' : Int32) (S2 : Sx), (fun v S' => v = (S.sc 0 + (xs (i + 1))) ∧ S' = (S.sSc 0 (S.sc 0 + (xs (i + 1))))) v S1 → (fun v S' => v = (S.sc 0 + (xs (i + 1))) ∧ S' = (S.sSc 0 (S.sc 0 + (xs (i + 1))))) v' S2 → v = v' ∧ S1 = S2 := fun v S1 v' S2 h h' => ⟨h.1.trans h'.1.symm, h.2.trans h'.2.symm⟩
  refine h_al_g C dL_law_200 rfl rfl rfv_r ?_
  refine h_al_g C dL_law_201 rfl rfl rfv_r ?_
  refine h_iload_w C dL_law_202 rfl ?_
  refine h_iconst (v := 1) C dL_law_204 (by decide) ?_
  refine h_iadd C dL_law_205 ?_
  refine h_scld C SZ dL_law_206 (ixv (k := 1) (show i + 1 < L by omega) (by omega)) (congrArg xs (ixe (k := 1) (show i + 1 < L by omega) (by omega))) ?_
  refine h_al_g C dL_law_207 rfl rfl rfv_r ?_
  refine h_callH3 C NN (k_L_pass Z.l Z.G P S _ hC (xs (i + 1)) hA.1 o hO.1 hO.2) cwh_pass dL_law_208 (by decide) (by decide) (by decide) (by omega) (by omega) (kI fun r5 m5 hp5 => ?_)
  obtain ⟨hM5, hO5⟩ := lmid hM hO hp5 hRR
  have hO0 := hO
  have hM := hM5
  have hO := hO5
  refine h_ist_5 C dL_law_211 ct_i ?_
  refine h_al_g C dL_law_213 rfl rfl rfv_r ?_
  refine h_al_g C dL_law_214 rfl rfl rfv_r ?_
  refine h_iload_w C dL_law_215 rfl ?_
  refine h_iconst (v := 1) C dL_law_217 (by decide) ?_
  refine h_iadd C dL_law_218 ?_
  refine h_scld C SZ dL_law_219 (ixv (k := 1) (show i + 1 < L by omega) (by omega)) (congrArg xs (ixe (k := 1) (show i + 1 < L by omega) (by omega))) ?_
  refine h_callV1 (ci := 9) C (k_X9_pass Z.l Z.G (Q 0) _ hM.kX (S.sc 0) _ hM.f288 hA.1) cw_L_127 im_X9_pass sl_X9_pass rfl (by decide) hM.kX dL_law_220 (by first | decide | exact Nat.le_of_ble_eq_true rfl) (by decide) (by decide) (by omega) (by omega) (kI fun r6 m6 hp1 => ?_) kN
  have hq := hp1
  obtain ⟨hthr, S', t', hst, hC', hM', hO', hel⟩ := lfin hC hO0 hp5 hRR (hq.elim (fun ⟨c0, e, e2⟩ => Or.inl ⟨c0, _, ⟨e, rfl⟩, ((rd_pub hM rfl).sfi (Or.inr trivial) e2 ((rd_pub hM rfl).1.w288 e2))⟩) (fun ⟨c0, _, e2⟩ => Or.inr ⟨c0, rd_pub hM e2⟩)) hUU
  refine h_ist_6 C dL_law_223 ct_i ?_
  refine h_al_g C dL_law_225 rfl rfl rfv_r ?_
  refine h_callV0 (ci := 9) (a_ := .null) C (k_X9_thrown Z.l Z.G (Q 0) _ hM'.kX) cw_L_128 im_X9_thrown sl_X9_thrown rfl (by decide) hM'.kX dL_law_226 (by first | decide | exact Nat.le_of_ble_eq_true rfl) (by decide) (by decide) (by omega) (by omega) (kI fun r1 μ1 hp2 => ?_) kN
  obtain ⟨rfl, rfl⟩ := hp2
  refine h_iload_w C dL_law_229 rfl ?_
  refine h_icmp_eq (tgt := 236) C dL_law_231 (by decide) (fun c1 => ?_) (fun c1 => absurd (hthr) c1)
  refine h_iload_w C dL_law_236 rfl ?_
  refine h_if_ne (tgt := 253) C dL_law_238 (by decide) (fun cK => ?_) (fun cK => ?_)
  · refine h_goto (tgt := 2529) C dL_law_253 (by decide) ?_
    exact h_widen (by omega) (by omega) (kk _ _ _ (hst.elim (fun e => Or.inl e) (fun ⟨c0, v, h⟩ => Sstep.pass ⟨_, c0, h.2⟩)) hC' hM' hO' _ _ _ _)
  · refine h_al_g C dL_law_241 rfl rfl rfv_r ?_
    refine h_iconst (v := 0) C dL_law_242 (by decide) ?_
    refine h_lald C dL_law_243 (by rw [hO'.1]; decide) (inb hO'.2 (vp_in_nI (n := 0) (by decide) (by decide))) rfl ?_
    refine h_iload_w C dL_law_244 rfl ?_
    refine h_i2l C dL_law_246 ?_
    refine h_lcmp C dL_law_247 ?_
    refine h_if_eq (tgt := 253) C dL_law_248 (by decide) (fun c3 => ?_) (fun c3 => absurd (((lg_cmp_eq _ _).mpr (hel cK))) c3)
    refine h_goto (tgt := 2529) C dL_law_253 (by decide) ?_
    exact h_widen (by omega) (by omega) (kk _ _ _ (hst.elim (fun e => Or.inl e) (fun ⟨c0, v, h⟩ => Sstep.pass ⟨_, c0, h.2⟩)) hC' hM' hO' _ _ _ _)

set_option maxRecDepth 100000 in
set_option maxHeartbeats 1000000 in
theorem bl_L_move {Z : Zx} {P Q : Nat → Nat} {o sc L i : Nat} {xs : Row} {S : Sx} {t : Int32} {μ : Mem} {k n : Nat} (C : Cx Z RL cL_law 15 601024 7293034 610) (NN : NcZ Z) (SZ : ScZ Z sc L xs) (hk : k + 64 ≤ 601024) (hn : n + 12000 ≤ 7293034) (hL : L ≤ 2560) (hi : i + 4 < L) (hC : CRep Z.G P S μ) (hM : MRq Q S (LXo S t) μ) (hO : OS o μ) (hA : okA S) (kk : ∀ S' t' m, Sstep S S' → CRep Z.G P S' m → MRq Q S' (LXo S' t') m → OS o m → ∀ z5 z6 z7 z8 : Option Value, HW Z (k + 64) (n + 12000) 2529 [some (.ref sc), some (.ref (P 0)), some (.ref (Q 0)), some (.ref o), some (.int (nI i)), z5, z6, z7, z8] [] m) : ∀ z5 z6 z7 z8 : Option Value, HW Z k n 256 [some (.ref sc), some (.ref (P 0)), some (.ref (Q 0)), some (.ref o), some (.int (nI i)), z5, z6, z7, z8] [] μ := by
  intro z5 z6 z7 z8
  have hRR : ∀ w m, (fun (w9 : Int64) (μ1 : Mem) => ∃ v9 : Int32, w9 = v9.toInt64 ∧ movC S (xs (i + 1)) (xs (i + 2)) = 0 ∧ CTo Z.G P μ (S.sEf 0 (cl (xs (i + 1))) (xs (i + 2))) μ1 ∧ v9 = S.ef 0 (cl (xs (i + 1)))) w m → ∃ (v9 : Int32) (S1 : Sx), w = v9.toInt64 ∧ (fun v S' => v = (S.ef 0 (cl (xs (i + 1)))) ∧ S' = (S.sEf 0 (cl (xs (i + 1))) (xs (i + 2)))) v9 S1 ∧ CTo Z.G P μ S1 m := fun w m ⟨v9, e, _, hT, e3⟩ => ⟨v9, _, e, ⟨e3, rfl⟩, hT⟩
  have hUU : ∀ (v : Int32) (S1 : Sx) (v' : Int32) (S2 : Sx), (fun v S' => v = (S.ef 0 (cl (xs (i + 1)))) ∧ S' = (S.sEf 0 (cl (xs (i + 1))) (xs (i + 2)))) v S1 → (fun v S' => v = (S.ef 0 (cl (xs (i + 1)))) ∧ S' = (S.sEf 0 (cl (xs (i + 1))) (xs (i + 2)))) v' S2 → v = v' ∧ S1 = S2 := fun v S1 v' S2 h h' => ⟨h.1.trans h'.1.symm, h.2.trans h'.2.symm⟩
  refine h_al_g C dL_law_256 rfl rfl rfv_r ?_
  refine h_al_g C dL_law_257 rfl rfl rfv_r ?_
  refine h_iload_w C dL_law_258 rfl ?_
  refine h_iconst (v := 1) C dL_law_260 (by decide) ?_
  refine h_iadd C dL_law_261 ?_
  refine h_scld C SZ dL_law_262 (ixv (k := 1) (show i + 1 < L by omega) (by omega)) (congrArg xs (ixe (k := 1) (show i + 1 < L by omega) (by omega))) ?_
  refine h_al_g C dL_law_263 rfl rfl rfv_r ?_
  refine h_iload_w C dL_law_264 rfl ?_
  refine h_iconst (v := 2) C dL_law_266 (by decide) ?_
  refine h_iadd C dL_law_267 ?_
  refine h_scld C SZ dL_law_268 (ixv (k := 2) (show i + 2 < L by omega) (by omega)) (congrArg xs (ixe (k := 2) (show i + 2 < L by omega) (by omega))) ?_
  refine h_al_g C dL_law_269 rfl rfl rfv_r ?_
  refine h_callH4 C NN (k_L_move Z.l Z.G P S _ hC (xs (i + 1)) (xs (i + 2)) hA.2.2.1.1 o hO.1 hO.2) cwh_move dL_law_270 (by decide) (by decide) (by decide) (by omega) (by omega) (kI fun r5 m5 hp5 => ?_)
  obtain ⟨hM5, hO5⟩ := lmid hM hO hp5 hRR
  have hO0 := hO
  have hM := hM5
  have hO := hO5
  refine h_ist_5 C dL_law_273 ct_i ?_
  refine h_al_g C dL_law_275 rfl rfl rfv_r ?_
  refine h_al_g C dL_law_276 rfl rfl rfv_r ?_
  refine h_iload_w C dL_law_277 rfl ?_
  refine h_iconst (v := 1) C dL_law_279 (by decide) ?_
  refine h_iadd C dL_law_280 ?_
  refine h_scld C SZ dL_law_281 (ixv (k := 1) (show i + 1 < L by omega) (by omega)) (congrArg xs (ixe (k := 1) (show i + 1 < L by omega) (by omega))) ?_
  refine h_al_g C dL_law_282 rfl rfl rfv_r ?_
  refine h_iload_w C dL_law_283 rfl ?_
  refine h_iconst (v := 2) C dL_law_285 (by decide) ?_
  refine h_iadd C dL_law_286 ?_
  refine h_scld C SZ dL_law_287 (ixv (k := 2) (show i + 2 < L by omega) (by omega)) (congrArg xs (ixe (k := 2) (show i + 2 < L by omega) (by omega))) ?_
  refine h_callV2 (ci := 9) C (k_X9_move Z.l Z.G Q S _ _ hM (xs (i + 1)) (xs (i + 2)) ) cw_L_135 im_X9_move sl_X9_move rfl (by decide) hM.kX dL_law_288 (by first | decide | exact Nat.le_of_ble_eq_true rfl) (by decide) (by decide) (by omega) (by omega) (kI fun r6 m6 hp1 => ?_) kN
  have hq := hp1
  obtain ⟨hthr, S', t', hst, hC', hM', hO', hel⟩ := lfin hC hO0 hp5 hRR (hq.elim (fun ⟨c0, e, T⟩ => Or.inl ⟨c0, _, ⟨e, rfl⟩, T⟩) Or.inr) hUU
  refine h_ist_6 C dL_law_291 ct_i ?_
  refine h_al_g C dL_law_293 rfl rfl rfv_r ?_
  refine h_callV0 (ci := 9) (a_ := .null) C (k_X9_thrown Z.l Z.G (Q 0) _ hM'.kX) cw_L_128 im_X9_thrown sl_X9_thrown rfl (by decide) hM'.kX dL_law_294 (by first | decide | exact Nat.le_of_ble_eq_true rfl) (by decide) (by decide) (by omega) (by omega) (kI fun r1 μ1 hp2 => ?_) kN
  obtain ⟨rfl, rfl⟩ := hp2
  refine h_iload_w C dL_law_297 rfl ?_
  refine h_icmp_eq (tgt := 304) C dL_law_299 (by decide) (fun c1 => ?_) (fun c1 => absurd (hthr) c1)
  refine h_iload_w C dL_law_304 rfl ?_
  refine h_if_ne (tgt := 321) C dL_law_306 (by decide) (fun cK => ?_) (fun cK => ?_)
  · refine h_goto (tgt := 2529) C dL_law_321 (by decide) ?_
    exact h_widen (by omega) (by omega) (kk _ _ _ (hst.elim (fun e => Or.inl e) (fun ⟨c0, v, h⟩ => Sstep.move ⟨_, _, c0, h.2⟩)) hC' hM' hO' _ _ _ _)
  · refine h_al_g C dL_law_309 rfl rfl rfv_r ?_
    refine h_iconst (v := 0) C dL_law_310 (by decide) ?_
    refine h_lald C dL_law_311 (by rw [hO'.1]; decide) (inb hO'.2 (vp_in_nI (n := 0) (by decide) (by decide))) rfl ?_
    refine h_iload_w C dL_law_312 rfl ?_
    refine h_i2l C dL_law_314 ?_
    refine h_lcmp C dL_law_315 ?_
    refine h_if_eq (tgt := 321) C dL_law_316 (by decide) (fun c3 => ?_) (fun c3 => absurd (((lg_cmp_eq _ _).mpr (hel cK))) c3)
    refine h_goto (tgt := 2529) C dL_law_321 (by decide) ?_
    exact h_widen (by omega) (by omega) (kk _ _ _ (hst.elim (fun e => Or.inl e) (fun ⟨c0, v, h⟩ => Sstep.move ⟨_, _, c0, h.2⟩)) hC' hM' hO' _ _ _ _)

set_option maxRecDepth 100000 in
set_option maxHeartbeats 1000000 in
theorem bl_L_load {Z : Zx} {P Q : Nat → Nat} {o sc L i : Nat} {xs : Row} {S : Sx} {t : Int32} {μ : Mem} {k n : Nat} (C : Cx Z RL cL_law 15 601024 7293034 610) (NN : NcZ Z) (SZ : ScZ Z sc L xs) (hk : k + 64 ≤ 601024) (hn : n + 12000 ≤ 7293034) (hL : L ≤ 2560) (hi : i + 4 < L) (hC : CRep Z.G P S μ) (hM : MRq Q S (LXo S t) μ) (hO : OS o μ) (hA : okA S) (kk : ∀ S' t' m, Sstep S S' → CRep Z.G P S' m → MRq Q S' (LXo S' t') m → OS o m → ∀ z5 z6 z7 z8 : Option Value, HW Z (k + 64) (n + 12000) 2529 [some (.ref sc), some (.ref (P 0)), some (.ref (Q 0)), some (.ref o), some (.int (nI i)), z5, z6, z7, z8] [] m) : ∀ z5 z6 z7 z8 : Option Value, HW Z k n 324 [some (.ref sc), some (.ref (P 0)), some (.ref (Q 0)), some (.ref o), some (.int (nI i)), z5, z6, z7, z8] [] μ := by
  intro z5 z6 z7 z8
  refine h_al_g C dL_law_324 rfl rfl rfv_r ?_
  refine h_al_g C dL_law_325 rfl rfl rfv_r ?_
  refine h_iload_w C dL_law_326 rfl ?_
  refine h_iconst (v := 1) C dL_law_328 (by decide) ?_
  refine h_iadd C dL_law_329 ?_
  refine h_scld C SZ dL_law_330 (ixv (k := 1) (show i + 1 < L by omega) (by omega)) (congrArg xs (ixe (k := 1) (show i + 1 < L by omega) (by omega))) ?_
  refine h_al_g C dL_law_331 rfl rfl rfv_r ?_
  refine h_iload_w C dL_law_332 rfl ?_
  refine h_iconst (v := 2) C dL_law_334 (by decide) ?_
  refine h_iadd C dL_law_335 ?_
  refine h_scld C SZ dL_law_336 (ixv (k := 2) (show i + 2 < L by omega) (by omega)) (congrArg xs (ixe (k := 2) (show i + 2 < L by omega) (by omega))) ?_
  refine h_if_eq (tgt := 344) C dL_law_337 (by decide) (fun cZ => ?_) (fun cZ => ?_)
  · refine h_iconst (v := 0) C dL_law_344 (by decide) ?_
    have hz9 : (0 : Int32) = 0 ∨ (0 : Int32) = 1 := Or.inl rfl
    have hRR : ∀ w m, (fun (w9 : Int64) (μ1 : Mem) => ∃ v9 : Int32, w9 = (if v9 = 0 then 0 else 1) ∧ endC (xs (i + 1)) = 0 ∧ CTo Z.G P μ (S.sEf 1 (cl (xs (i + 1))) 0) μ1 ∧ v9 = S.ef 1 (cl (xs (i + 1)))) w m → ∃ (v9 : Int32) (S1 : Sx), w = v9.toInt64 ∧ (fun v S' => v = (S.ef 1 (cl (xs (i + 1)))) ∧ S' = (S.sEf 1 (cl (xs (i + 1))) 0)) v9 S1 ∧ CTo Z.G P μ S1 m := fun w m ⟨v9, e, c0, hT, e3⟩ => ⟨v9, _, by
        rw [e]
        rcases hA.2.2.2.2.2.2.1 (cl (xs (i + 1))) (endC_z c0).lt with h9 | h9
        · rw [e3, h9]; rfl
        · rw [e3, h9]; rfl, ⟨e3, rfl⟩, hT⟩
    have hUU : ∀ (v : Int32) (S1 : Sx) (v' : Int32) (S2 : Sx), (fun v S' => v = (S.ef 1 (cl (xs (i + 1)))) ∧ S' = (S.sEf 1 (cl (xs (i + 1))) 0)) v S1 → (fun v S' => v = (S.ef 1 (cl (xs (i + 1)))) ∧ S' = (S.sEf 1 (cl (xs (i + 1))) 0)) v' S2 → v = v' ∧ S1 = S2 := fun v S1 v' S2 h h' => ⟨h.1.trans h'.1.symm, h.2.trans h'.2.symm⟩
    refine h_al_g C dL_law_345 rfl rfl rfv_r ?_
    refine h_callH4 C NN (k_L_load Z.l Z.G P S _ hC (xs (i + 1)) 0 hz9 hA.2.2.2.2.2.2.1 o hO.1 hO.2) cwh_load dL_law_346 (by decide) (by decide) (by decide) (by omega) (by omega) (kI fun r5 m5 hp5 => ?_)
    obtain ⟨hM5, hO5⟩ := lmid hM hO hp5 hRR
    have hO0 := hO
    have hM := hM5
    have hO := hO5
    refine h_ist_5 C dL_law_349 ct_i ?_
    refine h_al_g C dL_law_351 rfl rfl rfv_r ?_
    refine h_al_g C dL_law_352 rfl rfl rfv_r ?_
    refine h_iload_w C dL_law_353 rfl ?_
    refine h_iconst (v := 1) C dL_law_355 (by decide) ?_
    refine h_iadd C dL_law_356 ?_
    refine h_scld C SZ dL_law_357 (ixv (k := 1) (show i + 1 < L by omega) (by omega)) (congrArg xs (ixe (k := 1) (show i + 1 < L by omega) (by omega))) ?_
    refine h_al_g C dL_law_358 rfl rfl rfv_r ?_
    refine h_iload_w C dL_law_359 rfl ?_
    refine h_iconst (v := 2) C dL_law_361 (by decide) ?_
    refine h_iadd C dL_law_362 ?_
    refine h_scld C SZ dL_law_363 (ixv (k := 2) (show i + 2 < L by omega) (by omega)) (congrArg xs (ixe (k := 2) (show i + 2 < L by omega) (by omega))) ?_
    refine h_if_eq (tgt := 371) C dL_law_364 (by decide) (fun c2 => ?_) (fun c2 => absurd (cZ) c2)
    refine h_iconst (v := 0) C dL_law_371 (by decide) ?_
    refine h_callV2 (ci := 9) C (k_X9_load Z.l Z.G Q S _ _ hM (xs (i + 1)) 0 hz9 hA.2.2.2.2.2.2.1) cw_L_139 im_X9_load sl_X9_load rfl (by decide) hM.kX dL_law_372 (by first | decide | exact Nat.le_of_ble_eq_true rfl) (by decide) (by decide) (by omega) (by omega) (kI fun r6 m6 hp1 => ?_) kN
    have hq := hp1
    obtain ⟨hthr, S', t', hst, hC', hM', hO', hel⟩ := lfin hC hO0 hp5 hRR (hq.2.elim (fun ⟨c0, e, T⟩ => Or.inl ⟨c0, _, ⟨e, rfl⟩, T⟩) Or.inr) hUU
    refine h_ist_6 C dL_law_375 ct_i ?_
    refine h_al_g C dL_law_377 rfl rfl rfv_r ?_
    refine h_callV0 (ci := 9) (a_ := .null) C (k_X9_thrown Z.l Z.G (Q 0) _ hM'.kX) cw_L_128 im_X9_thrown sl_X9_thrown rfl (by decide) hM'.kX dL_law_378 (by first | decide | exact Nat.le_of_ble_eq_true rfl) (by decide) (by decide) (by omega) (by omega) (kI fun r1 μ1 hp2 => ?_) kN
    obtain ⟨rfl, rfl⟩ := hp2
    refine h_iload_w C dL_law_381 rfl ?_
    refine h_icmp_eq (tgt := 388) C dL_law_383 (by decide) (fun c3 => ?_) (fun c3 => absurd (hthr) c3)
    refine h_iload_w C dL_law_388 rfl ?_
    refine h_if_ne (tgt := 412) C dL_law_390 (by decide) (fun cK => ?_) (fun cK => ?_)
    · refine h_goto (tgt := 2529) C dL_law_412 (by decide) ?_
      exact h_widen (by omega) (by omega) (kk _ _ _ (hst.elim (fun e => Or.inl e) (fun ⟨c0, v, h⟩ => Sstep.load ⟨_, _, c0, hz9, h.2⟩)) hC' hM' hO' _ _ _ _)
    · refine h_al_g C dL_law_393 rfl rfl rfv_r ?_
      refine h_iconst (v := 0) C dL_law_394 (by decide) ?_
      refine h_lald C dL_law_395 (by rw [hO'.1]; decide) (inb hO'.2 (vp_in_nI (n := 0) (by decide) (by decide))) rfl ?_
      refine h_iload_w C dL_law_396 rfl ?_
      refine h_if_eq (tgt := 405) C dL_law_398 (by decide) (fun cB => ?_) (fun cB => ?_)
      · refine h_lconst (v := 0) C dL_law_405 (by decide) ?_
        refine h_lcmp C dL_law_406 ?_
        refine h_if_eq (tgt := 412) C dL_law_407 (by decide) (fun c6 => ?_) (fun c6 => absurd (((lg_cmp_eq _ _).mpr ((hel cK).trans (by rw [cB]; rfl)))) c6)
        refine h_goto (tgt := 2529) C dL_law_412 (by decide) ?_
        exact h_widen (by omega) (by omega) (kk _ _ _ (hst.elim (fun e => Or.inl e) (fun ⟨c0, v, h⟩ => Sstep.load ⟨_, _, c0, hz9, h.2⟩)) hC' hM' hO' _ _ _ _)
      · refine h_lconst (v := 1) C dL_law_401 (by decide) ?_
        refine h_goto (tgt := 406) C dL_law_402 (by decide) ?_
        refine h_lcmp C dL_law_406 ?_
        refine h_if_eq (tgt := 412) C dL_law_407 (by decide) (fun c7 => ?_) (fun c7 => absurd (((lg_cmp_eq _ _).mpr ((hel cK).trans (by rw [hq.1.resolve_left cB]; rfl)))) c7)
        refine h_goto (tgt := 2529) C dL_law_412 (by decide) ?_
        exact h_widen (by omega) (by omega) (kk _ _ _ (hst.elim (fun e => Or.inl e) (fun ⟨c0, v, h⟩ => Sstep.load ⟨_, _, c0, hz9, h.2⟩)) hC' hM' hO' _ _ _ _)
  · refine h_iconst (v := 1) C dL_law_340 (by decide) ?_
    refine h_goto (tgt := 345) C dL_law_341 (by decide) ?_
    have hz9 : (1 : Int32) = 0 ∨ (1 : Int32) = 1 := Or.inr rfl
    have hRR : ∀ w m, (fun (w9 : Int64) (μ1 : Mem) => ∃ v9 : Int32, w9 = (if v9 = 0 then 0 else 1) ∧ endC (xs (i + 1)) = 0 ∧ CTo Z.G P μ (S.sEf 1 (cl (xs (i + 1))) 1) μ1 ∧ v9 = S.ef 1 (cl (xs (i + 1)))) w m → ∃ (v9 : Int32) (S1 : Sx), w = v9.toInt64 ∧ (fun v S' => v = (S.ef 1 (cl (xs (i + 1)))) ∧ S' = (S.sEf 1 (cl (xs (i + 1))) 1)) v9 S1 ∧ CTo Z.G P μ S1 m := fun w m ⟨v9, e, c0, hT, e3⟩ => ⟨v9, _, by
        rw [e]
        rcases hA.2.2.2.2.2.2.1 (cl (xs (i + 1))) (endC_z c0).lt with h9 | h9
        · rw [e3, h9]; rfl
        · rw [e3, h9]; rfl, ⟨e3, rfl⟩, hT⟩
    have hUU : ∀ (v : Int32) (S1 : Sx) (v' : Int32) (S2 : Sx), (fun v S' => v = (S.ef 1 (cl (xs (i + 1)))) ∧ S' = (S.sEf 1 (cl (xs (i + 1))) 1)) v S1 → (fun v S' => v = (S.ef 1 (cl (xs (i + 1)))) ∧ S' = (S.sEf 1 (cl (xs (i + 1))) 1)) v' S2 → v = v' ∧ S1 = S2 := fun v S1 v' S2 h h' => ⟨h.1.trans h'.1.symm, h.2.trans h'.2.symm⟩
    refine h_al_g C dL_law_345 rfl rfl rfv_r ?_
    refine h_callH4 C NN (k_L_load Z.l Z.G P S _ hC (xs (i + 1)) 1 hz9 hA.2.2.2.2.2.2.1 o hO.1 hO.2) cwh_load dL_law_346 (by decide) (by decide) (by decide) (by omega) (by omega) (kI fun r5 m5 hp5 => ?_)
    obtain ⟨hM5, hO5⟩ := lmid hM hO hp5 hRR
    have hO0 := hO
    have hM := hM5
    have hO := hO5
    refine h_ist_5 C dL_law_349 ct_i ?_
    refine h_al_g C dL_law_351 rfl rfl rfv_r ?_
    refine h_al_g C dL_law_352 rfl rfl rfv_r ?_
    refine h_iload_w C dL_law_353 rfl ?_
    refine h_iconst (v := 1) C dL_law_355 (by decide) ?_
    refine h_iadd C dL_law_356 ?_
    refine h_scld C SZ dL_law_357 (ixv (k := 1) (show i + 1 < L by omega) (by omega)) (congrArg xs (ixe (k := 1) (show i + 1 < L by omega) (by omega))) ?_
    refine h_al_g C dL_law_358 rfl rfl rfv_r ?_
    refine h_iload_w C dL_law_359 rfl ?_
    refine h_iconst (v := 2) C dL_law_361 (by decide) ?_
    refine h_iadd C dL_law_362 ?_
    refine h_scld C SZ dL_law_363 (ixv (k := 2) (show i + 2 < L by omega) (by omega)) (congrArg xs (ixe (k := 2) (show i + 2 < L by omega) (by omega))) ?_
    refine h_if_eq (tgt := 371) C dL_law_364 (by decide) (fun c8 => absurd c8 (cZ)) (fun c8 => ?_)
    refine h_iconst (v := 1) C dL_law_367 (by decide) ?_
    refine h_goto (tgt := 372) C dL_law_368 (by decide) ?_
    refine h_callV2 (ci := 9) C (k_X9_load Z.l Z.G Q S _ _ hM (xs (i + 1)) 1 hz9 hA.2.2.2.2.2.2.1) cw_L_139 im_X9_load sl_X9_load rfl (by decide) hM.kX dL_law_372 (by first | decide | exact Nat.le_of_ble_eq_true rfl) (by decide) (by decide) (by omega) (by omega) (kI fun r6 m6 hp3 => ?_) kN
    have hq := hp3
    obtain ⟨hthr, S', t', hst, hC', hM', hO', hel⟩ := lfin hC hO0 hp5 hRR (hq.2.elim (fun ⟨c0, e, T⟩ => Or.inl ⟨c0, _, ⟨e, rfl⟩, T⟩) Or.inr) hUU
    refine h_ist_6 C dL_law_375 ct_i ?_
    refine h_al_g C dL_law_377 rfl rfl rfv_r ?_
    refine h_callV0 (ci := 9) (a_ := .null) C (k_X9_thrown Z.l Z.G (Q 0) _ hM'.kX) cw_L_128 im_X9_thrown sl_X9_thrown rfl (by decide) hM'.kX dL_law_378 (by first | decide | exact Nat.le_of_ble_eq_true rfl) (by decide) (by decide) (by omega) (by omega) (kI fun r2 μ2 hp4 => ?_) kN
    obtain ⟨rfl, rfl⟩ := hp4
    refine h_iload_w C dL_law_381 rfl ?_
    refine h_icmp_eq (tgt := 388) C dL_law_383 (by decide) (fun c9 => ?_) (fun c9 => absurd (hthr) c9)
    refine h_iload_w C dL_law_388 rfl ?_
    refine h_if_ne (tgt := 412) C dL_law_390 (by decide) (fun cK => ?_) (fun cK => ?_)
    · refine h_goto (tgt := 2529) C dL_law_412 (by decide) ?_
      exact h_widen (by omega) (by omega) (kk _ _ _ (hst.elim (fun e => Or.inl e) (fun ⟨c0, v, h⟩ => Sstep.load ⟨_, _, c0, hz9, h.2⟩)) hC' hM' hO' _ _ _ _)
    · refine h_al_g C dL_law_393 rfl rfl rfv_r ?_
      refine h_iconst (v := 0) C dL_law_394 (by decide) ?_
      refine h_lald C dL_law_395 (by rw [hO'.1]; decide) (inb hO'.2 (vp_in_nI (n := 0) (by decide) (by decide))) rfl ?_
      refine h_iload_w C dL_law_396 rfl ?_
      refine h_if_eq (tgt := 405) C dL_law_398 (by decide) (fun cB => ?_) (fun cB => ?_)
      · refine h_lconst (v := 0) C dL_law_405 (by decide) ?_
        refine h_lcmp C dL_law_406 ?_
        refine h_if_eq (tgt := 412) C dL_law_407 (by decide) (fun c12 => ?_) (fun c12 => absurd (((lg_cmp_eq _ _).mpr ((hel cK).trans (by rw [cB]; rfl)))) c12)
        refine h_goto (tgt := 2529) C dL_law_412 (by decide) ?_
        exact h_widen (by omega) (by omega) (kk _ _ _ (hst.elim (fun e => Or.inl e) (fun ⟨c0, v, h⟩ => Sstep.load ⟨_, _, c0, hz9, h.2⟩)) hC' hM' hO' _ _ _ _)
      · refine h_lconst (v := 1) C dL_law_401 (by decide) ?_
        refine h_goto (tgt := 406) C dL_law_402 (by decide) ?_
        refine h_lcmp C dL_law_406 ?_
        refine h_if_eq (tgt := 412) C dL_law_407 (by decide) (fun c13 => ?_) (fun c13 => absurd (((lg_cmp_eq _ _).mpr ((hel cK).trans (by rw [hq.1.resolve_left cB]; rfl)))) c13)
        refine h_goto (tgt := 2529) C dL_law_412 (by decide) ?_
        exact h_widen (by omega) (by omega) (kk _ _ _ (hst.elim (fun e => Or.inl e) (fun ⟨c0, v, h⟩ => Sstep.load ⟨_, _, c0, hz9, h.2⟩)) hC' hM' hO' _ _ _ _)

set_option maxRecDepth 100000 in
set_option maxHeartbeats 1000000 in
theorem bl_L_allow {Z : Zx} {P Q : Nat → Nat} {o sc L i : Nat} {xs : Row} {S : Sx} {t : Int32} {μ : Mem} {k n : Nat} (C : Cx Z RL cL_law 15 601024 7293034 610) (NN : NcZ Z) (SZ : ScZ Z sc L xs) (hk : k + 64 ≤ 601024) (hn : n + 12000 ≤ 7293034) (hL : L ≤ 2560) (hi : i + 4 < L) (hC : CRep Z.G P S μ) (hM : MRq Q S (LXo S t) μ) (hO : OS o μ) (hA : okA S) (kk : ∀ S' t' m, Sstep S S' → CRep Z.G P S' m → MRq Q S' (LXo S' t') m → OS o m → ∀ z5 z6 z7 z8 : Option Value, HW Z (k + 64) (n + 12000) 2529 [some (.ref sc), some (.ref (P 0)), some (.ref (Q 0)), some (.ref o), some (.int (nI i)), z5, z6, z7, z8] [] m) : ∀ z5 z6 z7 z8 : Option Value, HW Z k n 415 [some (.ref sc), some (.ref (P 0)), some (.ref (Q 0)), some (.ref o), some (.int (nI i)), z5, z6, z7, z8] [] μ := by
  intro z5 z6 z7 z8
  have hRR : ∀ w m, (fun (w9 : Int64) (μ1 : Mem) => ∃ v9 : Int32, w9 = v9.toInt64 ∧ allC S (xs (i + 1)) (xs (i + 2)) (xs (i + 3)) (xs (i + 4)) = 0 ∧ CTo Z.G P μ (S.sRt (cl (xs (i + 1))) (ALR (S.rt (cl (xs (i + 1)))) (TOPB (xs (i + 3)) (xs (i + 4))) (xs (i + 4)) (xs (i + 2)))) μ1 ∧ v9 = nI (ALR (S.rt (cl (xs (i + 1)))) (TOPB (xs (i + 3)) (xs (i + 4))) (xs (i + 4)) (xs (i + 2))).length) w m → ∃ (v9 : Int32) (S1 : Sx), w = v9.toInt64 ∧ (fun v S' => v = (nI (ALR (S.rt (cl (xs (i + 1)))) (TOPB (xs (i + 3)) (xs (i + 4))) (xs (i + 4)) (xs (i + 2))).length) ∧ S' = (S.sRt (cl (xs (i + 1))) (ALR (S.rt (cl (xs (i + 1)))) (TOPB (xs (i + 3)) (xs (i + 4))) (xs (i + 4)) (xs (i + 2))))) v9 S1 ∧ CTo Z.G P μ S1 m := fun w m ⟨v9, e, _, hT, e3⟩ => ⟨v9, _, e, ⟨e3, rfl⟩, hT⟩
  have hUU : ∀ (v : Int32) (S1 : Sx) (v' : Int32) (S2 : Sx), (fun v S' => v = (nI (ALR (S.rt (cl (xs (i + 1)))) (TOPB (xs (i + 3)) (xs (i + 4))) (xs (i + 4)) (xs (i + 2))).length) ∧ S' = (S.sRt (cl (xs (i + 1))) (ALR (S.rt (cl (xs (i + 1)))) (TOPB (xs (i + 3)) (xs (i + 4))) (xs (i + 4)) (xs (i + 2))))) v S1 → (fun v S' => v = (nI (ALR (S.rt (cl (xs (i + 1)))) (TOPB (xs (i + 3)) (xs (i + 4))) (xs (i + 4)) (xs (i + 2))).length) ∧ S' = (S.sRt (cl (xs (i + 1))) (ALR (S.rt (cl (xs (i + 1)))) (TOPB (xs (i + 3)) (xs (i + 4))) (xs (i + 4)) (xs (i + 2))))) v' S2 → v = v' ∧ S1 = S2 := fun v S1 v' S2 h h' => ⟨h.1.trans h'.1.symm, h.2.trans h'.2.symm⟩
  refine h_al_g C dL_law_415 rfl rfl rfv_r ?_
  refine h_al_g C dL_law_416 rfl rfl rfv_r ?_
  refine h_iload_w C dL_law_417 rfl ?_
  refine h_iconst (v := 1) C dL_law_419 (by decide) ?_
  refine h_iadd C dL_law_420 ?_
  refine h_scld C SZ dL_law_421 (ixv (k := 1) (show i + 1 < L by omega) (by omega)) (congrArg xs (ixe (k := 1) (show i + 1 < L by omega) (by omega))) ?_
  refine h_al_g C dL_law_422 rfl rfl rfv_r ?_
  refine h_iload_w C dL_law_423 rfl ?_
  refine h_iconst (v := 2) C dL_law_425 (by decide) ?_
  refine h_iadd C dL_law_426 ?_
  refine h_scld C SZ dL_law_427 (ixv (k := 2) (show i + 2 < L by omega) (by omega)) (congrArg xs (ixe (k := 2) (show i + 2 < L by omega) (by omega))) ?_
  refine h_al_g C dL_law_428 rfl rfl rfv_r ?_
  refine h_iload_w C dL_law_429 rfl ?_
  refine h_iconst (v := 3) C dL_law_431 (by decide) ?_
  refine h_iadd C dL_law_432 ?_
  refine h_scld C SZ dL_law_433 (ixv (k := 3) (show i + 3 < L by omega) (by omega)) (congrArg xs (ixe (k := 3) (show i + 3 < L by omega) (by omega))) ?_
  refine h_al_g C dL_law_434 rfl rfl rfv_r ?_
  refine h_iload_w C dL_law_435 rfl ?_
  refine h_iconst (v := 4) C dL_law_437 (by decide) ?_
  refine h_iadd C dL_law_438 ?_
  refine h_scld C SZ dL_law_439 (ixv (k := 4) (show i + 4 < L by omega) (by omega)) (congrArg xs (ixe (k := 4) (show i + 4 < L by omega) (by omega))) ?_
  refine h_al_g C dL_law_440 rfl rfl rfv_r ?_
  refine h_callH6 C NN (k_L_allow Z.l Z.G P S _ hC (xs (i + 1)) (xs (i + 2)) (xs (i + 3)) (xs (i + 4)) o hO.1 hO.2) cwh_allow dL_law_441 (by decide) (by decide) (by decide) (by omega) (by omega) (kI fun r5 m5 hp5 => ?_)
  obtain ⟨hM5, hO5⟩ := lmid hM hO hp5 hRR
  have hO0 := hO
  have hM := hM5
  have hO := hO5
  refine h_ist_5 C dL_law_444 ct_i ?_
  refine h_al_g C dL_law_446 rfl rfl rfv_r ?_
  refine h_al_g C dL_law_447 rfl rfl rfv_r ?_
  refine h_iload_w C dL_law_448 rfl ?_
  refine h_iconst (v := 1) C dL_law_450 (by decide) ?_
  refine h_iadd C dL_law_451 ?_
  refine h_scld C SZ dL_law_452 (ixv (k := 1) (show i + 1 < L by omega) (by omega)) (congrArg xs (ixe (k := 1) (show i + 1 < L by omega) (by omega))) ?_
  refine h_al_g C dL_law_453 rfl rfl rfv_r ?_
  refine h_iload_w C dL_law_454 rfl ?_
  refine h_iconst (v := 2) C dL_law_456 (by decide) ?_
  refine h_iadd C dL_law_457 ?_
  refine h_scld C SZ dL_law_458 (ixv (k := 2) (show i + 2 < L by omega) (by omega)) (congrArg xs (ixe (k := 2) (show i + 2 < L by omega) (by omega))) ?_
  refine h_al_g C dL_law_459 rfl rfl rfv_r ?_
  refine h_iload_w C dL_law_460 rfl ?_
  refine h_iconst (v := 3) C dL_law_462 (by decide) ?_
  refine h_iadd C dL_law_463 ?_
  refine h_scld C SZ dL_law_464 (ixv (k := 3) (show i + 3 < L by omega) (by omega)) (congrArg xs (ixe (k := 3) (show i + 3 < L by omega) (by omega))) ?_
  refine h_al_g C dL_law_465 rfl rfl rfv_r ?_
  refine h_iload_w C dL_law_466 rfl ?_
  refine h_iconst (v := 4) C dL_law_468 (by decide) ?_
  refine h_iadd C dL_law_469 ?_
  refine h_scld C SZ dL_law_470 (ixv (k := 4) (show i + 4 < L by omega) (by omega)) (congrArg xs (ixe (k := 4) (show i + 4 < L by omega) (by omega))) ?_
  refine h_callV4 (ci := 9) C (k_X9_allow Z.l Z.G Q S _ _ hM (xs (i + 1)) (xs (i + 2)) (xs (i + 3)) (xs (i + 4)) ) cw_L_143 im_X9_allow sl_X9_allow rfl (by decide) hM.kX dL_law_471 (by first | decide | exact Nat.le_of_ble_eq_true rfl) (by decide) (by decide) (by omega) (by omega) (kI fun r6 m6 hp1 => ?_) kN
  have hq := hp1
  obtain ⟨hthr, S', t', hst, hC', hM', hO', hel⟩ := lfin hC hO0 hp5 hRR (hq.elim (fun ⟨c0, e, T⟩ => Or.inl ⟨c0, _, ⟨e, rfl⟩, T⟩) Or.inr) hUU
  refine h_ist_6 C dL_law_474 ct_i ?_
  refine h_al_g C dL_law_476 rfl rfl rfv_r ?_
  refine h_callV0 (ci := 9) (a_ := .null) C (k_X9_thrown Z.l Z.G (Q 0) _ hM'.kX) cw_L_128 im_X9_thrown sl_X9_thrown rfl (by decide) hM'.kX dL_law_477 (by first | decide | exact Nat.le_of_ble_eq_true rfl) (by decide) (by decide) (by omega) (by omega) (kI fun r1 μ1 hp2 => ?_) kN
  obtain ⟨rfl, rfl⟩ := hp2
  refine h_iload_w C dL_law_480 rfl ?_
  refine h_icmp_eq (tgt := 487) C dL_law_482 (by decide) (fun c1 => ?_) (fun c1 => absurd (hthr) c1)
  refine h_iload_w C dL_law_487 rfl ?_
  refine h_if_ne (tgt := 504) C dL_law_489 (by decide) (fun cK => ?_) (fun cK => ?_)
  · refine h_goto (tgt := 2529) C dL_law_504 (by decide) ?_
    exact h_widen (by omega) (by omega) (kk _ _ _ (hst.elim (fun e => Or.inl e) (fun ⟨c0, v, h⟩ => Sstep.allow ⟨_, _, _, _, c0, h.2⟩)) hC' hM' hO' _ _ _ _)
  · refine h_al_g C dL_law_492 rfl rfl rfv_r ?_
    refine h_iconst (v := 0) C dL_law_493 (by decide) ?_
    refine h_lald C dL_law_494 (by rw [hO'.1]; decide) (inb hO'.2 (vp_in_nI (n := 0) (by decide) (by decide))) rfl ?_
    refine h_iload_w C dL_law_495 rfl ?_
    refine h_i2l C dL_law_497 ?_
    refine h_lcmp C dL_law_498 ?_
    refine h_if_eq (tgt := 504) C dL_law_499 (by decide) (fun c3 => ?_) (fun c3 => absurd (((lg_cmp_eq _ _).mpr (hel cK))) c3)
    refine h_goto (tgt := 2529) C dL_law_504 (by decide) ?_
    exact h_widen (by omega) (by omega) (kk _ _ _ (hst.elim (fun e => Or.inl e) (fun ⟨c0, v, h⟩ => Sstep.allow ⟨_, _, _, _, c0, h.2⟩)) hC' hM' hO' _ _ _ _)

set_option maxRecDepth 100000 in
set_option maxHeartbeats 1000000 in
theorem bl_L_forbid {Z : Zx} {P Q : Nat → Nat} {o sc L i : Nat} {xs : Row} {S : Sx} {t : Int32} {μ : Mem} {k n : Nat} (C : Cx Z RL cL_law 15 601024 7293034 610) (NN : NcZ Z) (SZ : ScZ Z sc L xs) (hk : k + 64 ≤ 601024) (hn : n + 12000 ≤ 7293034) (hL : L ≤ 2560) (hi : i + 4 < L) (hC : CRep Z.G P S μ) (hM : MRq Q S (LXo S t) μ) (hO : OS o μ) (hA : okA S) (kk : ∀ S' t' m, Sstep S S' → CRep Z.G P S' m → MRq Q S' (LXo S' t') m → OS o m → ∀ z5 z6 z7 z8 : Option Value, HW Z (k + 64) (n + 12000) 2529 [some (.ref sc), some (.ref (P 0)), some (.ref (Q 0)), some (.ref o), some (.int (nI i)), z5, z6, z7, z8] [] m) : ∀ z5 z6 z7 z8 : Option Value, HW Z k n 507 [some (.ref sc), some (.ref (P 0)), some (.ref (Q 0)), some (.ref o), some (.int (nI i)), z5, z6, z7, z8] [] μ := by
  intro z5 z6 z7 z8
  have hRR : ∀ w m, (fun (w9 : Int64) (μ1 : Mem) => ∃ v9 : Int32, w9 = v9.toInt64 ∧ forC S (xs (i + 1)) (xs (i + 2)) (xs (i + 3)) = 0 ∧ CTo Z.G P μ (S.sRt (cl (xs (i + 1))) (FOR (S.rt (cl (xs (i + 1)))) (TOPB (xs (i + 2)) (xs (i + 3))) (xs (i + 3)))) μ1 ∧ v9 = nI (FOR (S.rt (cl (xs (i + 1)))) (TOPB (xs (i + 2)) (xs (i + 3))) (xs (i + 3))).length) w m → ∃ (v9 : Int32) (S1 : Sx), w = v9.toInt64 ∧ (fun v S' => v = (nI (FOR (S.rt (cl (xs (i + 1)))) (TOPB (xs (i + 2)) (xs (i + 3))) (xs (i + 3))).length) ∧ S' = (S.sRt (cl (xs (i + 1))) (FOR (S.rt (cl (xs (i + 1)))) (TOPB (xs (i + 2)) (xs (i + 3))) (xs (i + 3))))) v9 S1 ∧ CTo Z.G P μ S1 m := fun w m ⟨v9, e, _, hT, e3⟩ => ⟨v9, _, e, ⟨e3, rfl⟩, hT⟩
  have hUU : ∀ (v : Int32) (S1 : Sx) (v' : Int32) (S2 : Sx), (fun v S' => v = (nI (FOR (S.rt (cl (xs (i + 1)))) (TOPB (xs (i + 2)) (xs (i + 3))) (xs (i + 3))).length) ∧ S' = (S.sRt (cl (xs (i + 1))) (FOR (S.rt (cl (xs (i + 1)))) (TOPB (xs (i + 2)) (xs (i + 3))) (xs (i + 3))))) v S1 → (fun v S' => v = (nI (FOR (S.rt (cl (xs (i + 1)))) (TOPB (xs (i + 2)) (xs (i + 3))) (xs (i + 3))).length) ∧ S' = (S.sRt (cl (xs (i + 1))) (FOR (S.rt (cl (xs (i + 1)))) (TOPB (xs (i + 2)) (xs (i + 3))) (xs (i + 3))))) v' S2 → v = v' ∧ S1 = S2 := fun v S1 v' S2 h h' => ⟨h.1.trans h'.1.symm, h.2.trans h'.2.symm⟩
  refine h_al_g C dL_law_507 rfl rfl rfv_r ?_
  refine h_al_g C dL_law_508 rfl rfl rfv_r ?_
  refine h_iload_w C dL_law_509 rfl ?_
  refine h_iconst (v := 1) C dL_law_511 (by decide) ?_
  refine h_iadd C dL_law_512 ?_
  refine h_scld C SZ dL_law_513 (ixv (k := 1) (show i + 1 < L by omega) (by omega)) (congrArg xs (ixe (k := 1) (show i + 1 < L by omega) (by omega))) ?_
  refine h_al_g C dL_law_514 rfl rfl rfv_r ?_
  refine h_iload_w C dL_law_515 rfl ?_
  refine h_iconst (v := 2) C dL_law_517 (by decide) ?_
  refine h_iadd C dL_law_518 ?_
  refine h_scld C SZ dL_law_519 (ixv (k := 2) (show i + 2 < L by omega) (by omega)) (congrArg xs (ixe (k := 2) (show i + 2 < L by omega) (by omega))) ?_
  refine h_al_g C dL_law_520 rfl rfl rfv_r ?_
  refine h_iload_w C dL_law_521 rfl ?_
  refine h_iconst (v := 3) C dL_law_523 (by decide) ?_
  refine h_iadd C dL_law_524 ?_
  refine h_scld C SZ dL_law_525 (ixv (k := 3) (show i + 3 < L by omega) (by omega)) (congrArg xs (ixe (k := 3) (show i + 3 < L by omega) (by omega))) ?_
  refine h_al_g C dL_law_526 rfl rfl rfv_r ?_
  refine h_callH5 C NN (k_L_forbid Z.l Z.G P S _ hC (xs (i + 1)) (xs (i + 2)) (xs (i + 3)) o hO.1 hO.2) cwh_forbid dL_law_527 (by decide) (by decide) (by decide) (by omega) (by omega) (kI fun r5 m5 hp5 => ?_)
  obtain ⟨hM5, hO5⟩ := lmid hM hO hp5 hRR
  have hO0 := hO
  have hM := hM5
  have hO := hO5
  refine h_ist_5 C dL_law_530 ct_i ?_
  refine h_al_g C dL_law_532 rfl rfl rfv_r ?_
  refine h_al_g C dL_law_533 rfl rfl rfv_r ?_
  refine h_iload_w C dL_law_534 rfl ?_
  refine h_iconst (v := 1) C dL_law_536 (by decide) ?_
  refine h_iadd C dL_law_537 ?_
  refine h_scld C SZ dL_law_538 (ixv (k := 1) (show i + 1 < L by omega) (by omega)) (congrArg xs (ixe (k := 1) (show i + 1 < L by omega) (by omega))) ?_
  refine h_al_g C dL_law_539 rfl rfl rfv_r ?_
  refine h_iload_w C dL_law_540 rfl ?_
  refine h_iconst (v := 2) C dL_law_542 (by decide) ?_
  refine h_iadd C dL_law_543 ?_
  refine h_scld C SZ dL_law_544 (ixv (k := 2) (show i + 2 < L by omega) (by omega)) (congrArg xs (ixe (k := 2) (show i + 2 < L by omega) (by omega))) ?_
  refine h_al_g C dL_law_545 rfl rfl rfv_r ?_
  refine h_iload_w C dL_law_546 rfl ?_
  refine h_iconst (v := 3) C dL_law_548 (by decide) ?_
  refine h_iadd C dL_law_549 ?_
  refine h_scld C SZ dL_law_550 (ixv (k := 3) (show i + 3 < L by omega) (by omega)) (congrArg xs (ixe (k := 3) (show i + 3 < L by omega) (by omega))) ?_
  refine h_callV3 (ci := 9) C (k_X9_forbid Z.l Z.G Q S _ _ hM (xs (i + 1)) (xs (i + 2)) (xs (i + 3)) ) cw_L_147 im_X9_forbid sl_X9_forbid rfl (by decide) hM.kX dL_law_551 (by first | decide | exact Nat.le_of_ble_eq_true rfl) (by decide) (by decide) (by omega) (by omega) (kI fun r6 m6 hp1 => ?_) kN
  have hq := hp1
  obtain ⟨hthr, S', t', hst, hC', hM', hO', hel⟩ := lfin hC hO0 hp5 hRR (hq.elim (fun ⟨c0, e, T⟩ => Or.inl ⟨c0, _, ⟨e, rfl⟩, T⟩) Or.inr) hUU
  refine h_ist_6 C dL_law_554 ct_i ?_
  refine h_al_g C dL_law_556 rfl rfl rfv_r ?_
  refine h_callV0 (ci := 9) (a_ := .null) C (k_X9_thrown Z.l Z.G (Q 0) _ hM'.kX) cw_L_128 im_X9_thrown sl_X9_thrown rfl (by decide) hM'.kX dL_law_557 (by first | decide | exact Nat.le_of_ble_eq_true rfl) (by decide) (by decide) (by omega) (by omega) (kI fun r1 μ1 hp2 => ?_) kN
  obtain ⟨rfl, rfl⟩ := hp2
  refine h_iload_w C dL_law_560 rfl ?_
  refine h_icmp_eq (tgt := 567) C dL_law_562 (by decide) (fun c1 => ?_) (fun c1 => absurd (hthr) c1)
  refine h_iload_w C dL_law_567 rfl ?_
  refine h_if_ne (tgt := 584) C dL_law_569 (by decide) (fun cK => ?_) (fun cK => ?_)
  · refine h_goto (tgt := 2529) C dL_law_584 (by decide) ?_
    exact h_widen (by omega) (by omega) (kk _ _ _ (hst.elim (fun e => Or.inl e) (fun ⟨c0, v, h⟩ => Sstep.forbid ⟨_, _, _, c0, h.2⟩)) hC' hM' hO' _ _ _ _)
  · refine h_al_g C dL_law_572 rfl rfl rfv_r ?_
    refine h_iconst (v := 0) C dL_law_573 (by decide) ?_
    refine h_lald C dL_law_574 (by rw [hO'.1]; decide) (inb hO'.2 (vp_in_nI (n := 0) (by decide) (by decide))) rfl ?_
    refine h_iload_w C dL_law_575 rfl ?_
    refine h_i2l C dL_law_577 ?_
    refine h_lcmp C dL_law_578 ?_
    refine h_if_eq (tgt := 584) C dL_law_579 (by decide) (fun c3 => ?_) (fun c3 => absurd (((lg_cmp_eq _ _).mpr (hel cK))) c3)
    refine h_goto (tgt := 2529) C dL_law_584 (by decide) ?_
    exact h_widen (by omega) (by omega) (kk _ _ _ (hst.elim (fun e => Or.inl e) (fun ⟨c0, v, h⟩ => Sstep.forbid ⟨_, _, _, c0, h.2⟩)) hC' hM' hO' _ _ _ _)

set_option maxRecDepth 100000 in
set_option maxHeartbeats 1000000 in
theorem bl_L_send {Z : Zx} {P Q : Nat → Nat} {o sc L i : Nat} {xs : Row} {S : Sx} {t : Int32} {μ : Mem} {k n : Nat} (C : Cx Z RL cL_law 15 601024 7293034 610) (NN : NcZ Z) (SZ : ScZ Z sc L xs) (hk : k + 64 ≤ 601024) (hn : n + 12000 ≤ 7293034) (hL : L ≤ 2560) (hi : i + 4 < L) (hC : CRep Z.G P S μ) (hM : MRq Q S (LXo S t) μ) (hO : OS o μ) (hA : okA S) (kk : ∀ S' t' m, Sstep S S' → CRep Z.G P S' m → MRq Q S' (LXo S' t') m → OS o m → ∀ z5 z6 z7 z8 : Option Value, HW Z (k + 64) (n + 12000) 2529 [some (.ref sc), some (.ref (P 0)), some (.ref (Q 0)), some (.ref o), some (.int (nI i)), z5, z6, z7, z8] [] m) : ∀ z5 z6 z7 z8 : Option Value, HW Z k n 587 [some (.ref sc), some (.ref (P 0)), some (.ref (Q 0)), some (.ref o), some (.int (nI i)), z5, z6, z7, z8] [] μ := by
  intro z5 z6 z7 z8
  have hRR : ∀ w m, (fun (w9 : Int64) (μ1 : Mem) => ∃ v9 : Int32, w9 = v9.toInt64 ∧ sndC (xs (i + 1)) (xs (i + 2)) (xs (i + 3)) (xs (i + 4)) = 0 ∧ ((¬ isE (GVN (xs (i + 3)) (S.rt (cl (xs (i + 1)))) (-1) (-1)) ∧ v9 = -1 ∧ μ = μ1) ∨ (isE (GVN (xs (i + 3)) (S.rt (cl (xs (i + 1)))) (-1) (-1)) ∧ v9 = (SND S (cl (xs (i + 1))) (cl (GVN (xs (i + 3)) (S.rt (cl (xs (i + 1)))) (-1) (-1))) (xs (i + 2)) (xs (i + 3)) (xs (i + 4))).1 ∧ CTo Z.G P μ (SND S (cl (xs (i + 1))) (cl (GVN (xs (i + 3)) (S.rt (cl (xs (i + 1)))) (-1) (-1))) (xs (i + 2)) (xs (i + 3)) (xs (i + 4))).2 μ1))) w m → ∃ (v9 : Int32) (S1 : Sx), w = v9.toInt64 ∧ (fun v S' => (¬ isE (GVN (xs (i + 3)) (S.rt (cl (xs (i + 1)))) (-1) (-1)) ∧ v = -1 ∧ S' = S) ∨ (isE (GVN (xs (i + 3)) (S.rt (cl (xs (i + 1)))) (-1) (-1)) ∧ v = (SND S (cl (xs (i + 1))) (cl (GVN (xs (i + 3)) (S.rt (cl (xs (i + 1)))) (-1) (-1))) (xs (i + 2)) (xs (i + 3)) (xs (i + 4))).1 ∧ S' = (SND S (cl (xs (i + 1))) (cl (GVN (xs (i + 3)) (S.rt (cl (xs (i + 1)))) (-1) (-1))) (xs (i + 2)) (xs (i + 3)) (xs (i + 4))).2)) v9 S1 ∧ CTo Z.G P μ S1 m := fun w m ⟨v9, e, _, h⟩ => h.elim (fun ⟨h1, h2, e2⟩ => ⟨v9, S, e, Or.inl ⟨h1, h2, rfl⟩, e2 ▸ CTo.rf9 hC⟩) (fun ⟨h1, h2, hT⟩ => ⟨v9, _, e, Or.inr ⟨h1, h2, rfl⟩, hT⟩)
  have hUU : ∀ (v : Int32) (S1 : Sx) (v' : Int32) (S2 : Sx), (fun v S' => (¬ isE (GVN (xs (i + 3)) (S.rt (cl (xs (i + 1)))) (-1) (-1)) ∧ v = -1 ∧ S' = S) ∨ (isE (GVN (xs (i + 3)) (S.rt (cl (xs (i + 1)))) (-1) (-1)) ∧ v = (SND S (cl (xs (i + 1))) (cl (GVN (xs (i + 3)) (S.rt (cl (xs (i + 1)))) (-1) (-1))) (xs (i + 2)) (xs (i + 3)) (xs (i + 4))).1 ∧ S' = (SND S (cl (xs (i + 1))) (cl (GVN (xs (i + 3)) (S.rt (cl (xs (i + 1)))) (-1) (-1))) (xs (i + 2)) (xs (i + 3)) (xs (i + 4))).2)) v S1 → (fun v S' => (¬ isE (GVN (xs (i + 3)) (S.rt (cl (xs (i + 1)))) (-1) (-1)) ∧ v = -1 ∧ S' = S) ∨ (isE (GVN (xs (i + 3)) (S.rt (cl (xs (i + 1)))) (-1) (-1)) ∧ v = (SND S (cl (xs (i + 1))) (cl (GVN (xs (i + 3)) (S.rt (cl (xs (i + 1)))) (-1) (-1))) (xs (i + 2)) (xs (i + 3)) (xs (i + 4))).1 ∧ S' = (SND S (cl (xs (i + 1))) (cl (GVN (xs (i + 3)) (S.rt (cl (xs (i + 1)))) (-1) (-1))) (xs (i + 2)) (xs (i + 3)) (xs (i + 4))).2)) v' S2 → v = v' ∧ S1 = S2 := fun v S1 v' S2 h h' => by
    rcases h with ⟨a1, a2, a3⟩ | ⟨a1, a2, a3⟩
    · rcases h' with ⟨b1, b2, b3⟩ | ⟨b1, b2, b3⟩
      · exact ⟨a2.trans b2.symm, a3.trans b3.symm⟩
      · exact absurd b1 a1
    · rcases h' with ⟨b1, b2, b3⟩ | ⟨b1, b2, b3⟩
      · exact absurd a1 b1
      · exact ⟨a2.trans b2.symm, a3.trans b3.symm⟩
  refine h_al_g C dL_law_587 rfl rfl rfv_r ?_
  refine h_al_g C dL_law_588 rfl rfl rfv_r ?_
  refine h_iload_w C dL_law_589 rfl ?_
  refine h_iconst (v := 1) C dL_law_591 (by decide) ?_
  refine h_iadd C dL_law_592 ?_
  refine h_scld C SZ dL_law_593 (ixv (k := 1) (show i + 1 < L by omega) (by omega)) (congrArg xs (ixe (k := 1) (show i + 1 < L by omega) (by omega))) ?_
  refine h_al_g C dL_law_594 rfl rfl rfv_r ?_
  refine h_iload_w C dL_law_595 rfl ?_
  refine h_iconst (v := 2) C dL_law_597 (by decide) ?_
  refine h_iadd C dL_law_598 ?_
  refine h_scld C SZ dL_law_599 (ixv (k := 2) (show i + 2 < L by omega) (by omega)) (congrArg xs (ixe (k := 2) (show i + 2 < L by omega) (by omega))) ?_
  refine h_al_g C dL_law_600 rfl rfl rfv_r ?_
  refine h_iload_w C dL_law_601 rfl ?_
  refine h_iconst (v := 3) C dL_law_603 (by decide) ?_
  refine h_iadd C dL_law_604 ?_
  refine h_scld C SZ dL_law_605 (ixv (k := 3) (show i + 3 < L by omega) (by omega)) (congrArg xs (ixe (k := 3) (show i + 3 < L by omega) (by omega))) ?_
  refine h_al_g C dL_law_606 rfl rfl rfv_r ?_
  refine h_iload_w C dL_law_607 rfl ?_
  refine h_iconst (v := 4) C dL_law_609 (by decide) ?_
  refine h_iadd C dL_law_610 ?_
  refine h_scld C SZ dL_law_611 (ixv (k := 4) (show i + 4 < L by omega) (by omega)) (congrArg xs (ixe (k := 4) (show i + 4 < L by omega) (by omega))) ?_
  refine h_al_g C dL_law_612 rfl rfl rfv_r ?_
  refine h_callH6 C NN (k_L_send Z.l Z.G P S _ hC (xs (i + 1)) (xs (i + 2)) (xs (i + 3)) (xs (i + 4)) hA.2.1 o hO.1 hO.2) cwh_send dL_law_613 (by decide) (by decide) (by decide) (by omega) (by omega) (kI fun r5 m5 hp5 => ?_)
  obtain ⟨hM5, hO5⟩ := lmid hM hO hp5 hRR
  have hO0 := hO
  have hM := hM5
  have hO := hO5
  refine h_ist_5 C dL_law_616 ct_i ?_
  refine h_al_g C dL_law_618 rfl rfl rfv_r ?_
  refine h_al_g C dL_law_619 rfl rfl rfv_r ?_
  refine h_iload_w C dL_law_620 rfl ?_
  refine h_iconst (v := 1) C dL_law_622 (by decide) ?_
  refine h_iadd C dL_law_623 ?_
  refine h_scld C SZ dL_law_624 (ixv (k := 1) (show i + 1 < L by omega) (by omega)) (congrArg xs (ixe (k := 1) (show i + 1 < L by omega) (by omega))) ?_
  refine h_al_g C dL_law_625 rfl rfl rfv_r ?_
  refine h_iload_w C dL_law_626 rfl ?_
  refine h_iconst (v := 2) C dL_law_628 (by decide) ?_
  refine h_iadd C dL_law_629 ?_
  refine h_scld C SZ dL_law_630 (ixv (k := 2) (show i + 2 < L by omega) (by omega)) (congrArg xs (ixe (k := 2) (show i + 2 < L by omega) (by omega))) ?_
  refine h_al_g C dL_law_631 rfl rfl rfv_r ?_
  refine h_iload_w C dL_law_632 rfl ?_
  refine h_iconst (v := 3) C dL_law_634 (by decide) ?_
  refine h_iadd C dL_law_635 ?_
  refine h_scld C SZ dL_law_636 (ixv (k := 3) (show i + 3 < L by omega) (by omega)) (congrArg xs (ixe (k := 3) (show i + 3 < L by omega) (by omega))) ?_
  refine h_al_g C dL_law_637 rfl rfl rfv_r ?_
  refine h_iload_w C dL_law_638 rfl ?_
  refine h_iconst (v := 4) C dL_law_640 (by decide) ?_
  refine h_iadd C dL_law_641 ?_
  refine h_scld C SZ dL_law_642 (ixv (k := 4) (show i + 4 < L by omega) (by omega)) (congrArg xs (ixe (k := 4) (show i + 4 < L by omega) (by omega))) ?_
  refine h_callV4 (ci := 9) C (k_X9_send Z.l Z.G Q S _ _ hM (xs (i + 1)) (xs (i + 2)) (xs (i + 3)) (xs (i + 4)) hA.2.2.1 hA.2.2.2.2.2.2.2.2.1 hA.2.2.2.2.2.2.2.1) cw_L_150 im_X9_send sl_X9_send rfl (by decide) hM.kX dL_law_643 (by first | decide | exact Nat.le_of_ble_eq_true rfl) (by decide) (by decide) (by omega) (by omega) (kI fun r6 m6 hp1 => ?_) kN
  have hq := hp1
  obtain ⟨hthr, S', t', hst, hC', hM', hO', hel⟩ := lfin hC hO0 hp5 hRR (hq.elim (fun ⟨c0, h1⟩ => Or.inl ⟨c0, h1.elim (fun ⟨g1, e, T⟩ => ⟨S, Or.inl ⟨g1, e, rfl⟩, T⟩) (fun ⟨g1, e, T⟩ => ⟨_, Or.inr ⟨g1, e, rfl⟩, T⟩)⟩) Or.inr) hUU
  refine h_ist_6 C dL_law_646 ct_i ?_
  refine h_al_g C dL_law_648 rfl rfl rfv_r ?_
  refine h_callV0 (ci := 9) (a_ := .null) C (k_X9_thrown Z.l Z.G (Q 0) _ hM'.kX) cw_L_128 im_X9_thrown sl_X9_thrown rfl (by decide) hM'.kX dL_law_649 (by first | decide | exact Nat.le_of_ble_eq_true rfl) (by decide) (by decide) (by omega) (by omega) (kI fun r1 μ1 hp2 => ?_) kN
  obtain ⟨rfl, rfl⟩ := hp2
  refine h_iload_w C dL_law_652 rfl ?_
  refine h_icmp_eq (tgt := 659) C dL_law_654 (by decide) (fun c1 => ?_) (fun c1 => absurd (hthr) c1)
  refine h_iload_w C dL_law_659 rfl ?_
  refine h_if_ne (tgt := 676) C dL_law_661 (by decide) (fun cK => ?_) (fun cK => ?_)
  · refine h_goto (tgt := 2529) C dL_law_676 (by decide) ?_
    exact h_widen (by omega) (by omega) (kk _ _ _ (hst.elim (fun e => Or.inl e) (fun ⟨c0, v, h⟩ => h.elim (fun ⟨_, _, e⟩ => Or.inl e) (fun ⟨h1, _, e⟩ => Sstep.send ⟨_, _, _, _, c0, h1, e⟩))) hC' hM' hO' _ _ _ _)
  · refine h_al_g C dL_law_664 rfl rfl rfv_r ?_
    refine h_iconst (v := 0) C dL_law_665 (by decide) ?_
    refine h_lald C dL_law_666 (by rw [hO'.1]; decide) (inb hO'.2 (vp_in_nI (n := 0) (by decide) (by decide))) rfl ?_
    refine h_iload_w C dL_law_667 rfl ?_
    refine h_i2l C dL_law_669 ?_
    refine h_lcmp C dL_law_670 ?_
    refine h_if_eq (tgt := 676) C dL_law_671 (by decide) (fun c3 => ?_) (fun c3 => absurd (((lg_cmp_eq _ _).mpr (hel cK))) c3)
    refine h_goto (tgt := 2529) C dL_law_676 (by decide) ?_
    exact h_widen (by omega) (by omega) (kk _ _ _ (hst.elim (fun e => Or.inl e) (fun ⟨c0, v, h⟩ => h.elim (fun ⟨_, _, e⟩ => Or.inl e) (fun ⟨h1, _, e⟩ => Sstep.send ⟨_, _, _, _, c0, h1, e⟩))) hC' hM' hO' _ _ _ _)

set_option maxRecDepth 100000 in
set_option maxHeartbeats 1000000 in
theorem bl_L_keep {Z : Zx} {P Q : Nat → Nat} {o sc L i : Nat} {xs : Row} {S : Sx} {t : Int32} {μ : Mem} {k n : Nat} (C : Cx Z RL cL_law 15 601024 7293034 610) (NN : NcZ Z) (SZ : ScZ Z sc L xs) (hk : k + 64 ≤ 601024) (hn : n + 12000 ≤ 7293034) (hL : L ≤ 2560) (hi : i + 4 < L) (hC : CRep Z.G P S μ) (hM : MRq Q S (LXo S t) μ) (hO : OS o μ) (hA : okA S) (kk : ∀ S' t' m, Sstep S S' → CRep Z.G P S' m → MRq Q S' (LXo S' t') m → OS o m → ∀ z5 z6 z7 z8 : Option Value, HW Z (k + 64) (n + 12000) 2529 [some (.ref sc), some (.ref (P 0)), some (.ref (Q 0)), some (.ref o), some (.int (nI i)), z5, z6, z7, z8] [] m) : ∀ z5 z6 z7 z8 : Option Value, HW Z k n 679 [some (.ref sc), some (.ref (P 0)), some (.ref (Q 0)), some (.ref o), some (.int (nI i)), z5, z6, z7, z8] [] μ := by
  intro z5 z6 z7 z8
  have hRR : ∀ w m, (fun (w9 : Int64) (μ1 : Mem) => (w9 = 1 ∧ pairC (xs (i + 1)) (xs (i + 2)) = 0 ∧ ∃ r, USE S (cl (xs (i + 1))) (cl (xs (i + 2))) = some r ∧ CTo Z.G P μ (DATS S (cl (xs (i + 1))) (cl (xs (i + 2))) r (-1) (-1) (-1)) μ1) ∨ (w9 = 0 ∧ pairC (xs (i + 1)) (xs (i + 2)) = 0 ∧ USE S (cl (xs (i + 1))) (cl (xs (i + 2))) = none ∧ μ = μ1)) w m → ∃ (v9 : Int32) (S1 : Sx), w = v9.toInt64 ∧ (fun v S' => (v = 1 ∧ ∃ r, USE S (cl (xs (i + 1))) (cl (xs (i + 2))) = some r ∧ S' = DATS S (cl (xs (i + 1))) (cl (xs (i + 2))) r (-1) (-1) (-1)) ∨ (v = 0 ∧ USE S (cl (xs (i + 1))) (cl (xs (i + 2))) = none ∧ S' = S)) v9 S1 ∧ CTo Z.G P μ S1 m := fun w m h => h.elim (fun ⟨e, _, r, hu, hT⟩ => ⟨1, _, e, Or.inl ⟨rfl, r, hu, rfl⟩, hT⟩) (fun ⟨e, _, hu, e2⟩ => ⟨0, S, e, Or.inr ⟨rfl, hu, rfl⟩, e2 ▸ CTo.rf9 hC⟩)
  have hUU : ∀ (v : Int32) (S1 : Sx) (v' : Int32) (S2 : Sx), (fun v S' => (v = 1 ∧ ∃ r, USE S (cl (xs (i + 1))) (cl (xs (i + 2))) = some r ∧ S' = DATS S (cl (xs (i + 1))) (cl (xs (i + 2))) r (-1) (-1) (-1)) ∨ (v = 0 ∧ USE S (cl (xs (i + 1))) (cl (xs (i + 2))) = none ∧ S' = S)) v S1 → (fun v S' => (v = 1 ∧ ∃ r, USE S (cl (xs (i + 1))) (cl (xs (i + 2))) = some r ∧ S' = DATS S (cl (xs (i + 1))) (cl (xs (i + 2))) r (-1) (-1) (-1)) ∨ (v = 0 ∧ USE S (cl (xs (i + 1))) (cl (xs (i + 2))) = none ∧ S' = S)) v' S2 → v = v' ∧ S1 = S2 := fun v S1 v' S2 h h' => by
    rcases h with ⟨a1, r, a2, a3⟩ | ⟨a1, a2, a3⟩
    · rcases h' with ⟨b1, r', b2, b3⟩ | ⟨b1, b2, b3⟩
      · cases a2.symm.trans b2
        exact ⟨a1.trans b1.symm, a3.trans b3.symm⟩
      · rw [a2] at b2; cases b2
    · rcases h' with ⟨b1, r', b2, b3⟩ | ⟨b1, b2, b3⟩
      · rw [a2] at b2; cases b2
      · exact ⟨a1.trans b1.symm, a3.trans b3.symm⟩
  refine h_al_g C dL_law_679 rfl rfl rfv_r ?_
  refine h_al_g C dL_law_680 rfl rfl rfv_r ?_
  refine h_iload_w C dL_law_681 rfl ?_
  refine h_iconst (v := 1) C dL_law_683 (by decide) ?_
  refine h_iadd C dL_law_684 ?_
  refine h_scld C SZ dL_law_685 (ixv (k := 1) (show i + 1 < L by omega) (by omega)) (congrArg xs (ixe (k := 1) (show i + 1 < L by omega) (by omega))) ?_
  refine h_al_g C dL_law_686 rfl rfl rfv_r ?_
  refine h_iload_w C dL_law_687 rfl ?_
  refine h_iconst (v := 2) C dL_law_689 (by decide) ?_
  refine h_iadd C dL_law_690 ?_
  refine h_scld C SZ dL_law_691 (ixv (k := 2) (show i + 2 < L by omega) (by omega)) (congrArg xs (ixe (k := 2) (show i + 2 < L by omega) (by omega))) ?_
  refine h_al_g C dL_law_692 rfl rfl rfv_r ?_
  refine h_callH4 C NN (k_L_keep Z.l Z.G P S _ hC (xs (i + 1)) (xs (i + 2)) hA.2.1 o hO.1 hO.2) cwh_keep dL_law_693 (by decide) (by decide) (by decide) (by omega) (by omega) (kI fun r5 m5 hp5 => ?_)
  obtain ⟨hM5, hO5⟩ := lmid hM hO hp5 hRR
  have hO0 := hO
  have hM := hM5
  have hO := hO5
  refine h_ist_5 C dL_law_696 ct_i ?_
  refine h_al_g C dL_law_698 rfl rfl rfv_r ?_
  refine h_al_g C dL_law_699 rfl rfl rfv_r ?_
  refine h_iload_w C dL_law_700 rfl ?_
  refine h_iconst (v := 1) C dL_law_702 (by decide) ?_
  refine h_iadd C dL_law_703 ?_
  refine h_scld C SZ dL_law_704 (ixv (k := 1) (show i + 1 < L by omega) (by omega)) (congrArg xs (ixe (k := 1) (show i + 1 < L by omega) (by omega))) ?_
  refine h_al_g C dL_law_705 rfl rfl rfv_r ?_
  refine h_iload_w C dL_law_706 rfl ?_
  refine h_iconst (v := 2) C dL_law_708 (by decide) ?_
  refine h_iadd C dL_law_709 ?_
  refine h_scld C SZ dL_law_710 (ixv (k := 2) (show i + 2 < L by omega) (by omega)) (congrArg xs (ixe (k := 2) (show i + 2 < L by omega) (by omega))) ?_
  refine h_callV2 (ci := 9) C (k_X9_keep Z.l Z.G Q S _ _ hM (xs (i + 1)) (xs (i + 2)) hA.2.2.1) cw_L_153 im_X9_keep sl_X9_keep rfl (by decide) hM.kX dL_law_711 (by first | decide | exact Nat.le_of_ble_eq_true rfl) (by decide) (by decide) (by omega) (by omega) (kI fun r6 m6 hp1 => ?_) kN
  have hq := hp1
  obtain ⟨hthr, S', t', hst, hC', hM', hO', hel⟩ := lfin hC hO0 hp5 hRR (hq.2.elim (fun ⟨c0, h1⟩ => Or.inl ⟨c0, h1.elim (fun ⟨e, r, hu, T⟩ => ⟨_, Or.inl ⟨e, r, hu, rfl⟩, T⟩) (fun ⟨e, hu, T⟩ => ⟨S, Or.inr ⟨e, hu, rfl⟩, T⟩)⟩) Or.inr) hUU
  refine h_ist_6 C dL_law_714 ct_i ?_
  refine h_al_g C dL_law_716 rfl rfl rfv_r ?_
  refine h_callV0 (ci := 9) (a_ := .null) C (k_X9_thrown Z.l Z.G (Q 0) _ hM'.kX) cw_L_128 im_X9_thrown sl_X9_thrown rfl (by decide) hM'.kX dL_law_717 (by first | decide | exact Nat.le_of_ble_eq_true rfl) (by decide) (by decide) (by omega) (by omega) (kI fun r1 μ1 hp2 => ?_) kN
  obtain ⟨rfl, rfl⟩ := hp2
  refine h_iload_w C dL_law_720 rfl ?_
  refine h_icmp_eq (tgt := 727) C dL_law_722 (by decide) (fun c1 => ?_) (fun c1 => absurd (hthr) c1)
  refine h_iload_w C dL_law_727 rfl ?_
  refine h_if_ne (tgt := 751) C dL_law_729 (by decide) (fun cK => ?_) (fun cK => ?_)
  · refine h_goto (tgt := 2529) C dL_law_751 (by decide) ?_
    exact h_widen (by omega) (by omega) (kk _ _ _ (hst.elim (fun e => Or.inl e) (fun ⟨c0, v, h⟩ => h.elim (fun ⟨_, r, hu, e⟩ => Sstep.keep ⟨_, _, r, c0, hu, e⟩) (fun ⟨_, _, e⟩ => Or.inl e))) hC' hM' hO' _ _ _ _)
  · refine h_al_g C dL_law_732 rfl rfl rfv_r ?_
    refine h_iconst (v := 0) C dL_law_733 (by decide) ?_
    refine h_lald C dL_law_734 (by rw [hO'.1]; decide) (inb hO'.2 (vp_in_nI (n := 0) (by decide) (by decide))) rfl ?_
    refine h_iload_w C dL_law_735 rfl ?_
    refine h_if_eq (tgt := 744) C dL_law_737 (by decide) (fun cB => ?_) (fun cB => ?_)
    · refine h_lconst (v := 0) C dL_law_744 (by decide) ?_
      refine h_lcmp C dL_law_745 ?_
      refine h_if_eq (tgt := 751) C dL_law_746 (by decide) (fun c4 => ?_) (fun c4 => absurd (((lg_cmp_eq _ _).mpr ((hel cK).trans (by rw [cB]; rfl)))) c4)
      refine h_goto (tgt := 2529) C dL_law_751 (by decide) ?_
      exact h_widen (by omega) (by omega) (kk _ _ _ (hst.elim (fun e => Or.inl e) (fun ⟨c0, v, h⟩ => h.elim (fun ⟨_, r, hu, e⟩ => Sstep.keep ⟨_, _, r, c0, hu, e⟩) (fun ⟨_, _, e⟩ => Or.inl e))) hC' hM' hO' _ _ _ _)
    · refine h_lconst (v := 1) C dL_law_740 (by decide) ?_
      refine h_goto (tgt := 745) C dL_law_741 (by decide) ?_
      refine h_lcmp C dL_law_745 ?_
      refine h_if_eq (tgt := 751) C dL_law_746 (by decide) (fun c5 => ?_) (fun c5 => absurd (((lg_cmp_eq _ _).mpr ((hel cK).trans (by rw [hq.1.resolve_left cB]; rfl)))) c5)
      refine h_goto (tgt := 2529) C dL_law_751 (by decide) ?_
      exact h_widen (by omega) (by omega) (kk _ _ _ (hst.elim (fun e => Or.inl e) (fun ⟨c0, v, h⟩ => h.elim (fun ⟨_, r, hu, e⟩ => Sstep.keep ⟨_, _, r, c0, hu, e⟩) (fun ⟨_, _, e⟩ => Or.inl e))) hC' hM' hO' _ _ _ _)

set_option maxRecDepth 100000 in
set_option maxHeartbeats 1000000 in
theorem bl_L_greet {Z : Zx} {P Q : Nat → Nat} {o sc L i : Nat} {xs : Row} {S : Sx} {t : Int32} {μ : Mem} {k n : Nat} (C : Cx Z RL cL_law 15 601024 7293034 610) (NN : NcZ Z) (SZ : ScZ Z sc L xs) (hk : k + 64 ≤ 601024) (hn : n + 12000 ≤ 7293034) (hL : L ≤ 2560) (hi : i + 4 < L) (hC : CRep Z.G P S μ) (hM : MRq Q S (LXo S t) μ) (hO : OS o μ) (hA : okA S) (kk : ∀ S' t' m, Sstep S S' → CRep Z.G P S' m → MRq Q S' (LXo S' t') m → OS o m → ∀ z5 z6 z7 z8 : Option Value, HW Z (k + 64) (n + 12000) 2529 [some (.ref sc), some (.ref (P 0)), some (.ref (Q 0)), some (.ref o), some (.int (nI i)), z5, z6, z7, z8] [] m) : ∀ z5 z6 z7 z8 : Option Value, HW Z k n 754 [some (.ref sc), some (.ref (P 0)), some (.ref (Q 0)), some (.ref o), some (.int (nI i)), z5, z6, z7, z8] [] μ := by
  intro z5 z6 z7 z8
  have hRR : ∀ w m, (fun (w9 : Int64) (μ1 : Mem) => ∃ v9 : Int32, w9 = v9.toInt64 ∧ greC S (xs (i + 1)) (xs (i + 2)) = 0 ∧ v9 = HNUM S ∧ CTo Z.G P μ (HELS S (cl (xs (i + 1))) (cl (xs (i + 2)))) μ1) w m → ∃ (v9 : Int32) (S1 : Sx), w = v9.toInt64 ∧ (fun v S' => v = (HNUM S) ∧ S' = HELS S (cl (xs (i + 1))) (cl (xs (i + 2)))) v9 S1 ∧ CTo Z.G P μ S1 m := fun w m ⟨v9, e, _, e3, hT⟩ => ⟨v9, _, e, ⟨e3, rfl⟩, hT⟩
  have hUU : ∀ (v : Int32) (S1 : Sx) (v' : Int32) (S2 : Sx), (fun v S' => v = (HNUM S) ∧ S' = HELS S (cl (xs (i + 1))) (cl (xs (i + 2)))) v S1 → (fun v S' => v = (HNUM S) ∧ S' = HELS S (cl (xs (i + 1))) (cl (xs (i + 2)))) v' S2 → v = v' ∧ S1 = S2 := fun v S1 v' S2 h h' => ⟨h.1.trans h'.1.symm, h.2.trans h'.2.symm⟩
  refine h_al_g C dL_law_754 rfl rfl rfv_r ?_
  refine h_al_g C dL_law_755 rfl rfl rfv_r ?_
  refine h_iload_w C dL_law_756 rfl ?_
  refine h_iconst (v := 1) C dL_law_758 (by decide) ?_
  refine h_iadd C dL_law_759 ?_
  refine h_scld C SZ dL_law_760 (ixv (k := 1) (show i + 1 < L by omega) (by omega)) (congrArg xs (ixe (k := 1) (show i + 1 < L by omega) (by omega))) ?_
  refine h_al_g C dL_law_761 rfl rfl rfv_r ?_
  refine h_iload_w C dL_law_762 rfl ?_
  refine h_iconst (v := 2) C dL_law_764 (by decide) ?_
  refine h_iadd C dL_law_765 ?_
  refine h_scld C SZ dL_law_766 (ixv (k := 2) (show i + 2 < L by omega) (by omega)) (congrArg xs (ixe (k := 2) (show i + 2 < L by omega) (by omega))) ?_
  refine h_al_g C dL_law_767 rfl rfl rfv_r ?_
  refine h_callH4 C NN (k_L_greet Z.l Z.G P S _ hC (xs (i + 1)) (xs (i + 2)) hA.2.1 o hO.1 hO.2) cwh_greet dL_law_768 (by decide) (by decide) (by decide) (by omega) (by omega) (kI fun r5 m5 hp5 => ?_)
  obtain ⟨hM5, hO5⟩ := lmid hM hO hp5 hRR
  have hO0 := hO
  have hM := hM5
  have hO := hO5
  refine h_ist_5 C dL_law_771 ct_i ?_
  refine h_al_g C dL_law_773 rfl rfl rfv_r ?_
  refine h_al_g C dL_law_774 rfl rfl rfv_r ?_
  refine h_iload_w C dL_law_775 rfl ?_
  refine h_iconst (v := 1) C dL_law_777 (by decide) ?_
  refine h_iadd C dL_law_778 ?_
  refine h_scld C SZ dL_law_779 (ixv (k := 1) (show i + 1 < L by omega) (by omega)) (congrArg xs (ixe (k := 1) (show i + 1 < L by omega) (by omega))) ?_
  refine h_al_g C dL_law_780 rfl rfl rfv_r ?_
  refine h_iload_w C dL_law_781 rfl ?_
  refine h_iconst (v := 2) C dL_law_783 (by decide) ?_
  refine h_iadd C dL_law_784 ?_
  refine h_scld C SZ dL_law_785 (ixv (k := 2) (show i + 2 < L by omega) (by omega)) (congrArg xs (ixe (k := 2) (show i + 2 < L by omega) (by omega))) ?_
  refine h_callV2 (ci := 9) C (k_X9_greet Z.l Z.G Q S _ _ hM (xs (i + 1)) (xs (i + 2)) hA.2.2.1) cw_L_156 im_X9_greet sl_X9_greet rfl (by decide) hM.kX dL_law_786 (by first | decide | exact Nat.le_of_ble_eq_true rfl) (by decide) (by decide) (by omega) (by omega) (kI fun r6 m6 hp1 => ?_) kN
  have hq := hp1
  obtain ⟨hthr, S', t', hst, hC', hM', hO', hel⟩ := lfin hC hO0 hp5 hRR (hq.elim (fun ⟨c0, e, T⟩ => Or.inl ⟨c0, _, ⟨e, rfl⟩, T⟩) Or.inr) hUU
  refine h_ist_6 C dL_law_789 ct_i ?_
  refine h_al_g C dL_law_791 rfl rfl rfv_r ?_
  refine h_callV0 (ci := 9) (a_ := .null) C (k_X9_thrown Z.l Z.G (Q 0) _ hM'.kX) cw_L_128 im_X9_thrown sl_X9_thrown rfl (by decide) hM'.kX dL_law_792 (by first | decide | exact Nat.le_of_ble_eq_true rfl) (by decide) (by decide) (by omega) (by omega) (kI fun r1 μ1 hp2 => ?_) kN
  obtain ⟨rfl, rfl⟩ := hp2
  refine h_iload_w C dL_law_795 rfl ?_
  refine h_icmp_eq (tgt := 802) C dL_law_797 (by decide) (fun c1 => ?_) (fun c1 => absurd (hthr) c1)
  refine h_iload_w C dL_law_802 rfl ?_
  refine h_if_ne (tgt := 819) C dL_law_804 (by decide) (fun cK => ?_) (fun cK => ?_)
  · refine h_goto (tgt := 2529) C dL_law_819 (by decide) ?_
    exact h_widen (by omega) (by omega) (kk _ _ _ (hst.elim (fun e => Or.inl e) (fun ⟨c0, v, h⟩ => Sstep.greet ⟨_, _, c0, h.2⟩)) hC' hM' hO' _ _ _ _)
  · refine h_al_g C dL_law_807 rfl rfl rfv_r ?_
    refine h_iconst (v := 0) C dL_law_808 (by decide) ?_
    refine h_lald C dL_law_809 (by rw [hO'.1]; decide) (inb hO'.2 (vp_in_nI (n := 0) (by decide) (by decide))) rfl ?_
    refine h_iload_w C dL_law_810 rfl ?_
    refine h_i2l C dL_law_812 ?_
    refine h_lcmp C dL_law_813 ?_
    refine h_if_eq (tgt := 819) C dL_law_814 (by decide) (fun c3 => ?_) (fun c3 => absurd (((lg_cmp_eq _ _).mpr (hel cK))) c3)
    refine h_goto (tgt := 2529) C dL_law_819 (by decide) ?_
    exact h_widen (by omega) (by omega) (kk _ _ _ (hst.elim (fun e => Or.inl e) (fun ⟨c0, v, h⟩ => Sstep.greet ⟨_, _, c0, h.2⟩)) hC' hM' hO' _ _ _ _)

set_option maxRecDepth 100000 in
set_option maxHeartbeats 1000000 in
theorem bl_L_deliver {Z : Zx} {P Q : Nat → Nat} {o sc L i : Nat} {xs : Row} {S : Sx} {t : Int32} {μ : Mem} {k n : Nat} (C : Cx Z RL cL_law 15 601024 7293034 610) (NN : NcZ Z) (SZ : ScZ Z sc L xs) (hk : k + 64 ≤ 601024) (hn : n + 12000 ≤ 7293034) (hL : L ≤ 2560) (hi : i + 4 < L) (hC : CRep Z.G P S μ) (hM : MRq Q S (LXo S t) μ) (hO : OS o μ) (hA : okA S) (kk : ∀ S' t' m, Sstep S S' → CRep Z.G P S' m → MRq Q S' (LXo S' t') m → OS o m → ∀ z5 z6 z7 z8 : Option Value, HW Z (k + 64) (n + 12000) 2529 [some (.ref sc), some (.ref (P 0)), some (.ref (Q 0)), some (.ref o), some (.int (nI i)), z5, z6, z7, z8] [] m) : ∀ z5 z6 z7 z8 : Option Value, HW Z k n 822 [some (.ref sc), some (.ref (P 0)), some (.ref (Q 0)), some (.ref o), some (.int (nI i)), z5, z6, z7, z8] [] μ := by
  intro z5 z6 z7 z8
  have hRR : ∀ w m, (fun (w9 : Int64) (μ1 : Mem) => ∃ v9 : Int32, w9 = v9.toInt64 ∧ letC S (xs (i + 1)) = 0 ∧ ∃ S9, GOT (S.sNt (S.nt.eraseIdx (cl (xs (i + 1))))) (LTR S (cl (xs (i + 1)))) v9 S9 ∧ CTo Z.G P μ (DLF S9 v9) μ1) w m → ∃ (v9 : Int32) (S1 : Sx), w = v9.toInt64 ∧ (fun v S' => ∃ S9, GOT (S.sNt (S.nt.eraseIdx (cl (xs (i + 1))))) (LTR S (cl (xs (i + 1)))) v S9 ∧ S' = DLF S9 v) v9 S1 ∧ CTo Z.G P μ S1 m := fun w m ⟨v9, e, _, S9, hg, hT⟩ => ⟨v9, _, e, ⟨S9, hg, rfl⟩, hT⟩
  have hUU : ∀ (v : Int32) (S1 : Sx) (v' : Int32) (S2 : Sx), (fun v S' => ∃ S9, GOT (S.sNt (S.nt.eraseIdx (cl (xs (i + 1))))) (LTR S (cl (xs (i + 1)))) v S9 ∧ S' = DLF S9 v) v S1 → (fun v S' => ∃ S9, GOT (S.sNt (S.nt.eraseIdx (cl (xs (i + 1))))) (LTR S (cl (xs (i + 1)))) v S9 ∧ S' = DLF S9 v) v' S2 → v = v' ∧ S1 = S2 := fun v S1 v' S2 h h' => by
    obtain ⟨S9, g1, e1⟩ := h
    obtain ⟨S8, g2, e2⟩ := h'
    obtain ⟨rfl, rfl⟩ := GOT_u g1 g2
    exact ⟨rfl, e1.trans e2.symm⟩
  refine h_al_g C dL_law_822 rfl rfl rfv_r ?_
  refine h_al_g C dL_law_823 rfl rfl rfv_r ?_
  refine h_iload_w C dL_law_824 rfl ?_
  refine h_iconst (v := 1) C dL_law_826 (by decide) ?_
  refine h_iadd C dL_law_827 ?_
  refine h_scld C SZ dL_law_828 (ixv (k := 1) (show i + 1 < L by omega) (by omega)) (congrArg xs (ixe (k := 1) (show i + 1 < L by omega) (by omega))) ?_
  refine h_al_g C dL_law_829 rfl rfl rfv_r ?_
  refine h_callH3 C NN (k_L_deliver Z.l Z.G P S _ hC (xs (i + 1)) hA.2.1 o hO.1 hO.2) cwh_deliver dL_law_830 (by decide) (by decide) (by decide) (by omega) (by omega) (kI fun r5 m5 hp5 => ?_)
  obtain ⟨hM5, hO5⟩ := lmid hM hO hp5 hRR
  have hO0 := hO
  have hM := hM5
  have hO := hO5
  refine h_ist_5 C dL_law_833 ct_i ?_
  refine h_al_g C dL_law_835 rfl rfl rfv_r ?_
  refine h_al_g C dL_law_836 rfl rfl rfv_r ?_
  refine h_iload_w C dL_law_837 rfl ?_
  refine h_iconst (v := 1) C dL_law_839 (by decide) ?_
  refine h_iadd C dL_law_840 ?_
  refine h_scld C SZ dL_law_841 (ixv (k := 1) (show i + 1 < L by omega) (by omega)) (congrArg xs (ixe (k := 1) (show i + 1 < L by omega) (by omega))) ?_
  refine h_callV1 (ci := 9) C (k_X9_deliver Z.l Z.G Q S _ _ hM (xs (i + 1)) hA.2.2.1 hA.2.2.2.1) cw_L_159 im_X9_deliver sl_X9_deliver rfl (by decide) hM.kX dL_law_842 (by first | decide | exact Nat.le_of_ble_eq_true rfl) (by decide) (by decide) (by omega) (by omega) (kI fun r6 m6 hp1 => ?_) kN
  have hq := hp1
  obtain ⟨hthr, S', t', hst, hC', hM', hO', hel⟩ := lfin hC hO0 hp5 hRR (hq.elim (fun ⟨c0, S9, hg, T⟩ => Or.inl ⟨c0, _, ⟨S9, hg, rfl⟩, T⟩) Or.inr) hUU
  refine h_ist_6 C dL_law_845 ct_i ?_
  refine h_al_g C dL_law_847 rfl rfl rfv_r ?_
  refine h_callV0 (ci := 9) (a_ := .null) C (k_X9_thrown Z.l Z.G (Q 0) _ hM'.kX) cw_L_128 im_X9_thrown sl_X9_thrown rfl (by decide) hM'.kX dL_law_848 (by first | decide | exact Nat.le_of_ble_eq_true rfl) (by decide) (by decide) (by omega) (by omega) (kI fun r1 μ1 hp2 => ?_) kN
  obtain ⟨rfl, rfl⟩ := hp2
  refine h_iload_w C dL_law_851 rfl ?_
  refine h_icmp_eq (tgt := 858) C dL_law_853 (by decide) (fun c1 => ?_) (fun c1 => absurd (hthr) c1)
  refine h_iload_w C dL_law_858 rfl ?_
  refine h_if_ne (tgt := 875) C dL_law_860 (by decide) (fun cK => ?_) (fun cK => ?_)
  · refine h_goto (tgt := 2529) C dL_law_875 (by decide) ?_
    exact h_widen (by omega) (by omega) (kk _ _ _ (hst.elim (fun e => Or.inl e) (fun ⟨c0, v, S9, hg, e⟩ => Sstep.deliver ⟨_, v, S9, c0, hg, e⟩)) hC' hM' hO' _ _ _ _)
  · refine h_al_g C dL_law_863 rfl rfl rfv_r ?_
    refine h_iconst (v := 0) C dL_law_864 (by decide) ?_
    refine h_lald C dL_law_865 (by rw [hO'.1]; decide) (inb hO'.2 (vp_in_nI (n := 0) (by decide) (by decide))) rfl ?_
    refine h_iload_w C dL_law_866 rfl ?_
    refine h_i2l C dL_law_868 ?_
    refine h_lcmp C dL_law_869 ?_
    refine h_if_eq (tgt := 875) C dL_law_870 (by decide) (fun c3 => ?_) (fun c3 => absurd (((lg_cmp_eq _ _).mpr (hel cK))) c3)
    refine h_goto (tgt := 2529) C dL_law_875 (by decide) ?_
    exact h_widen (by omega) (by omega) (kk _ _ _ (hst.elim (fun e => Or.inl e) (fun ⟨c0, v, S9, hg, e⟩ => Sstep.deliver ⟨_, v, S9, c0, hg, e⟩)) hC' hM' hO' _ _ _ _)

set_option maxRecDepth 100000 in
set_option maxHeartbeats 1000000 in
theorem bl_L_lose {Z : Zx} {P Q : Nat → Nat} {o sc L i : Nat} {xs : Row} {S : Sx} {t : Int32} {μ : Mem} {k n : Nat} (C : Cx Z RL cL_law 15 601024 7293034 610) (NN : NcZ Z) (SZ : ScZ Z sc L xs) (hk : k + 64 ≤ 601024) (hn : n + 12000 ≤ 7293034) (hL : L ≤ 2560) (hi : i + 4 < L) (hC : CRep Z.G P S μ) (hM : MRq Q S (LXo S t) μ) (hO : OS o μ) (hA : okA S) (kk : ∀ S' t' m, Sstep S S' → CRep Z.G P S' m → MRq Q S' (LXo S' t') m → OS o m → ∀ z5 z6 z7 z8 : Option Value, HW Z (k + 64) (n + 12000) 2529 [some (.ref sc), some (.ref (P 0)), some (.ref (Q 0)), some (.ref o), some (.int (nI i)), z5, z6, z7, z8] [] m) : ∀ z5 z6 z7 z8 : Option Value, HW Z k n 878 [some (.ref sc), some (.ref (P 0)), some (.ref (Q 0)), some (.ref o), some (.int (nI i)), z5, z6, z7, z8] [] μ := by
  intro z5 z6 z7 z8
  have hRR : ∀ w m, (fun (w9 : Int64) (μ1 : Mem) => ∃ v9 : Int32, w9 = v9.toInt64 ∧ letC S (xs (i + 1)) = 0 ∧ CTo Z.G P μ (S.sNt (S.nt.eraseIdx (cl (xs (i + 1))))) μ1 ∧ v9 = nI (S.nt.eraseIdx (cl (xs (i + 1)))).length) w m → ∃ (v9 : Int32) (S1 : Sx), w = v9.toInt64 ∧ (fun v S' => v = (nI (S.nt.eraseIdx (cl (xs (i + 1)))).length) ∧ S' = (S.sNt (S.nt.eraseIdx (cl (xs (i + 1)))))) v9 S1 ∧ CTo Z.G P μ S1 m := fun w m ⟨v9, e, _, hT, e3⟩ => ⟨v9, _, e, ⟨e3, rfl⟩, hT⟩
  have hUU : ∀ (v : Int32) (S1 : Sx) (v' : Int32) (S2 : Sx), (fun v S' => v = (nI (S.nt.eraseIdx (cl (xs (i + 1)))).length) ∧ S' = (S.sNt (S.nt.eraseIdx (cl (xs (i + 1)))))) v S1 → (fun v S' => v = (nI (S.nt.eraseIdx (cl (xs (i + 1)))).length) ∧ S' = (S.sNt (S.nt.eraseIdx (cl (xs (i + 1)))))) v' S2 → v = v' ∧ S1 = S2 := fun v S1 v' S2 h h' => ⟨h.1.trans h'.1.symm, h.2.trans h'.2.symm⟩
  refine h_al_g C dL_law_878 rfl rfl rfv_r ?_
  refine h_al_g C dL_law_879 rfl rfl rfv_r ?_
  refine h_iload_w C dL_law_880 rfl ?_
  refine h_iconst (v := 1) C dL_law_882 (by decide) ?_
  refine h_iadd C dL_law_883 ?_
  refine h_scld C SZ dL_law_884 (ixv (k := 1) (show i + 1 < L by omega) (by omega)) (congrArg xs (ixe (k := 1) (show i + 1 < L by omega) (by omega))) ?_
  refine h_al_g C dL_law_885 rfl rfl rfv_r ?_
  refine h_callH3 C NN (k_L_lose Z.l Z.G P S _ hC (xs (i + 1)) o hO.1 hO.2) cwh_lose dL_law_886 (by decide) (by decide) (by decide) (by omega) (by omega) (kI fun r5 m5 hp5 => ?_)
  obtain ⟨hM5, hO5⟩ := lmid hM hO hp5 hRR
  have hO0 := hO
  have hM := hM5
  have hO := hO5
  refine h_ist_5 C dL_law_889 ct_i ?_
  refine h_al_g C dL_law_891 rfl rfl rfv_r ?_
  refine h_al_g C dL_law_892 rfl rfl rfv_r ?_
  refine h_iload_w C dL_law_893 rfl ?_
  refine h_iconst (v := 1) C dL_law_895 (by decide) ?_
  refine h_iadd C dL_law_896 ?_
  refine h_scld C SZ dL_law_897 (ixv (k := 1) (show i + 1 < L by omega) (by omega)) (congrArg xs (ixe (k := 1) (show i + 1 < L by omega) (by omega))) ?_
  refine h_callV1 (ci := 9) C (k_X9_lose Z.l Z.G Q S _ _ hM (xs (i + 1)) ) cw_L_162 im_X9_lose sl_X9_lose rfl (by decide) hM.kX dL_law_898 (by first | decide | exact Nat.le_of_ble_eq_true rfl) (by decide) (by decide) (by omega) (by omega) (kI fun r6 m6 hp1 => ?_) kN
  have hq := hp1
  obtain ⟨hthr, S', t', hst, hC', hM', hO', hel⟩ := lfin hC hO0 hp5 hRR (hq.elim (fun ⟨c0, e, T⟩ => Or.inl ⟨c0, _, ⟨e, rfl⟩, T⟩) Or.inr) hUU
  refine h_ist_6 C dL_law_901 ct_i ?_
  refine h_al_g C dL_law_903 rfl rfl rfv_r ?_
  refine h_callV0 (ci := 9) (a_ := .null) C (k_X9_thrown Z.l Z.G (Q 0) _ hM'.kX) cw_L_128 im_X9_thrown sl_X9_thrown rfl (by decide) hM'.kX dL_law_904 (by first | decide | exact Nat.le_of_ble_eq_true rfl) (by decide) (by decide) (by omega) (by omega) (kI fun r1 μ1 hp2 => ?_) kN
  obtain ⟨rfl, rfl⟩ := hp2
  refine h_iload_w C dL_law_907 rfl ?_
  refine h_icmp_eq (tgt := 914) C dL_law_909 (by decide) (fun c1 => ?_) (fun c1 => absurd (hthr) c1)
  refine h_iload_w C dL_law_914 rfl ?_
  refine h_if_ne (tgt := 931) C dL_law_916 (by decide) (fun cK => ?_) (fun cK => ?_)
  · refine h_goto (tgt := 2529) C dL_law_931 (by decide) ?_
    exact h_widen (by omega) (by omega) (kk _ _ _ (hst.elim (fun e => Or.inl e) (fun ⟨c0, v, h⟩ => Sstep.lose ⟨_, c0, h.2⟩)) hC' hM' hO' _ _ _ _)
  · refine h_al_g C dL_law_919 rfl rfl rfv_r ?_
    refine h_iconst (v := 0) C dL_law_920 (by decide) ?_
    refine h_lald C dL_law_921 (by rw [hO'.1]; decide) (inb hO'.2 (vp_in_nI (n := 0) (by decide) (by decide))) rfl ?_
    refine h_iload_w C dL_law_922 rfl ?_
    refine h_i2l C dL_law_924 ?_
    refine h_lcmp C dL_law_925 ?_
    refine h_if_eq (tgt := 931) C dL_law_926 (by decide) (fun c3 => ?_) (fun c3 => absurd (((lg_cmp_eq _ _).mpr (hel cK))) c3)
    refine h_goto (tgt := 2529) C dL_law_931 (by decide) ?_
    exact h_widen (by omega) (by omega) (kk _ _ _ (hst.elim (fun e => Or.inl e) (fun ⟨c0, v, h⟩ => Sstep.lose ⟨_, c0, h.2⟩)) hC' hM' hO' _ _ _ _)

set_option maxRecDepth 100000 in
set_option maxHeartbeats 1000000 in
theorem bl_L_twice {Z : Zx} {P Q : Nat → Nat} {o sc L i : Nat} {xs : Row} {S : Sx} {t : Int32} {μ : Mem} {k n : Nat} (C : Cx Z RL cL_law 15 601024 7293034 610) (NN : NcZ Z) (SZ : ScZ Z sc L xs) (hk : k + 64 ≤ 601024) (hn : n + 12000 ≤ 7293034) (hL : L ≤ 2560) (hi : i + 4 < L) (hC : CRep Z.G P S μ) (hM : MRq Q S (LXo S t) μ) (hO : OS o μ) (hA : okA S) (kk : ∀ S' t' m, Sstep S S' → CRep Z.G P S' m → MRq Q S' (LXo S' t') m → OS o m → ∀ z5 z6 z7 z8 : Option Value, HW Z (k + 64) (n + 12000) 2529 [some (.ref sc), some (.ref (P 0)), some (.ref (Q 0)), some (.ref o), some (.int (nI i)), z5, z6, z7, z8] [] m) : ∀ z5 z6 z7 z8 : Option Value, HW Z k n 934 [some (.ref sc), some (.ref (P 0)), some (.ref (Q 0)), some (.ref o), some (.int (nI i)), z5, z6, z7, z8] [] μ := by
  intro z5 z6 z7 z8
  have hRR : ∀ w m, (fun (w9 : Int64) (μ1 : Mem) => ∃ v9 : Int32, w9 = v9.toInt64 ∧ twiC S (xs (i + 1)) = 0 ∧ CTo Z.G P μ (S.sNt (S.nt ++ [LTR S (cl (xs (i + 1)))])) μ1 ∧ v9 = nI (S.nt.length + 1)) w m → ∃ (v9 : Int32) (S1 : Sx), w = v9.toInt64 ∧ (fun v S' => v = (nI (S.nt.length + 1)) ∧ S' = (S.sNt (S.nt ++ [LTR S (cl (xs (i + 1)))]))) v9 S1 ∧ CTo Z.G P μ S1 m := fun w m ⟨v9, e, _, hT, e3⟩ => ⟨v9, _, e, ⟨e3, rfl⟩, hT⟩
  have hUU : ∀ (v : Int32) (S1 : Sx) (v' : Int32) (S2 : Sx), (fun v S' => v = (nI (S.nt.length + 1)) ∧ S' = (S.sNt (S.nt ++ [LTR S (cl (xs (i + 1)))]))) v S1 → (fun v S' => v = (nI (S.nt.length + 1)) ∧ S' = (S.sNt (S.nt ++ [LTR S (cl (xs (i + 1)))]))) v' S2 → v = v' ∧ S1 = S2 := fun v S1 v' S2 h h' => ⟨h.1.trans h'.1.symm, h.2.trans h'.2.symm⟩
  refine h_al_g C dL_law_934 rfl rfl rfv_r ?_
  refine h_al_g C dL_law_935 rfl rfl rfv_r ?_
  refine h_iload_w C dL_law_936 rfl ?_
  refine h_iconst (v := 1) C dL_law_938 (by decide) ?_
  refine h_iadd C dL_law_939 ?_
  refine h_scld C SZ dL_law_940 (ixv (k := 1) (show i + 1 < L by omega) (by omega)) (congrArg xs (ixe (k := 1) (show i + 1 < L by omega) (by omega))) ?_
  refine h_al_g C dL_law_941 rfl rfl rfv_r ?_
  refine h_callH3 C NN (k_L_twice Z.l Z.G P S _ hC (xs (i + 1)) o hO.1 hO.2) cwh_twice dL_law_942 (by decide) (by decide) (by decide) (by omega) (by omega) (kI fun r5 m5 hp5 => ?_)
  obtain ⟨hM5, hO5⟩ := lmid hM hO hp5 hRR
  have hO0 := hO
  have hM := hM5
  have hO := hO5
  refine h_ist_5 C dL_law_945 ct_i ?_
  refine h_al_g C dL_law_947 rfl rfl rfv_r ?_
  refine h_al_g C dL_law_948 rfl rfl rfv_r ?_
  refine h_iload_w C dL_law_949 rfl ?_
  refine h_iconst (v := 1) C dL_law_951 (by decide) ?_
  refine h_iadd C dL_law_952 ?_
  refine h_scld C SZ dL_law_953 (ixv (k := 1) (show i + 1 < L by omega) (by omega)) (congrArg xs (ixe (k := 1) (show i + 1 < L by omega) (by omega))) ?_
  refine h_callV1 (ci := 9) C (k_X9_twice Z.l Z.G Q S _ _ hM (xs (i + 1)) ) cw_L_165 im_X9_twice sl_X9_twice rfl (by decide) hM.kX dL_law_954 (by first | decide | exact Nat.le_of_ble_eq_true rfl) (by decide) (by decide) (by omega) (by omega) (kI fun r6 m6 hp1 => ?_) kN
  have hq := hp1
  obtain ⟨hthr, S', t', hst, hC', hM', hO', hel⟩ := lfin hC hO0 hp5 hRR (hq.elim (fun ⟨c0, e, T⟩ => Or.inl ⟨c0, _, ⟨e, rfl⟩, T⟩) Or.inr) hUU
  refine h_ist_6 C dL_law_957 ct_i ?_
  refine h_al_g C dL_law_959 rfl rfl rfv_r ?_
  refine h_callV0 (ci := 9) (a_ := .null) C (k_X9_thrown Z.l Z.G (Q 0) _ hM'.kX) cw_L_128 im_X9_thrown sl_X9_thrown rfl (by decide) hM'.kX dL_law_960 (by first | decide | exact Nat.le_of_ble_eq_true rfl) (by decide) (by decide) (by omega) (by omega) (kI fun r1 μ1 hp2 => ?_) kN
  obtain ⟨rfl, rfl⟩ := hp2
  refine h_iload_w C dL_law_963 rfl ?_
  refine h_icmp_eq (tgt := 970) C dL_law_965 (by decide) (fun c1 => ?_) (fun c1 => absurd (hthr) c1)
  refine h_iload_w C dL_law_970 rfl ?_
  refine h_if_ne (tgt := 987) C dL_law_972 (by decide) (fun cK => ?_) (fun cK => ?_)
  · refine h_goto (tgt := 2529) C dL_law_987 (by decide) ?_
    exact h_widen (by omega) (by omega) (kk _ _ _ (hst.elim (fun e => Or.inl e) (fun ⟨c0, v, h⟩ => Sstep.twice ⟨_, c0, h.2⟩)) hC' hM' hO' _ _ _ _)
  · refine h_al_g C dL_law_975 rfl rfl rfv_r ?_
    refine h_iconst (v := 0) C dL_law_976 (by decide) ?_
    refine h_lald C dL_law_977 (by rw [hO'.1]; decide) (inb hO'.2 (vp_in_nI (n := 0) (by decide) (by decide))) rfl ?_
    refine h_iload_w C dL_law_978 rfl ?_
    refine h_i2l C dL_law_980 ?_
    refine h_lcmp C dL_law_981 ?_
    refine h_if_eq (tgt := 987) C dL_law_982 (by decide) (fun c3 => ?_) (fun c3 => absurd (((lg_cmp_eq _ _).mpr (hel cK))) c3)
    refine h_goto (tgt := 2529) C dL_law_987 (by decide) ?_
    exact h_widen (by omega) (by omega) (kk _ _ _ (hst.elim (fun e => Or.inl e) (fun ⟨c0, v, h⟩ => Sstep.twice ⟨_, c0, h.2⟩)) hC' hM' hO' _ _ _ _)

set_option maxRecDepth 100000 in
set_option maxHeartbeats 1000000 in
theorem bl_L_turn {Z : Zx} {P Q : Nat → Nat} {o sc L i : Nat} {xs : Row} {S : Sx} {t : Int32} {μ : Mem} {k n : Nat} (C : Cx Z RL cL_law 15 601024 7293034 610) (NN : NcZ Z) (SZ : ScZ Z sc L xs) (hk : k + 64 ≤ 601024) (hn : n + 12000 ≤ 7293034) (hL : L ≤ 2560) (hi : i + 4 < L) (hC : CRep Z.G P S μ) (hM : MRq Q S (LXo S t) μ) (hO : OS o μ) (hA : okA S) (kk : ∀ S' t' m, Sstep S S' → CRep Z.G P S' m → MRq Q S' (LXo S' t') m → OS o m → ∀ z5 z6 z7 z8 : Option Value, HW Z (k + 64) (n + 12000) 2529 [some (.ref sc), some (.ref (P 0)), some (.ref (Q 0)), some (.ref o), some (.int (nI i)), z5, z6, z7, z8] [] m) : ∀ z5 z6 z7 z8 : Option Value, HW Z k n 990 [some (.ref sc), some (.ref (P 0)), some (.ref (Q 0)), some (.ref o), some (.int (nI i)), z5, z6, z7, z8] [] μ := by
  intro z5 z6 z7 z8
  have hRR : ∀ w m, (fun (w9 : Int64) (μ1 : Mem) => ∃ v9 : Int32, w9 = v9.toInt64 ∧ trnC S (xs (i + 1)) (xs (i + 2)) (xs (i + 3)) = 0 ∧ CTo Z.G P μ (S.sNt (S.nt.set (cl (xs (i + 1))) (TRN (LTR S (cl (xs (i + 1)))) (xs (i + 2)) (xs (i + 3))))) μ1 ∧ v9 = LTR S (cl (xs (i + 1))) (3 + cl (xs (i + 2))) + (xs (i + 3))) w m → ∃ (v9 : Int32) (S1 : Sx), w = v9.toInt64 ∧ (fun v S' => v = (LTR S (cl (xs (i + 1))) (3 + cl (xs (i + 2))) + (xs (i + 3))) ∧ S' = (S.sNt (S.nt.set (cl (xs (i + 1))) (TRN (LTR S (cl (xs (i + 1)))) (xs (i + 2)) (xs (i + 3)))))) v9 S1 ∧ CTo Z.G P μ S1 m := fun w m ⟨v9, e, _, hT, e3⟩ => ⟨v9, _, e, ⟨e3, rfl⟩, hT⟩
  have hUU : ∀ (v : Int32) (S1 : Sx) (v' : Int32) (S2 : Sx), (fun v S' => v = (LTR S (cl (xs (i + 1))) (3 + cl (xs (i + 2))) + (xs (i + 3))) ∧ S' = (S.sNt (S.nt.set (cl (xs (i + 1))) (TRN (LTR S (cl (xs (i + 1)))) (xs (i + 2)) (xs (i + 3)))))) v S1 → (fun v S' => v = (LTR S (cl (xs (i + 1))) (3 + cl (xs (i + 2))) + (xs (i + 3))) ∧ S' = (S.sNt (S.nt.set (cl (xs (i + 1))) (TRN (LTR S (cl (xs (i + 1)))) (xs (i + 2)) (xs (i + 3)))))) v' S2 → v = v' ∧ S1 = S2 := fun v S1 v' S2 h h' => ⟨h.1.trans h'.1.symm, h.2.trans h'.2.symm⟩
  refine h_al_g C dL_law_990 rfl rfl rfv_r ?_
  refine h_al_g C dL_law_991 rfl rfl rfv_r ?_
  refine h_iload_w C dL_law_992 rfl ?_
  refine h_iconst (v := 1) C dL_law_994 (by decide) ?_
  refine h_iadd C dL_law_995 ?_
  refine h_scld C SZ dL_law_996 (ixv (k := 1) (show i + 1 < L by omega) (by omega)) (congrArg xs (ixe (k := 1) (show i + 1 < L by omega) (by omega))) ?_
  refine h_al_g C dL_law_997 rfl rfl rfv_r ?_
  refine h_iload_w C dL_law_998 rfl ?_
  refine h_iconst (v := 2) C dL_law_1000 (by decide) ?_
  refine h_iadd C dL_law_1001 ?_
  refine h_scld C SZ dL_law_1002 (ixv (k := 2) (show i + 2 < L by omega) (by omega)) (congrArg xs (ixe (k := 2) (show i + 2 < L by omega) (by omega))) ?_
  refine h_al_g C dL_law_1003 rfl rfl rfv_r ?_
  refine h_iload_w C dL_law_1004 rfl ?_
  refine h_iconst (v := 3) C dL_law_1006 (by decide) ?_
  refine h_iadd C dL_law_1007 ?_
  refine h_scld C SZ dL_law_1008 (ixv (k := 3) (show i + 3 < L by omega) (by omega)) (congrArg xs (ixe (k := 3) (show i + 3 < L by omega) (by omega))) ?_
  refine h_al_g C dL_law_1009 rfl rfl rfv_r ?_
  refine h_callH5 C NN (k_L_turn Z.l Z.G P S _ hC (xs (i + 1)) (xs (i + 2)) (xs (i + 3)) hA.2.2.2.2.2.1 o hO.1 hO.2) cwh_turn dL_law_1010 (by decide) (by decide) (by decide) (by omega) (by omega) (kI fun r5 m5 hp5 => ?_)
  obtain ⟨hM5, hO5⟩ := lmid hM hO hp5 hRR
  have hO0 := hO
  have hM := hM5
  have hO := hO5
  refine h_ist_5 C dL_law_1013 ct_i ?_
  refine h_al_g C dL_law_1015 rfl rfl rfv_r ?_
  refine h_al_g C dL_law_1016 rfl rfl rfv_r ?_
  refine h_iload_w C dL_law_1017 rfl ?_
  refine h_iconst (v := 1) C dL_law_1019 (by decide) ?_
  refine h_iadd C dL_law_1020 ?_
  refine h_scld C SZ dL_law_1021 (ixv (k := 1) (show i + 1 < L by omega) (by omega)) (congrArg xs (ixe (k := 1) (show i + 1 < L by omega) (by omega))) ?_
  refine h_al_g C dL_law_1022 rfl rfl rfv_r ?_
  refine h_iload_w C dL_law_1023 rfl ?_
  refine h_iconst (v := 2) C dL_law_1025 (by decide) ?_
  refine h_iadd C dL_law_1026 ?_
  refine h_scld C SZ dL_law_1027 (ixv (k := 2) (show i + 2 < L by omega) (by omega)) (congrArg xs (ixe (k := 2) (show i + 2 < L by omega) (by omega))) ?_
  refine h_al_g C dL_law_1028 rfl rfl rfv_r ?_
  refine h_iload_w C dL_law_1029 rfl ?_
  refine h_iconst (v := 3) C dL_law_1031 (by decide) ?_
  refine h_iadd C dL_law_1032 ?_
  refine h_scld C SZ dL_law_1033 (ixv (k := 3) (show i + 3 < L by omega) (by omega)) (congrArg xs (ixe (k := 3) (show i + 3 < L by omega) (by omega))) ?_
  refine h_callV3 (ci := 9) C (k_X9_turn Z.l Z.G Q S _ _ hM (xs (i + 1)) (xs (i + 2)) (xs (i + 3)) hA.2.2.2.2.1) cw_L_168 im_X9_turn sl_X9_turn rfl (by decide) hM.kX dL_law_1034 (by first | decide | exact Nat.le_of_ble_eq_true rfl) (by decide) (by decide) (by omega) (by omega) (kI fun r6 m6 hp1 => ?_) kN
  have hq := hp1
  obtain ⟨hthr, S', t', hst, hC', hM', hO', hel⟩ := lfin hC hO0 hp5 hRR (hq.elim (fun ⟨c0, e, T⟩ => Or.inl ⟨c0, _, ⟨e, rfl⟩, T⟩) Or.inr) hUU
  refine h_ist_6 C dL_law_1037 ct_i ?_
  refine h_al_g C dL_law_1039 rfl rfl rfv_r ?_
  refine h_callV0 (ci := 9) (a_ := .null) C (k_X9_thrown Z.l Z.G (Q 0) _ hM'.kX) cw_L_128 im_X9_thrown sl_X9_thrown rfl (by decide) hM'.kX dL_law_1040 (by first | decide | exact Nat.le_of_ble_eq_true rfl) (by decide) (by decide) (by omega) (by omega) (kI fun r1 μ1 hp2 => ?_) kN
  obtain ⟨rfl, rfl⟩ := hp2
  refine h_iload_w C dL_law_1043 rfl ?_
  refine h_icmp_eq (tgt := 1050) C dL_law_1045 (by decide) (fun c1 => ?_) (fun c1 => absurd (hthr) c1)
  refine h_iload_w C dL_law_1050 rfl ?_
  refine h_if_ne (tgt := 1067) C dL_law_1052 (by decide) (fun cK => ?_) (fun cK => ?_)
  · refine h_goto (tgt := 2529) C dL_law_1067 (by decide) ?_
    exact h_widen (by omega) (by omega) (kk _ _ _ (hst.elim (fun e => Or.inl e) (fun ⟨c0, v, h⟩ => Sstep.turn ⟨_, _, _, c0, h.2⟩)) hC' hM' hO' _ _ _ _)
  · refine h_al_g C dL_law_1055 rfl rfl rfv_r ?_
    refine h_iconst (v := 0) C dL_law_1056 (by decide) ?_
    refine h_lald C dL_law_1057 (by rw [hO'.1]; decide) (inb hO'.2 (vp_in_nI (n := 0) (by decide) (by decide))) rfl ?_
    refine h_iload_w C dL_law_1058 rfl ?_
    refine h_i2l C dL_law_1060 ?_
    refine h_lcmp C dL_law_1061 ?_
    refine h_if_eq (tgt := 1067) C dL_law_1062 (by decide) (fun c3 => ?_) (fun c3 => absurd (((lg_cmp_eq _ _).mpr (hel cK))) c3)
    refine h_goto (tgt := 2529) C dL_law_1067 (by decide) ?_
    exact h_widen (by omega) (by omega) (kk _ _ _ (hst.elim (fun e => Or.inl e) (fun ⟨c0, v, h⟩ => Sstep.turn ⟨_, _, _, c0, h.2⟩)) hC' hM' hO' _ _ _ _)

set_option maxRecDepth 100000 in
set_option maxHeartbeats 1000000 in
theorem bl_L_reroute {Z : Zx} {P Q : Nat → Nat} {o sc L i : Nat} {xs : Row} {S : Sx} {t : Int32} {μ : Mem} {k n : Nat} (C : Cx Z RL cL_law 15 601024 7293034 610) (NN : NcZ Z) (SZ : ScZ Z sc L xs) (hk : k + 64 ≤ 601024) (hn : n + 12000 ≤ 7293034) (hL : L ≤ 2560) (hi : i + 4 < L) (hC : CRep Z.G P S μ) (hM : MRq Q S (LXo S t) μ) (hO : OS o μ) (hA : okA S) (kk : ∀ S' t' m, Sstep S S' → CRep Z.G P S' m → MRq Q S' (LXo S' t') m → OS o m → ∀ z5 z6 z7 z8 : Option Value, HW Z (k + 64) (n + 12000) 2529 [some (.ref sc), some (.ref (P 0)), some (.ref (Q 0)), some (.ref o), some (.int (nI i)), z5, z6, z7, z8] [] m) : ∀ z5 z6 z7 z8 : Option Value, HW Z k n 1070 [some (.ref sc), some (.ref (P 0)), some (.ref (Q 0)), some (.ref o), some (.int (nI i)), z5, z6, z7, z8] [] μ := by
  intro z5 z6 z7 z8
  have hRR : ∀ w m, (fun (w9 : Int64) (μ1 : Mem) => ∃ v9 : Int32, w9 = v9.toInt64 ∧ rerC S (xs (i + 1)) (xs (i + 2)) = 0 ∧ CTo Z.G P μ (S.sNt (S.nt.set (cl (xs (i + 1))) (u1 (LTR S (cl (xs (i + 1)))) 0 (xs (i + 2))))) μ1 ∧ v9 = LTR S (cl (xs (i + 1))) 0) w m → ∃ (v9 : Int32) (S1 : Sx), w = v9.toInt64 ∧ (fun v S' => v = (LTR S (cl (xs (i + 1))) 0) ∧ S' = (S.sNt (S.nt.set (cl (xs (i + 1))) (u1 (LTR S (cl (xs (i + 1)))) 0 (xs (i + 2)))))) v9 S1 ∧ CTo Z.G P μ S1 m := fun w m ⟨v9, e, _, hT, e3⟩ => ⟨v9, _, e, ⟨e3, rfl⟩, hT⟩
  have hUU : ∀ (v : Int32) (S1 : Sx) (v' : Int32) (S2 : Sx), (fun v S' => v = (LTR S (cl (xs (i + 1))) 0) ∧ S' = (S.sNt (S.nt.set (cl (xs (i + 1))) (u1 (LTR S (cl (xs (i + 1)))) 0 (xs (i + 2)))))) v S1 → (fun v S' => v = (LTR S (cl (xs (i + 1))) 0) ∧ S' = (S.sNt (S.nt.set (cl (xs (i + 1))) (u1 (LTR S (cl (xs (i + 1)))) 0 (xs (i + 2)))))) v' S2 → v = v' ∧ S1 = S2 := fun v S1 v' S2 h h' => ⟨h.1.trans h'.1.symm, h.2.trans h'.2.symm⟩
  refine h_al_g C dL_law_1070 rfl rfl rfv_r ?_
  refine h_al_g C dL_law_1071 rfl rfl rfv_r ?_
  refine h_iload_w C dL_law_1072 rfl ?_
  refine h_iconst (v := 1) C dL_law_1074 (by decide) ?_
  refine h_iadd C dL_law_1075 ?_
  refine h_scld C SZ dL_law_1076 (ixv (k := 1) (show i + 1 < L by omega) (by omega)) (congrArg xs (ixe (k := 1) (show i + 1 < L by omega) (by omega))) ?_
  refine h_al_g C dL_law_1077 rfl rfl rfv_r ?_
  refine h_iload_w C dL_law_1078 rfl ?_
  refine h_iconst (v := 2) C dL_law_1080 (by decide) ?_
  refine h_iadd C dL_law_1081 ?_
  refine h_scld C SZ dL_law_1082 (ixv (k := 2) (show i + 2 < L by omega) (by omega)) (congrArg xs (ixe (k := 2) (show i + 2 < L by omega) (by omega))) ?_
  refine h_al_g C dL_law_1083 rfl rfl rfv_r ?_
  refine h_callH4 C NN (k_L_reroute Z.l Z.G P S _ hC (xs (i + 1)) (xs (i + 2)) o hO.1 hO.2) cwh_reroute dL_law_1084 (by decide) (by decide) (by decide) (by omega) (by omega) (kI fun r5 m5 hp5 => ?_)
  obtain ⟨hM5, hO5⟩ := lmid hM hO hp5 hRR
  have hO0 := hO
  have hM := hM5
  have hO := hO5
  refine h_ist_5 C dL_law_1087 ct_i ?_
  refine h_al_g C dL_law_1089 rfl rfl rfv_r ?_
  refine h_al_g C dL_law_1090 rfl rfl rfv_r ?_
  refine h_iload_w C dL_law_1091 rfl ?_
  refine h_iconst (v := 1) C dL_law_1093 (by decide) ?_
  refine h_iadd C dL_law_1094 ?_
  refine h_scld C SZ dL_law_1095 (ixv (k := 1) (show i + 1 < L by omega) (by omega)) (congrArg xs (ixe (k := 1) (show i + 1 < L by omega) (by omega))) ?_
  refine h_al_g C dL_law_1096 rfl rfl rfv_r ?_
  refine h_iload_w C dL_law_1097 rfl ?_
  refine h_iconst (v := 2) C dL_law_1099 (by decide) ?_
  refine h_iadd C dL_law_1100 ?_
  refine h_scld C SZ dL_law_1101 (ixv (k := 2) (show i + 2 < L by omega) (by omega)) (congrArg xs (ixe (k := 2) (show i + 2 < L by omega) (by omega))) ?_
  refine h_callV2 (ci := 9) C (k_X9_reroute Z.l Z.G Q S _ _ hM (xs (i + 1)) (xs (i + 2)) ) cw_L_171 im_X9_reroute sl_X9_reroute rfl (by decide) hM.kX dL_law_1102 (by first | decide | exact Nat.le_of_ble_eq_true rfl) (by decide) (by decide) (by omega) (by omega) (kI fun r6 m6 hp1 => ?_) kN
  have hq := hp1
  obtain ⟨hthr, S', t', hst, hC', hM', hO', hel⟩ := lfin hC hO0 hp5 hRR (hq.elim (fun ⟨c0, e, T⟩ => Or.inl ⟨c0, _, ⟨e, rfl⟩, T⟩) Or.inr) hUU
  refine h_ist_6 C dL_law_1105 ct_i ?_
  refine h_al_g C dL_law_1107 rfl rfl rfv_r ?_
  refine h_callV0 (ci := 9) (a_ := .null) C (k_X9_thrown Z.l Z.G (Q 0) _ hM'.kX) cw_L_128 im_X9_thrown sl_X9_thrown rfl (by decide) hM'.kX dL_law_1108 (by first | decide | exact Nat.le_of_ble_eq_true rfl) (by decide) (by decide) (by omega) (by omega) (kI fun r1 μ1 hp2 => ?_) kN
  obtain ⟨rfl, rfl⟩ := hp2
  refine h_iload_w C dL_law_1111 rfl ?_
  refine h_icmp_eq (tgt := 1118) C dL_law_1113 (by decide) (fun c1 => ?_) (fun c1 => absurd (hthr) c1)
  refine h_iload_w C dL_law_1118 rfl ?_
  refine h_if_ne (tgt := 1135) C dL_law_1120 (by decide) (fun cK => ?_) (fun cK => ?_)
  · refine h_goto (tgt := 2529) C dL_law_1135 (by decide) ?_
    exact h_widen (by omega) (by omega) (kk _ _ _ (hst.elim (fun e => Or.inl e) (fun ⟨c0, v, h⟩ => Sstep.reroute ⟨_, _, c0, h.2⟩)) hC' hM' hO' _ _ _ _)
  · refine h_al_g C dL_law_1123 rfl rfl rfv_r ?_
    refine h_iconst (v := 0) C dL_law_1124 (by decide) ?_
    refine h_lald C dL_law_1125 (by rw [hO'.1]; decide) (inb hO'.2 (vp_in_nI (n := 0) (by decide) (by decide))) rfl ?_
    refine h_iload_w C dL_law_1126 rfl ?_
    refine h_i2l C dL_law_1128 ?_
    refine h_lcmp C dL_law_1129 ?_
    refine h_if_eq (tgt := 1135) C dL_law_1130 (by decide) (fun c3 => ?_) (fun c3 => absurd (((lg_cmp_eq _ _).mpr (hel cK))) c3)
    refine h_goto (tgt := 2529) C dL_law_1135 (by decide) ?_
    exact h_widen (by omega) (by omega) (kk _ _ _ (hst.elim (fun e => Or.inl e) (fun ⟨c0, v, h⟩ => Sstep.reroute ⟨_, _, c0, h.2⟩)) hC' hM' hO' _ _ _ _)

set_option maxRecDepth 100000 in
set_option maxHeartbeats 1000000 in
theorem bl_L_later {Z : Zx} {P Q : Nat → Nat} {o sc L i : Nat} {xs : Row} {S : Sx} {t : Int32} {μ : Mem} {k n : Nat} (C : Cx Z RL cL_law 15 601024 7293034 610) (NN : NcZ Z) (SZ : ScZ Z sc L xs) (hk : k + 64 ≤ 601024) (hn : n + 12000 ≤ 7293034) (hL : L ≤ 2560) (hi : i + 4 < L) (hC : CRep Z.G P S μ) (hM : MRq Q S (LXo S t) μ) (hO : OS o μ) (hA : okA S) (kk : ∀ S' t' m, Sstep S S' → CRep Z.G P S' m → MRq Q S' (LXo S' t') m → OS o m → ∀ z5 z6 z7 z8 : Option Value, HW Z (k + 64) (n + 12000) 2529 [some (.ref sc), some (.ref (P 0)), some (.ref (Q 0)), some (.ref o), some (.int (nI i)), z5, z6, z7, z8] [] m) : ∀ z5 z6 z7 z8 : Option Value, HW Z k n 1138 [some (.ref sc), some (.ref (P 0)), some (.ref (Q 0)), some (.ref o), some (.int (nI i)), z5, z6, z7, z8] [] μ := by
  intro z5 z6 z7 z8
  have hRR : ∀ w m, (fun (w9 : Int64) (μ1 : Mem) => ∃ v9 : Int32, w9 = v9.toInt64 ∧ letC S (xs (i + 1)) = 0 ∧ CTo Z.G P μ (S.sNt (S.nt.eraseIdx (cl (xs (i + 1))) ++ [LTR S (cl (xs (i + 1)))])) μ1 ∧ v9 = nI S.nt.length - 1) w m → ∃ (v9 : Int32) (S1 : Sx), w = v9.toInt64 ∧ (fun v S' => v = (nI S.nt.length - 1) ∧ S' = (S.sNt (S.nt.eraseIdx (cl (xs (i + 1))) ++ [LTR S (cl (xs (i + 1)))]))) v9 S1 ∧ CTo Z.G P μ S1 m := fun w m ⟨v9, e, _, hT, e3⟩ => ⟨v9, _, e, ⟨e3, rfl⟩, hT⟩
  have hUU : ∀ (v : Int32) (S1 : Sx) (v' : Int32) (S2 : Sx), (fun v S' => v = (nI S.nt.length - 1) ∧ S' = (S.sNt (S.nt.eraseIdx (cl (xs (i + 1))) ++ [LTR S (cl (xs (i + 1)))]))) v S1 → (fun v S' => v = (nI S.nt.length - 1) ∧ S' = (S.sNt (S.nt.eraseIdx (cl (xs (i + 1))) ++ [LTR S (cl (xs (i + 1)))]))) v' S2 → v = v' ∧ S1 = S2 := fun v S1 v' S2 h h' => ⟨h.1.trans h'.1.symm, h.2.trans h'.2.symm⟩
  refine h_al_g C dL_law_1138 rfl rfl rfv_r ?_
  refine h_al_g C dL_law_1139 rfl rfl rfv_r ?_
  refine h_iload_w C dL_law_1140 rfl ?_
  refine h_iconst (v := 1) C dL_law_1142 (by decide) ?_
  refine h_iadd C dL_law_1143 ?_
  refine h_scld C SZ dL_law_1144 (ixv (k := 1) (show i + 1 < L by omega) (by omega)) (congrArg xs (ixe (k := 1) (show i + 1 < L by omega) (by omega))) ?_
  refine h_al_g C dL_law_1145 rfl rfl rfv_r ?_
  refine h_callH3 C NN (k_L_later Z.l Z.G P S _ hC (xs (i + 1)) o hO.1 hO.2) cwh_later dL_law_1146 (by decide) (by decide) (by decide) (by omega) (by omega) (kI fun r5 m5 hp5 => ?_)
  obtain ⟨hM5, hO5⟩ := lmid hM hO hp5 hRR
  have hO0 := hO
  have hM := hM5
  have hO := hO5
  refine h_ist_5 C dL_law_1149 ct_i ?_
  refine h_al_g C dL_law_1151 rfl rfl rfv_r ?_
  refine h_al_g C dL_law_1152 rfl rfl rfv_r ?_
  refine h_iload_w C dL_law_1153 rfl ?_
  refine h_iconst (v := 1) C dL_law_1155 (by decide) ?_
  refine h_iadd C dL_law_1156 ?_
  refine h_scld C SZ dL_law_1157 (ixv (k := 1) (show i + 1 < L by omega) (by omega)) (congrArg xs (ixe (k := 1) (show i + 1 < L by omega) (by omega))) ?_
  refine h_callV1 (ci := 9) C (k_X9_later Z.l Z.G Q S _ _ hM (xs (i + 1)) ) cw_L_174 im_X9_later sl_X9_later rfl (by decide) hM.kX dL_law_1158 (by first | decide | exact Nat.le_of_ble_eq_true rfl) (by decide) (by decide) (by omega) (by omega) (kI fun r6 m6 hp1 => ?_) kN
  have hq := hp1
  obtain ⟨hthr, S', t', hst, hC', hM', hO', hel⟩ := lfin hC hO0 hp5 hRR (hq.elim (fun ⟨c0, e, T⟩ => Or.inl ⟨c0, _, ⟨e, rfl⟩, T⟩) Or.inr) hUU
  refine h_ist_6 C dL_law_1161 ct_i ?_
  refine h_al_g C dL_law_1163 rfl rfl rfv_r ?_
  refine h_callV0 (ci := 9) (a_ := .null) C (k_X9_thrown Z.l Z.G (Q 0) _ hM'.kX) cw_L_128 im_X9_thrown sl_X9_thrown rfl (by decide) hM'.kX dL_law_1164 (by first | decide | exact Nat.le_of_ble_eq_true rfl) (by decide) (by decide) (by omega) (by omega) (kI fun r1 μ1 hp2 => ?_) kN
  obtain ⟨rfl, rfl⟩ := hp2
  refine h_iload_w C dL_law_1167 rfl ?_
  refine h_icmp_eq (tgt := 1174) C dL_law_1169 (by decide) (fun c1 => ?_) (fun c1 => absurd (hthr) c1)
  refine h_iload_w C dL_law_1174 rfl ?_
  refine h_if_ne (tgt := 1191) C dL_law_1176 (by decide) (fun cK => ?_) (fun cK => ?_)
  · refine h_goto (tgt := 2529) C dL_law_1191 (by decide) ?_
    exact h_widen (by omega) (by omega) (kk _ _ _ (hst.elim (fun e => Or.inl e) (fun ⟨c0, v, h⟩ => Sstep.later ⟨_, c0, h.2⟩)) hC' hM' hO' _ _ _ _)
  · refine h_al_g C dL_law_1179 rfl rfl rfv_r ?_
    refine h_iconst (v := 0) C dL_law_1180 (by decide) ?_
    refine h_lald C dL_law_1181 (by rw [hO'.1]; decide) (inb hO'.2 (vp_in_nI (n := 0) (by decide) (by decide))) rfl ?_
    refine h_iload_w C dL_law_1182 rfl ?_
    refine h_i2l C dL_law_1184 ?_
    refine h_lcmp C dL_law_1185 ?_
    refine h_if_eq (tgt := 1191) C dL_law_1186 (by decide) (fun c3 => ?_) (fun c3 => absurd (((lg_cmp_eq _ _).mpr (hel cK))) c3)
    refine h_goto (tgt := 2529) C dL_law_1191 (by decide) ?_
    exact h_widen (by omega) (by omega) (kk _ _ _ (hst.elim (fun e => Or.inl e) (fun ⟨c0, v, h⟩ => Sstep.later ⟨_, c0, h.2⟩)) hC' hM' hO' _ _ _ _)

set_option maxRecDepth 100000 in
set_option maxHeartbeats 1000000 in
theorem bl_L_letter {Z : Zx} {P Q : Nat → Nat} {o sc L i : Nat} {xs : Row} {S : Sx} {t : Int32} {μ : Mem} {k n : Nat} (C : Cx Z RL cL_law 15 601024 7293034 610) (NN : NcZ Z) (SZ : ScZ Z sc L xs) (hk : k + 64 ≤ 601024) (hn : n + 12000 ≤ 7293034) (hL : L ≤ 2560) (hi : i + 4 < L) (hC : CRep Z.G P S μ) (hM : MRq Q S (LXo S t) μ) (hO : OS o μ) (hA : okA S) (kk : ∀ S' t' m, Sstep S S' → CRep Z.G P S' m → MRq Q S' (LXo S' t') m → OS o m → ∀ z5 z6 z7 z8 : Option Value, HW Z (k + 64) (n + 12000) 2529 [some (.ref sc), some (.ref (P 0)), some (.ref (Q 0)), some (.ref o), some (.int (nI i)), z5, z6, z7, z8] [] m) : ∀ z5 z6 z7 z8 : Option Value, HW Z k n 1220 [some (.ref sc), some (.ref (P 0)), some (.ref (Q 0)), some (.ref o), some (.int (nI i)), z5, z6, z7, z8] [] μ := by
  intro z5 z6 z7 z8
  have hRR : ∀ w m, (fun (w9 : Int64) (μ1 : Mem) => ∃ v9 : Int32, w9 = v9.toInt64 ∧ lttC S (xs (i + 1)) (xs (i + 2)) = 0 ∧ μ = μ1 ∧ v9 = LTR S (cl (xs (i + 1))) (cl (xs (i + 2)))) w m → ∃ (v9 : Int32) (S1 : Sx), w = v9.toInt64 ∧ (fun v S' => v = (LTR S (cl (xs (i + 1))) (cl (xs (i + 2)))) ∧ S' = S) v9 S1 ∧ CTo Z.G P μ S1 m := fun w m ⟨v9, e, _, e2, e3⟩ => ⟨v9, S, e, ⟨e3, rfl⟩, e2 ▸ CTo.rf9 hC⟩
  have hUU : ∀ (v : Int32) (S1 : Sx) (v' : Int32) (S2 : Sx), (fun v S' => v = (LTR S (cl (xs (i + 1))) (cl (xs (i + 2)))) ∧ S' = S) v S1 → (fun v S' => v = (LTR S (cl (xs (i + 1))) (cl (xs (i + 2)))) ∧ S' = S) v' S2 → v = v' ∧ S1 = S2 := fun v S1 v' S2 h h' => ⟨h.1.trans h'.1.symm, h.2.trans h'.2.symm⟩
  refine h_al_g C dL_law_1220 rfl rfl rfv_r ?_
  refine h_al_g C dL_law_1221 rfl rfl rfv_r ?_
  refine h_iload_w C dL_law_1222 rfl ?_
  refine h_iconst (v := 1) C dL_law_1224 (by decide) ?_
  refine h_iadd C dL_law_1225 ?_
  refine h_scld C SZ dL_law_1226 (ixv (k := 1) (show i + 1 < L by omega) (by omega)) (congrArg xs (ixe (k := 1) (show i + 1 < L by omega) (by omega))) ?_
  refine h_al_g C dL_law_1227 rfl rfl rfv_r ?_
  refine h_iload_w C dL_law_1228 rfl ?_
  refine h_iconst (v := 2) C dL_law_1230 (by decide) ?_
  refine h_iadd C dL_law_1231 ?_
  refine h_scld C SZ dL_law_1232 (ixv (k := 2) (show i + 2 < L by omega) (by omega)) (congrArg xs (ixe (k := 2) (show i + 2 < L by omega) (by omega))) ?_
  refine h_al_g C dL_law_1233 rfl rfl rfv_r ?_
  refine h_callH4 C NN (k_L_letter Z.l Z.G P S _ hC (xs (i + 1)) (xs (i + 2)) o hO.1 hO.2) cwh_letter dL_law_1234 (by decide) (by decide) (by decide) (by omega) (by omega) (kI fun r5 m5 hp5 => ?_)
  obtain ⟨hM5, hO5⟩ := lmid hM hO hp5 hRR
  have hO0 := hO
  have hM := hM5
  have hO := hO5
  refine h_ist_5 C dL_law_1237 ct_i ?_
  refine h_al_g C dL_law_1239 rfl rfl rfv_r ?_
  refine h_al_g C dL_law_1240 rfl rfl rfv_r ?_
  refine h_iload_w C dL_law_1241 rfl ?_
  refine h_iconst (v := 1) C dL_law_1243 (by decide) ?_
  refine h_iadd C dL_law_1244 ?_
  refine h_scld C SZ dL_law_1245 (ixv (k := 1) (show i + 1 < L by omega) (by omega)) (congrArg xs (ixe (k := 1) (show i + 1 < L by omega) (by omega))) ?_
  refine h_al_g C dL_law_1246 rfl rfl rfv_r ?_
  refine h_iload_w C dL_law_1247 rfl ?_
  refine h_iconst (v := 2) C dL_law_1249 (by decide) ?_
  refine h_iadd C dL_law_1250 ?_
  refine h_scld C SZ dL_law_1251 (ixv (k := 2) (show i + 2 < L by omega) (by omega)) (congrArg xs (ixe (k := 2) (show i + 2 < L by omega) (by omega))) ?_
  refine h_callV2 (ci := 9) C (k_X9_letter Z.l Z.G Q S _ _ hM (xs (i + 1)) (xs (i + 2)) ) cw_L_185 im_X9_letter sl_X9_letter rfl (by decide) hM.kX dL_law_1252 (by first | decide | exact Nat.le_of_ble_eq_true rfl) (by decide) (by decide) (by omega) (by omega) (kI fun r6 m6 hp1 => ?_) kN
  have hq := hp1
  obtain ⟨hthr, S', t', hst, hC', hM', hO', hel⟩ := lfin hC hO0 hp5 hRR (hq.elim (fun ⟨c0, e, T⟩ => Or.inl ⟨c0, _, ⟨e, rfl⟩, T⟩) Or.inr) hUU
  refine h_ist_6 C dL_law_1255 ct_i ?_
  refine h_al_g C dL_law_1257 rfl rfl rfv_r ?_
  refine h_callV0 (ci := 9) (a_ := .null) C (k_X9_thrown Z.l Z.G (Q 0) _ hM'.kX) cw_L_128 im_X9_thrown sl_X9_thrown rfl (by decide) hM'.kX dL_law_1258 (by first | decide | exact Nat.le_of_ble_eq_true rfl) (by decide) (by decide) (by omega) (by omega) (kI fun r1 μ1 hp2 => ?_) kN
  obtain ⟨rfl, rfl⟩ := hp2
  refine h_iload_w C dL_law_1261 rfl ?_
  refine h_icmp_eq (tgt := 1268) C dL_law_1263 (by decide) (fun c1 => ?_) (fun c1 => absurd (hthr) c1)
  refine h_iload_w C dL_law_1268 rfl ?_
  refine h_if_ne (tgt := 1285) C dL_law_1270 (by decide) (fun cK => ?_) (fun cK => ?_)
  · refine h_goto (tgt := 2529) C dL_law_1285 (by decide) ?_
    exact h_widen (by omega) (by omega) (kk _ _ _ (hst.elim (fun e => Or.inl e) (fun ⟨_, v, h⟩ => Or.inl h.2)) hC' hM' hO' _ _ _ _)
  · refine h_al_g C dL_law_1273 rfl rfl rfv_r ?_
    refine h_iconst (v := 0) C dL_law_1274 (by decide) ?_
    refine h_lald C dL_law_1275 (by rw [hO'.1]; decide) (inb hO'.2 (vp_in_nI (n := 0) (by decide) (by decide))) rfl ?_
    refine h_iload_w C dL_law_1276 rfl ?_
    refine h_i2l C dL_law_1278 ?_
    refine h_lcmp C dL_law_1279 ?_
    refine h_if_eq (tgt := 1285) C dL_law_1280 (by decide) (fun c3 => ?_) (fun c3 => absurd (((lg_cmp_eq _ _).mpr (hel cK))) c3)
    refine h_goto (tgt := 2529) C dL_law_1285 (by decide) ?_
    exact h_widen (by omega) (by omega) (kk _ _ _ (hst.elim (fun e => Or.inl e) (fun ⟨_, v, h⟩ => Or.inl h.2)) hC' hM' hO' _ _ _ _)

set_option maxRecDepth 100000 in
set_option maxHeartbeats 1000000 in
theorem bl_L_isTurned {Z : Zx} {P Q : Nat → Nat} {o sc L i : Nat} {xs : Row} {S : Sx} {t : Int32} {μ : Mem} {k n : Nat} (C : Cx Z RL cL_law 15 601024 7293034 610) (NN : NcZ Z) (SZ : ScZ Z sc L xs) (hk : k + 64 ≤ 601024) (hn : n + 12000 ≤ 7293034) (hL : L ≤ 2560) (hi : i + 4 < L) (hC : CRep Z.G P S μ) (hM : MRq Q S (LXo S t) μ) (hO : OS o μ) (hA : okA S) (kk : ∀ S' t' m, Sstep S S' → CRep Z.G P S' m → MRq Q S' (LXo S' t') m → OS o m → ∀ z5 z6 z7 z8 : Option Value, HW Z (k + 64) (n + 12000) 2529 [some (.ref sc), some (.ref (P 0)), some (.ref (Q 0)), some (.ref o), some (.int (nI i)), z5, z6, z7, z8] [] m) : ∀ z5 z6 z7 z8 : Option Value, HW Z k n 1288 [some (.ref sc), some (.ref (P 0)), some (.ref (Q 0)), some (.ref o), some (.int (nI i)), z5, z6, z7, z8] [] μ := by
  intro z5 z6 z7 z8
  have hRR : ∀ w m, (fun (w9 : Int64) (μ1 : Mem) => (w9 = 1 ∧ letC S (xs (i + 1)) = 0 ∧ μ = μ1 ∧ DIF (LTR S (cl (xs (i + 1))))) ∨ (w9 = 0 ∧ letC S (xs (i + 1)) = 0 ∧ μ = μ1 ∧ ¬ DIF (LTR S (cl (xs (i + 1)))))) w m → ∃ (v9 : Int32) (S1 : Sx), w = v9.toInt64 ∧ (fun v S' => ((v = 1 ∧ DIF (LTR S (cl (xs (i + 1))))) ∨ (v = 0 ∧ ¬ DIF (LTR S (cl (xs (i + 1)))))) ∧ S' = S) v9 S1 ∧ CTo Z.G P μ S1 m := fun w m h => h.elim (fun ⟨e, _, e2, hp⟩ => ⟨1, S, e, ⟨Or.inl ⟨rfl, hp⟩, rfl⟩, e2 ▸ CTo.rf9 hC⟩) (fun ⟨e, _, e2, hp⟩ => ⟨0, S, e, ⟨Or.inr ⟨rfl, hp⟩, rfl⟩, e2 ▸ CTo.rf9 hC⟩)
  have hex : (DIF (LTR S (cl (xs (i + 1))))) → (¬ DIF (LTR S (cl (xs (i + 1))))) → False := (fun hp hq => hq hp)
  have hUU : ∀ (v : Int32) (S1 : Sx) (v' : Int32) (S2 : Sx), (fun v S' => ((v = 1 ∧ DIF (LTR S (cl (xs (i + 1))))) ∨ (v = 0 ∧ ¬ DIF (LTR S (cl (xs (i + 1)))))) ∧ S' = S) v S1 → (fun v S' => ((v = 1 ∧ DIF (LTR S (cl (xs (i + 1))))) ∨ (v = 0 ∧ ¬ DIF (LTR S (cl (xs (i + 1)))))) ∧ S' = S) v' S2 → v = v' ∧ S1 = S2 := fun v S1 v' S2 h h' => ⟨by
    rcases h.1 with ⟨a1, a2⟩ | ⟨a1, a2⟩
    · rcases h'.1 with ⟨b1, b2⟩ | ⟨b1, b2⟩
      · exact a1.trans b1.symm
      · exact (hex a2 b2).elim
    · rcases h'.1 with ⟨b1, b2⟩ | ⟨b1, b2⟩
      · exact (hex b2 a2).elim
      · exact a1.trans b1.symm, h.2.trans h'.2.symm⟩
  refine h_al_g C dL_law_1288 rfl rfl rfv_r ?_
  refine h_al_g C dL_law_1289 rfl rfl rfv_r ?_
  refine h_iload_w C dL_law_1290 rfl ?_
  refine h_iconst (v := 1) C dL_law_1292 (by decide) ?_
  refine h_iadd C dL_law_1293 ?_
  refine h_scld C SZ dL_law_1294 (ixv (k := 1) (show i + 1 < L by omega) (by omega)) (congrArg xs (ixe (k := 1) (show i + 1 < L by omega) (by omega))) ?_
  refine h_al_g C dL_law_1295 rfl rfl rfv_r ?_
  refine h_callH3 C NN (k_L_isTurned Z.l Z.G P S _ hC (xs (i + 1)) o hO.1 hO.2) cwh_isTurned dL_law_1296 (by decide) (by decide) (by decide) (by omega) (by omega) (kI fun r5 m5 hp5 => ?_)
  obtain ⟨hM5, hO5⟩ := lmid hM hO hp5 hRR
  have hO0 := hO
  have hM := hM5
  have hO := hO5
  refine h_ist_5 C dL_law_1299 ct_i ?_
  refine h_al_g C dL_law_1301 rfl rfl rfv_r ?_
  refine h_al_g C dL_law_1302 rfl rfl rfv_r ?_
  refine h_iload_w C dL_law_1303 rfl ?_
  refine h_iconst (v := 1) C dL_law_1305 (by decide) ?_
  refine h_iadd C dL_law_1306 ?_
  refine h_scld C SZ dL_law_1307 (ixv (k := 1) (show i + 1 < L by omega) (by omega)) (congrArg xs (ixe (k := 1) (show i + 1 < L by omega) (by omega))) ?_
  refine h_callV1 (ci := 9) C (k_X9_isTurned Z.l Z.G Q S _ _ hM (xs (i + 1)) hA.2.2.2.2.1) cw_L_188 im_X9_isTurned sl_X9_isTurned rfl (by decide) hM.kX dL_law_1308 (by first | decide | exact Nat.le_of_ble_eq_true rfl) (by decide) (by decide) (by omega) (by omega) (kI fun r6 m6 hp1 => ?_) kN
  have hq := hp1
  obtain ⟨hthr, S', t', hst, hC', hM', hO', hel⟩ := lfin hC hO0 hp5 hRR (hq.2.elim (fun ⟨c0, h1, T⟩ => Or.inl ⟨c0, S, ⟨h1, rfl⟩, T⟩) Or.inr) hUU
  refine h_ist_6 C dL_law_1311 ct_i ?_
  refine h_al_g C dL_law_1313 rfl rfl rfv_r ?_
  refine h_callV0 (ci := 9) (a_ := .null) C (k_X9_thrown Z.l Z.G (Q 0) _ hM'.kX) cw_L_128 im_X9_thrown sl_X9_thrown rfl (by decide) hM'.kX dL_law_1314 (by first | decide | exact Nat.le_of_ble_eq_true rfl) (by decide) (by decide) (by omega) (by omega) (kI fun r1 μ1 hp2 => ?_) kN
  obtain ⟨rfl, rfl⟩ := hp2
  refine h_iload_w C dL_law_1317 rfl ?_
  refine h_icmp_eq (tgt := 1324) C dL_law_1319 (by decide) (fun c1 => ?_) (fun c1 => absurd (hthr) c1)
  refine h_iload_w C dL_law_1324 rfl ?_
  refine h_if_ne (tgt := 1348) C dL_law_1326 (by decide) (fun cK => ?_) (fun cK => ?_)
  · refine h_goto (tgt := 2529) C dL_law_1348 (by decide) ?_
    exact h_widen (by omega) (by omega) (kk _ _ _ (hst.elim (fun e => Or.inl e) (fun ⟨_, v, h⟩ => Or.inl h.2)) hC' hM' hO' _ _ _ _)
  · refine h_al_g C dL_law_1329 rfl rfl rfv_r ?_
    refine h_iconst (v := 0) C dL_law_1330 (by decide) ?_
    refine h_lald C dL_law_1331 (by rw [hO'.1]; decide) (inb hO'.2 (vp_in_nI (n := 0) (by decide) (by decide))) rfl ?_
    refine h_iload_w C dL_law_1332 rfl ?_
    refine h_if_eq (tgt := 1341) C dL_law_1334 (by decide) (fun cB => ?_) (fun cB => ?_)
    · refine h_lconst (v := 0) C dL_law_1341 (by decide) ?_
      refine h_lcmp C dL_law_1342 ?_
      refine h_if_eq (tgt := 1348) C dL_law_1343 (by decide) (fun c4 => ?_) (fun c4 => absurd (((lg_cmp_eq _ _).mpr ((hel cK).trans (by rw [cB]; rfl)))) c4)
      refine h_goto (tgt := 2529) C dL_law_1348 (by decide) ?_
      exact h_widen (by omega) (by omega) (kk _ _ _ (hst.elim (fun e => Or.inl e) (fun ⟨_, v, h⟩ => Or.inl h.2)) hC' hM' hO' _ _ _ _)
    · refine h_lconst (v := 1) C dL_law_1337 (by decide) ?_
      refine h_goto (tgt := 1342) C dL_law_1338 (by decide) ?_
      refine h_lcmp C dL_law_1342 ?_
      refine h_if_eq (tgt := 1348) C dL_law_1343 (by decide) (fun c5 => ?_) (fun c5 => absurd (((lg_cmp_eq _ _).mpr ((hel cK).trans (by rw [hq.1.resolve_left cB]; rfl)))) c5)
      refine h_goto (tgt := 2529) C dL_law_1348 (by decide) ?_
      exact h_widen (by omega) (by omega) (kk _ _ _ (hst.elim (fun e => Or.inl e) (fun ⟨_, v, h⟩ => Or.inl h.2)) hC' hM' hO' _ _ _ _)

set_option maxRecDepth 100000 in
set_option maxHeartbeats 1000000 in
theorem bl_L_address {Z : Zx} {P Q : Nat → Nat} {o sc L i : Nat} {xs : Row} {S : Sx} {t : Int32} {μ : Mem} {k n : Nat} (C : Cx Z RL cL_law 15 601024 7293034 610) (NN : NcZ Z) (SZ : ScZ Z sc L xs) (hk : k + 64 ≤ 601024) (hn : n + 12000 ≤ 7293034) (hL : L ≤ 2560) (hi : i + 4 < L) (hC : CRep Z.G P S μ) (hM : MRq Q S (LXo S t) μ) (hO : OS o μ) (hA : okA S) (kk : ∀ S' t' m, Sstep S S' → CRep Z.G P S' m → MRq Q S' (LXo S' t') m → OS o m → ∀ z5 z6 z7 z8 : Option Value, HW Z (k + 64) (n + 12000) 2529 [some (.ref sc), some (.ref (P 0)), some (.ref (Q 0)), some (.ref o), some (.int (nI i)), z5, z6, z7, z8] [] m) : ∀ z5 z6 z7 z8 : Option Value, HW Z k n 1351 [some (.ref sc), some (.ref (P 0)), some (.ref (Q 0)), some (.ref o), some (.int (nI i)), z5, z6, z7, z8] [] μ := by
  intro z5 z6 z7 z8
  have hRR : ∀ w m, (fun (w9 : Int64) (μ1 : Mem) => ∃ v9 : Int32, w9 = v9.toInt64 ∧ endC (xs (i + 1)) = 0 ∧ μ = μ1 ∧ v9 = S.ef 0 (cl (xs (i + 1)))) w m → ∃ (v9 : Int32) (S1 : Sx), w = v9.toInt64 ∧ (fun v S' => v = (S.ef 0 (cl (xs (i + 1)))) ∧ S' = S) v9 S1 ∧ CTo Z.G P μ S1 m := fun w m ⟨v9, e, _, e2, e3⟩ => ⟨v9, S, e, ⟨e3, rfl⟩, e2 ▸ CTo.rf9 hC⟩
  have hUU : ∀ (v : Int32) (S1 : Sx) (v' : Int32) (S2 : Sx), (fun v S' => v = (S.ef 0 (cl (xs (i + 1)))) ∧ S' = S) v S1 → (fun v S' => v = (S.ef 0 (cl (xs (i + 1)))) ∧ S' = S) v' S2 → v = v' ∧ S1 = S2 := fun v S1 v' S2 h h' => ⟨h.1.trans h'.1.symm, h.2.trans h'.2.symm⟩
  refine h_al_g C dL_law_1351 rfl rfl rfv_r ?_
  refine h_al_g C dL_law_1352 rfl rfl rfv_r ?_
  refine h_iload_w C dL_law_1353 rfl ?_
  refine h_iconst (v := 1) C dL_law_1355 (by decide) ?_
  refine h_iadd C dL_law_1356 ?_
  refine h_scld C SZ dL_law_1357 (ixv (k := 1) (show i + 1 < L by omega) (by omega)) (congrArg xs (ixe (k := 1) (show i + 1 < L by omega) (by omega))) ?_
  refine h_al_g C dL_law_1358 rfl rfl rfv_r ?_
  refine h_callH3 C NN (k_L_address Z.l Z.G P S _ hC (xs (i + 1)) o hO.1 hO.2) cwh_address dL_law_1359 (by decide) (by decide) (by decide) (by omega) (by omega) (kI fun r5 m5 hp5 => ?_)
  obtain ⟨hM5, hO5⟩ := lmid hM hO hp5 hRR
  have hO0 := hO
  have hM := hM5
  have hO := hO5
  refine h_ist_5 C dL_law_1362 ct_i ?_
  refine h_al_g C dL_law_1364 rfl rfl rfv_r ?_
  refine h_al_g C dL_law_1365 rfl rfl rfv_r ?_
  refine h_iload_w C dL_law_1366 rfl ?_
  refine h_iconst (v := 1) C dL_law_1368 (by decide) ?_
  refine h_iadd C dL_law_1369 ?_
  refine h_scld C SZ dL_law_1370 (ixv (k := 1) (show i + 1 < L by omega) (by omega)) (congrArg xs (ixe (k := 1) (show i + 1 < L by omega) (by omega))) ?_
  refine h_callV1 (ci := 9) C (k_X9_address Z.l Z.G (Q 0) _ hM.kX (S.ef 0) ⟨Q 1, hM.fA (i := 1) (by decide), hM.neQ (by decide) (by decide) (by decide), hM.k11 (by decide), hM.ln3 (by decide), fun i hi => hM.a1 hi⟩ _) cw_L_191 im_X9_address sl_X9_address rfl (by decide) hM.kX dL_law_1371 (by first | decide | exact Nat.le_of_ble_eq_true rfl) (by decide) (by decide) (by omega) (by omega) (kI fun r6 m6 hp1 => ?_) kN
  have hq := hp1
  obtain ⟨hthr, S', t', hst, hC', hM', hO', hel⟩ := lfin hC hO0 hp5 hRR (hq.elim (fun ⟨c0, e, e2⟩ => Or.inl ⟨c0, S, ⟨e, rfl⟩, rd_pub hM e2⟩) (fun ⟨c0, _, e2⟩ => Or.inr ⟨c0, rd_pub hM e2⟩)) hUU
  refine h_ist_6 C dL_law_1374 ct_i ?_
  refine h_al_g C dL_law_1376 rfl rfl rfv_r ?_
  refine h_callV0 (ci := 9) (a_ := .null) C (k_X9_thrown Z.l Z.G (Q 0) _ hM'.kX) cw_L_128 im_X9_thrown sl_X9_thrown rfl (by decide) hM'.kX dL_law_1377 (by first | decide | exact Nat.le_of_ble_eq_true rfl) (by decide) (by decide) (by omega) (by omega) (kI fun r1 μ1 hp2 => ?_) kN
  obtain ⟨rfl, rfl⟩ := hp2
  refine h_iload_w C dL_law_1380 rfl ?_
  refine h_icmp_eq (tgt := 1387) C dL_law_1382 (by decide) (fun c1 => ?_) (fun c1 => absurd (hthr) c1)
  refine h_iload_w C dL_law_1387 rfl ?_
  refine h_if_ne (tgt := 1404) C dL_law_1389 (by decide) (fun cK => ?_) (fun cK => ?_)
  · refine h_goto (tgt := 2529) C dL_law_1404 (by decide) ?_
    exact h_widen (by omega) (by omega) (kk _ _ _ (hst.elim (fun e => Or.inl e) (fun ⟨_, v, h⟩ => Or.inl h.2)) hC' hM' hO' _ _ _ _)
  · refine h_al_g C dL_law_1392 rfl rfl rfv_r ?_
    refine h_iconst (v := 0) C dL_law_1393 (by decide) ?_
    refine h_lald C dL_law_1394 (by rw [hO'.1]; decide) (inb hO'.2 (vp_in_nI (n := 0) (by decide) (by decide))) rfl ?_
    refine h_iload_w C dL_law_1395 rfl ?_
    refine h_i2l C dL_law_1397 ?_
    refine h_lcmp C dL_law_1398 ?_
    refine h_if_eq (tgt := 1404) C dL_law_1399 (by decide) (fun c3 => ?_) (fun c3 => absurd (((lg_cmp_eq _ _).mpr (hel cK))) c3)
    refine h_goto (tgt := 2529) C dL_law_1404 (by decide) ?_
    exact h_widen (by omega) (by omega) (kk _ _ _ (hst.elim (fun e => Or.inl e) (fun ⟨_, v, h⟩ => Or.inl h.2)) hC' hM' hO' _ _ _ _)

set_option maxRecDepth 100000 in
set_option maxHeartbeats 1000000 in
theorem bl_L_known {Z : Zx} {P Q : Nat → Nat} {o sc L i : Nat} {xs : Row} {S : Sx} {t : Int32} {μ : Mem} {k n : Nat} (C : Cx Z RL cL_law 15 601024 7293034 610) (NN : NcZ Z) (SZ : ScZ Z sc L xs) (hk : k + 64 ≤ 601024) (hn : n + 12000 ≤ 7293034) (hL : L ≤ 2560) (hi : i + 4 < L) (hC : CRep Z.G P S μ) (hM : MRq Q S (LXo S t) μ) (hO : OS o μ) (hA : okA S) (kk : ∀ S' t' m, Sstep S S' → CRep Z.G P S' m → MRq Q S' (LXo S' t') m → OS o m → ∀ z5 z6 z7 z8 : Option Value, HW Z (k + 64) (n + 12000) 2529 [some (.ref sc), some (.ref (P 0)), some (.ref (Q 0)), some (.ref o), some (.int (nI i)), z5, z6, z7, z8] [] m) : ∀ z5 z6 z7 z8 : Option Value, HW Z k n 1407 [some (.ref sc), some (.ref (P 0)), some (.ref (Q 0)), some (.ref o), some (.int (nI i)), z5, z6, z7, z8] [] μ := by
  intro z5 z6 z7 z8
  have hRR : ∀ w m, (fun (w9 : Int64) (μ1 : Mem) => ∃ v9 : Int32, w9 = v9.toInt64 ∧ pairC (xs (i + 1)) (xs (i + 2)) = 0 ∧ μ = μ1 ∧ v9 = S.lf 0 (cl (xs (i + 1))) (cl (xs (i + 2)))) w m → ∃ (v9 : Int32) (S1 : Sx), w = v9.toInt64 ∧ (fun v S' => v = (S.lf 0 (cl (xs (i + 1))) (cl (xs (i + 2)))) ∧ S' = S) v9 S1 ∧ CTo Z.G P μ S1 m := fun w m ⟨v9, e, _, e2, e3⟩ => ⟨v9, S, e, ⟨e3, rfl⟩, e2 ▸ CTo.rf9 hC⟩
  have hUU : ∀ (v : Int32) (S1 : Sx) (v' : Int32) (S2 : Sx), (fun v S' => v = (S.lf 0 (cl (xs (i + 1))) (cl (xs (i + 2)))) ∧ S' = S) v S1 → (fun v S' => v = (S.lf 0 (cl (xs (i + 1))) (cl (xs (i + 2)))) ∧ S' = S) v' S2 → v = v' ∧ S1 = S2 := fun v S1 v' S2 h h' => ⟨h.1.trans h'.1.symm, h.2.trans h'.2.symm⟩
  refine h_al_g C dL_law_1407 rfl rfl rfv_r ?_
  refine h_al_g C dL_law_1408 rfl rfl rfv_r ?_
  refine h_iload_w C dL_law_1409 rfl ?_
  refine h_iconst (v := 1) C dL_law_1411 (by decide) ?_
  refine h_iadd C dL_law_1412 ?_
  refine h_scld C SZ dL_law_1413 (ixv (k := 1) (show i + 1 < L by omega) (by omega)) (congrArg xs (ixe (k := 1) (show i + 1 < L by omega) (by omega))) ?_
  refine h_al_g C dL_law_1414 rfl rfl rfv_r ?_
  refine h_iload_w C dL_law_1415 rfl ?_
  refine h_iconst (v := 2) C dL_law_1417 (by decide) ?_
  refine h_iadd C dL_law_1418 ?_
  refine h_scld C SZ dL_law_1419 (ixv (k := 2) (show i + 2 < L by omega) (by omega)) (congrArg xs (ixe (k := 2) (show i + 2 < L by omega) (by omega))) ?_
  refine h_al_g C dL_law_1420 rfl rfl rfv_r ?_
  refine h_callH4 C NN (k_L_known Z.l Z.G P S _ hC (xs (i + 1)) (xs (i + 2)) o hO.1 hO.2) cwh_known dL_law_1421 (by decide) (by decide) (by decide) (by omega) (by omega) (kI fun r5 m5 hp5 => ?_)
  obtain ⟨hM5, hO5⟩ := lmid hM hO hp5 hRR
  have hO0 := hO
  have hM := hM5
  have hO := hO5
  refine h_ist_5 C dL_law_1424 ct_i ?_
  refine h_al_g C dL_law_1426 rfl rfl rfv_r ?_
  refine h_al_g C dL_law_1427 rfl rfl rfv_r ?_
  refine h_iload_w C dL_law_1428 rfl ?_
  refine h_iconst (v := 1) C dL_law_1430 (by decide) ?_
  refine h_iadd C dL_law_1431 ?_
  refine h_scld C SZ dL_law_1432 (ixv (k := 1) (show i + 1 < L by omega) (by omega)) (congrArg xs (ixe (k := 1) (show i + 1 < L by omega) (by omega))) ?_
  refine h_al_g C dL_law_1433 rfl rfl rfv_r ?_
  refine h_iload_w C dL_law_1434 rfl ?_
  refine h_iconst (v := 2) C dL_law_1436 (by decide) ?_
  refine h_iadd C dL_law_1437 ?_
  refine h_scld C SZ dL_law_1438 (ixv (k := 2) (show i + 2 < L by omega) (by omega)) (congrArg xs (ixe (k := 2) (show i + 2 < L by omega) (by omega))) ?_
  refine h_callV2 (ci := 9) C (k_X9_known Z.l Z.G (Q 0) _ hM.kX (S.lf 0) (I2S hM (t := 0) (by decide) (fun a b ha hb => hM.t0 ha hb)) _ _) cw_L_194 im_X9_known sl_X9_known rfl (by decide) hM.kX dL_law_1439 (by first | decide | exact Nat.le_of_ble_eq_true rfl) (by decide) (by decide) (by omega) (by omega) (kI fun r6 m6 hp1 => ?_) kN
  have hq := hp1
  obtain ⟨hthr, S', t', hst, hC', hM', hO', hel⟩ := lfin hC hO0 hp5 hRR (hq.elim (fun ⟨c0, e, e2⟩ => Or.inl ⟨c0, S, ⟨e, rfl⟩, rd_pub hM e2⟩) (fun ⟨c0, _, e2⟩ => Or.inr ⟨c0, rd_pub hM e2⟩)) hUU
  refine h_ist_6 C dL_law_1442 ct_i ?_
  refine h_al_g C dL_law_1444 rfl rfl rfv_r ?_
  refine h_callV0 (ci := 9) (a_ := .null) C (k_X9_thrown Z.l Z.G (Q 0) _ hM'.kX) cw_L_128 im_X9_thrown sl_X9_thrown rfl (by decide) hM'.kX dL_law_1445 (by first | decide | exact Nat.le_of_ble_eq_true rfl) (by decide) (by decide) (by omega) (by omega) (kI fun r1 μ1 hp2 => ?_) kN
  obtain ⟨rfl, rfl⟩ := hp2
  refine h_iload_w C dL_law_1448 rfl ?_
  refine h_icmp_eq (tgt := 1455) C dL_law_1450 (by decide) (fun c1 => ?_) (fun c1 => absurd (hthr) c1)
  refine h_iload_w C dL_law_1455 rfl ?_
  refine h_if_ne (tgt := 1472) C dL_law_1457 (by decide) (fun cK => ?_) (fun cK => ?_)
  · refine h_goto (tgt := 2529) C dL_law_1472 (by decide) ?_
    exact h_widen (by omega) (by omega) (kk _ _ _ (hst.elim (fun e => Or.inl e) (fun ⟨_, v, h⟩ => Or.inl h.2)) hC' hM' hO' _ _ _ _)
  · refine h_al_g C dL_law_1460 rfl rfl rfv_r ?_
    refine h_iconst (v := 0) C dL_law_1461 (by decide) ?_
    refine h_lald C dL_law_1462 (by rw [hO'.1]; decide) (inb hO'.2 (vp_in_nI (n := 0) (by decide) (by decide))) rfl ?_
    refine h_iload_w C dL_law_1463 rfl ?_
    refine h_i2l C dL_law_1465 ?_
    refine h_lcmp C dL_law_1466 ?_
    refine h_if_eq (tgt := 1472) C dL_law_1467 (by decide) (fun c3 => ?_) (fun c3 => absurd (((lg_cmp_eq _ _).mpr (hel cK))) c3)
    refine h_goto (tgt := 2529) C dL_law_1472 (by decide) ?_
    exact h_widen (by omega) (by omega) (kk _ _ _ (hst.elim (fun e => Or.inl e) (fun ⟨_, v, h⟩ => Or.inl h.2)) hC' hM' hO' _ _ _ _)

set_option maxRecDepth 100000 in
set_option maxHeartbeats 1000000 in
theorem bl_L_route {Z : Zx} {P Q : Nat → Nat} {o sc L i : Nat} {xs : Row} {S : Sx} {t : Int32} {μ : Mem} {k n : Nat} (C : Cx Z RL cL_law 15 601024 7293034 610) (NN : NcZ Z) (SZ : ScZ Z sc L xs) (hk : k + 64 ≤ 601024) (hn : n + 12000 ≤ 7293034) (hL : L ≤ 2560) (hi : i + 4 < L) (hC : CRep Z.G P S μ) (hM : MRq Q S (LXo S t) μ) (hO : OS o μ) (hA : okA S) (kk : ∀ S' t' m, Sstep S S' → CRep Z.G P S' m → MRq Q S' (LXo S' t') m → OS o m → ∀ z5 z6 z7 z8 : Option Value, HW Z (k + 64) (n + 12000) 2529 [some (.ref sc), some (.ref (P 0)), some (.ref (Q 0)), some (.ref o), some (.int (nI i)), z5, z6, z7, z8] [] m) : ∀ z5 z6 z7 z8 : Option Value, HW Z k n 1475 [some (.ref sc), some (.ref (P 0)), some (.ref (Q 0)), some (.ref o), some (.int (nI i)), z5, z6, z7, z8] [] μ := by
  intro z5 z6 z7 z8
  have hRR : ∀ w m, (fun (w9 : Int64) (μ1 : Mem) => ∃ v9 : Int32, w9 = v9.toInt64 ∧ rouC (xs (i + 1)) (xs (i + 2)) = 0 ∧ μ = μ1 ∧ v9 = GVN (xs (i + 2)) (S.rt (cl (xs (i + 1)))) (-1) (-1)) w m → ∃ (v9 : Int32) (S1 : Sx), w = v9.toInt64 ∧ (fun v S' => v = (GVN (xs (i + 2)) (S.rt (cl (xs (i + 1)))) (-1) (-1)) ∧ S' = S) v9 S1 ∧ CTo Z.G P μ S1 m := fun w m ⟨v9, e, _, e2, e3⟩ => ⟨v9, S, e, ⟨e3, rfl⟩, e2 ▸ CTo.rf9 hC⟩
  have hUU : ∀ (v : Int32) (S1 : Sx) (v' : Int32) (S2 : Sx), (fun v S' => v = (GVN (xs (i + 2)) (S.rt (cl (xs (i + 1)))) (-1) (-1)) ∧ S' = S) v S1 → (fun v S' => v = (GVN (xs (i + 2)) (S.rt (cl (xs (i + 1)))) (-1) (-1)) ∧ S' = S) v' S2 → v = v' ∧ S1 = S2 := fun v S1 v' S2 h h' => ⟨h.1.trans h'.1.symm, h.2.trans h'.2.symm⟩
  refine h_al_g C dL_law_1475 rfl rfl rfv_r ?_
  refine h_al_g C dL_law_1476 rfl rfl rfv_r ?_
  refine h_iload_w C dL_law_1477 rfl ?_
  refine h_iconst (v := 1) C dL_law_1479 (by decide) ?_
  refine h_iadd C dL_law_1480 ?_
  refine h_scld C SZ dL_law_1481 (ixv (k := 1) (show i + 1 < L by omega) (by omega)) (congrArg xs (ixe (k := 1) (show i + 1 < L by omega) (by omega))) ?_
  refine h_al_g C dL_law_1482 rfl rfl rfv_r ?_
  refine h_iload_w C dL_law_1483 rfl ?_
  refine h_iconst (v := 2) C dL_law_1485 (by decide) ?_
  refine h_iadd C dL_law_1486 ?_
  refine h_scld C SZ dL_law_1487 (ixv (k := 2) (show i + 2 < L by omega) (by omega)) (congrArg xs (ixe (k := 2) (show i + 2 < L by omega) (by omega))) ?_
  refine h_al_g C dL_law_1488 rfl rfl rfv_r ?_
  refine h_callH4 C NN (k_L_route Z.l Z.G P S _ hC (xs (i + 1)) (xs (i + 2)) o hO.1 hO.2) cwh_route dL_law_1489 (by decide) (by decide) (by decide) (by omega) (by omega) (kI fun r5 m5 hp5 => ?_)
  obtain ⟨hM5, hO5⟩ := lmid hM hO hp5 hRR
  have hO0 := hO
  have hM := hM5
  have hO := hO5
  refine h_ist_5 C dL_law_1492 ct_i ?_
  refine h_al_g C dL_law_1494 rfl rfl rfv_r ?_
  refine h_al_g C dL_law_1495 rfl rfl rfv_r ?_
  refine h_iload_w C dL_law_1496 rfl ?_
  refine h_iconst (v := 1) C dL_law_1498 (by decide) ?_
  refine h_iadd C dL_law_1499 ?_
  refine h_scld C SZ dL_law_1500 (ixv (k := 1) (show i + 1 < L by omega) (by omega)) (congrArg xs (ixe (k := 1) (show i + 1 < L by omega) (by omega))) ?_
  refine h_al_g C dL_law_1501 rfl rfl rfv_r ?_
  refine h_iload_w C dL_law_1502 rfl ?_
  refine h_iconst (v := 2) C dL_law_1504 (by decide) ?_
  refine h_iadd C dL_law_1505 ?_
  refine h_scld C SZ dL_law_1506 (ixv (k := 2) (show i + 2 < L by omega) (by omega)) (congrArg xs (ixe (k := 2) (show i + 2 < L by omega) (by omega))) ?_
  refine h_callV2 (ci := 9) C (k_X9_route Z.l Z.G Q S _ _ hM (xs (i + 1)) (xs (i + 2)) hA.2.2.1) cw_L_197 im_X9_route sl_X9_route rfl (by decide) hM.kX dL_law_1507 (by first | decide | exact Nat.le_of_ble_eq_true rfl) (by decide) (by decide) (by omega) (by omega) (kI fun r6 m6 hp1 => ?_) kN
  have hq := hp1
  obtain ⟨hthr, S', t', hst, hC', hM', hO', hel⟩ := lfin hC hO0 hp5 hRR (hq.elim (fun ⟨c0, e, T⟩ => Or.inl ⟨c0, _, ⟨e, rfl⟩, T⟩) Or.inr) hUU
  refine h_ist_6 C dL_law_1510 ct_i ?_
  refine h_al_g C dL_law_1512 rfl rfl rfv_r ?_
  refine h_callV0 (ci := 9) (a_ := .null) C (k_X9_thrown Z.l Z.G (Q 0) _ hM'.kX) cw_L_128 im_X9_thrown sl_X9_thrown rfl (by decide) hM'.kX dL_law_1513 (by first | decide | exact Nat.le_of_ble_eq_true rfl) (by decide) (by decide) (by omega) (by omega) (kI fun r1 μ1 hp2 => ?_) kN
  obtain ⟨rfl, rfl⟩ := hp2
  refine h_iload_w C dL_law_1516 rfl ?_
  refine h_icmp_eq (tgt := 1523) C dL_law_1518 (by decide) (fun c1 => ?_) (fun c1 => absurd (hthr) c1)
  refine h_iload_w C dL_law_1523 rfl ?_
  refine h_if_ne (tgt := 1540) C dL_law_1525 (by decide) (fun cK => ?_) (fun cK => ?_)
  · refine h_goto (tgt := 2529) C dL_law_1540 (by decide) ?_
    exact h_widen (by omega) (by omega) (kk _ _ _ (hst.elim (fun e => Or.inl e) (fun ⟨_, v, h⟩ => Or.inl h.2)) hC' hM' hO' _ _ _ _)
  · refine h_al_g C dL_law_1528 rfl rfl rfv_r ?_
    refine h_iconst (v := 0) C dL_law_1529 (by decide) ?_
    refine h_lald C dL_law_1530 (by rw [hO'.1]; decide) (inb hO'.2 (vp_in_nI (n := 0) (by decide) (by decide))) rfl ?_
    refine h_iload_w C dL_law_1531 rfl ?_
    refine h_i2l C dL_law_1533 ?_
    refine h_lcmp C dL_law_1534 ?_
    refine h_if_eq (tgt := 1540) C dL_law_1535 (by decide) (fun c3 => ?_) (fun c3 => absurd (((lg_cmp_eq _ _).mpr (hel cK))) c3)
    refine h_goto (tgt := 2529) C dL_law_1540 (by decide) ?_
    exact h_widen (by omega) (by omega) (kk _ _ _ (hst.elim (fun e => Or.inl e) (fun ⟨_, v, h⟩ => Or.inl h.2)) hC' hM' hO' _ _ _ _)

set_option maxRecDepth 100000 in
set_option maxHeartbeats 1000000 in
theorem bl_L_session {Z : Zx} {P Q : Nat → Nat} {o sc L i : Nat} {xs : Row} {S : Sx} {t : Int32} {μ : Mem} {k n : Nat} (C : Cx Z RL cL_law 15 601024 7293034 610) (NN : NcZ Z) (SZ : ScZ Z sc L xs) (hk : k + 64 ≤ 601024) (hn : n + 12000 ≤ 7293034) (hL : L ≤ 2560) (hi : i + 4 < L) (hC : CRep Z.G P S μ) (hM : MRq Q S (LXo S t) μ) (hO : OS o μ) (hA : okA S) (kk : ∀ S' t' m, Sstep S S' → CRep Z.G P S' m → MRq Q S' (LXo S' t') m → OS o m → ∀ z5 z6 z7 z8 : Option Value, HW Z (k + 64) (n + 12000) 2529 [some (.ref sc), some (.ref (P 0)), some (.ref (Q 0)), some (.ref o), some (.int (nI i)), z5, z6, z7, z8] [] m) : ∀ z5 z6 z7 z8 : Option Value, HW Z k n 1543 [some (.ref sc), some (.ref (P 0)), some (.ref (Q 0)), some (.ref o), some (.int (nI i)), z5, z6, z7, z8] [] μ := by
  intro z5 z6 z7 z8
  have hRR : ∀ w m, (fun (w9 : Int64) (μ1 : Mem) => ∃ v9 : Int32, w9 = v9.toInt64 ∧ sesC S (xs (i + 1)) (xs (i + 2)) (xs (i + 3)) (xs (i + 4)) = 0 ∧ μ = μ1 ∧ v9 = SESv S (SESr S (cl (xs (i + 1))) (cl (xs (i + 2))) (cl (xs (i + 3)))) (xs (i + 4))) w m → ∃ (v9 : Int32) (S1 : Sx), w = v9.toInt64 ∧ (fun v S' => v = (SESv S (SESr S (cl (xs (i + 1))) (cl (xs (i + 2))) (cl (xs (i + 3)))) (xs (i + 4))) ∧ S' = S) v9 S1 ∧ CTo Z.G P μ S1 m := fun w m ⟨v9, e, _, e2, e3⟩ => ⟨v9, S, e, ⟨e3, rfl⟩, e2 ▸ CTo.rf9 hC⟩
  have hUU : ∀ (v : Int32) (S1 : Sx) (v' : Int32) (S2 : Sx), (fun v S' => v = (SESv S (SESr S (cl (xs (i + 1))) (cl (xs (i + 2))) (cl (xs (i + 3)))) (xs (i + 4))) ∧ S' = S) v S1 → (fun v S' => v = (SESv S (SESr S (cl (xs (i + 1))) (cl (xs (i + 2))) (cl (xs (i + 3)))) (xs (i + 4))) ∧ S' = S) v' S2 → v = v' ∧ S1 = S2 := fun v S1 v' S2 h h' => ⟨h.1.trans h'.1.symm, h.2.trans h'.2.symm⟩
  refine h_al_g C dL_law_1543 rfl rfl rfv_r ?_
  refine h_al_g C dL_law_1544 rfl rfl rfv_r ?_
  refine h_iload_w C dL_law_1545 rfl ?_
  refine h_iconst (v := 1) C dL_law_1547 (by decide) ?_
  refine h_iadd C dL_law_1548 ?_
  refine h_scld C SZ dL_law_1549 (ixv (k := 1) (show i + 1 < L by omega) (by omega)) (congrArg xs (ixe (k := 1) (show i + 1 < L by omega) (by omega))) ?_
  refine h_al_g C dL_law_1550 rfl rfl rfv_r ?_
  refine h_iload_w C dL_law_1551 rfl ?_
  refine h_iconst (v := 2) C dL_law_1553 (by decide) ?_
  refine h_iadd C dL_law_1554 ?_
  refine h_scld C SZ dL_law_1555 (ixv (k := 2) (show i + 2 < L by omega) (by omega)) (congrArg xs (ixe (k := 2) (show i + 2 < L by omega) (by omega))) ?_
  refine h_al_g C dL_law_1556 rfl rfl rfv_r ?_
  refine h_iload_w C dL_law_1557 rfl ?_
  refine h_iconst (v := 3) C dL_law_1559 (by decide) ?_
  refine h_iadd C dL_law_1560 ?_
  refine h_scld C SZ dL_law_1561 (ixv (k := 3) (show i + 3 < L by omega) (by omega)) (congrArg xs (ixe (k := 3) (show i + 3 < L by omega) (by omega))) ?_
  refine h_al_g C dL_law_1562 rfl rfl rfv_r ?_
  refine h_iload_w C dL_law_1563 rfl ?_
  refine h_iconst (v := 4) C dL_law_1565 (by decide) ?_
  refine h_iadd C dL_law_1566 ?_
  refine h_scld C SZ dL_law_1567 (ixv (k := 4) (show i + 4 < L by omega) (by omega)) (congrArg xs (ixe (k := 4) (show i + 4 < L by omega) (by omega))) ?_
  refine h_al_g C dL_law_1568 rfl rfl rfv_r ?_
  refine h_callH6 C NN (k_L_session Z.l Z.G P S _ hC (xs (i + 1)) (xs (i + 2)) (xs (i + 3)) (xs (i + 4)) o hO.1 hO.2) cwh_session dL_law_1569 (by decide) (by decide) (by decide) (by omega) (by omega) (kI fun r5 m5 hp5 => ?_)
  obtain ⟨hM5, hO5⟩ := lmid hM hO hp5 hRR
  have hO0 := hO
  have hM := hM5
  have hO := hO5
  refine h_ist_5 C dL_law_1572 ct_i ?_
  refine h_al_g C dL_law_1574 rfl rfl rfv_r ?_
  refine h_al_g C dL_law_1575 rfl rfl rfv_r ?_
  refine h_iload_w C dL_law_1576 rfl ?_
  refine h_iconst (v := 1) C dL_law_1578 (by decide) ?_
  refine h_iadd C dL_law_1579 ?_
  refine h_scld C SZ dL_law_1580 (ixv (k := 1) (show i + 1 < L by omega) (by omega)) (congrArg xs (ixe (k := 1) (show i + 1 < L by omega) (by omega))) ?_
  refine h_al_g C dL_law_1581 rfl rfl rfv_r ?_
  refine h_iload_w C dL_law_1582 rfl ?_
  refine h_iconst (v := 2) C dL_law_1584 (by decide) ?_
  refine h_iadd C dL_law_1585 ?_
  refine h_scld C SZ dL_law_1586 (ixv (k := 2) (show i + 2 < L by omega) (by omega)) (congrArg xs (ixe (k := 2) (show i + 2 < L by omega) (by omega))) ?_
  refine h_al_g C dL_law_1587 rfl rfl rfv_r ?_
  refine h_iload_w C dL_law_1588 rfl ?_
  refine h_iconst (v := 3) C dL_law_1590 (by decide) ?_
  refine h_iadd C dL_law_1591 ?_
  refine h_scld C SZ dL_law_1592 (ixv (k := 3) (show i + 3 < L by omega) (by omega)) (congrArg xs (ixe (k := 3) (show i + 3 < L by omega) (by omega))) ?_
  refine h_al_g C dL_law_1593 rfl rfl rfv_r ?_
  refine h_iload_w C dL_law_1594 rfl ?_
  refine h_iconst (v := 4) C dL_law_1596 (by decide) ?_
  refine h_iadd C dL_law_1597 ?_
  refine h_scld C SZ dL_law_1598 (ixv (k := 4) (show i + 4 < L by omega) (by omega)) (congrArg xs (ixe (k := 4) (show i + 4 < L by omega) (by omega))) ?_
  refine h_callV4 (ci := 9) C (k_X9_session Z.l Z.G Q S _ _ hM (xs (i + 1)) (xs (i + 2)) (xs (i + 3)) (xs (i + 4)) hA.2.2.2.2.2.2.2.1) cw_L_200 im_X9_session sl_X9_session rfl (by decide) hM.kX dL_law_1599 (by first | decide | exact Nat.le_of_ble_eq_true rfl) (by decide) (by decide) (by omega) (by omega) (kI fun r6 m6 hp1 => ?_) kN
  have hq := hp1
  obtain ⟨hthr, S', t', hst, hC', hM', hO', hel⟩ := lfin hC hO0 hp5 hRR (hq.elim (fun ⟨c0, e, T⟩ => Or.inl ⟨c0, _, ⟨e, rfl⟩, T⟩) Or.inr) hUU
  refine h_ist_6 C dL_law_1602 ct_i ?_
  refine h_al_g C dL_law_1604 rfl rfl rfv_r ?_
  refine h_callV0 (ci := 9) (a_ := .null) C (k_X9_thrown Z.l Z.G (Q 0) _ hM'.kX) cw_L_128 im_X9_thrown sl_X9_thrown rfl (by decide) hM'.kX dL_law_1605 (by first | decide | exact Nat.le_of_ble_eq_true rfl) (by decide) (by decide) (by omega) (by omega) (kI fun r1 μ1 hp2 => ?_) kN
  obtain ⟨rfl, rfl⟩ := hp2
  refine h_iload_w C dL_law_1608 rfl ?_
  refine h_icmp_eq (tgt := 1615) C dL_law_1610 (by decide) (fun c1 => ?_) (fun c1 => absurd (hthr) c1)
  refine h_iload_w C dL_law_1615 rfl ?_
  refine h_if_ne (tgt := 1632) C dL_law_1617 (by decide) (fun cK => ?_) (fun cK => ?_)
  · refine h_goto (tgt := 2529) C dL_law_1632 (by decide) ?_
    exact h_widen (by omega) (by omega) (kk _ _ _ (hst.elim (fun e => Or.inl e) (fun ⟨_, v, h⟩ => Or.inl h.2)) hC' hM' hO' _ _ _ _)
  · refine h_al_g C dL_law_1620 rfl rfl rfv_r ?_
    refine h_iconst (v := 0) C dL_law_1621 (by decide) ?_
    refine h_lald C dL_law_1622 (by rw [hO'.1]; decide) (inb hO'.2 (vp_in_nI (n := 0) (by decide) (by decide))) rfl ?_
    refine h_iload_w C dL_law_1623 rfl ?_
    refine h_i2l C dL_law_1625 ?_
    refine h_lcmp C dL_law_1626 ?_
    refine h_if_eq (tgt := 1632) C dL_law_1627 (by decide) (fun c3 => ?_) (fun c3 => absurd (((lg_cmp_eq _ _).mpr (hel cK))) c3)
    refine h_goto (tgt := 2529) C dL_law_1632 (by decide) ?_
    exact h_widen (by omega) (by omega) (kk _ _ _ (hst.elim (fun e => Or.inl e) (fun ⟨_, v, h⟩ => Or.inl h.2)) hC' hM' hO' _ _ _ _)

set_option maxRecDepth 100000 in
set_option maxHeartbeats 1000000 in
theorem bl_L_isUsable {Z : Zx} {P Q : Nat → Nat} {o sc L i : Nat} {xs : Row} {S : Sx} {t : Int32} {μ : Mem} {k n : Nat} (C : Cx Z RL cL_law 15 601024 7293034 610) (NN : NcZ Z) (SZ : ScZ Z sc L xs) (hk : k + 64 ≤ 601024) (hn : n + 12000 ≤ 7293034) (hL : L ≤ 2560) (hi : i + 4 < L) (hC : CRep Z.G P S μ) (hM : MRq Q S (LXo S t) μ) (hO : OS o μ) (hA : okA S) (kk : ∀ S' t' m, Sstep S S' → CRep Z.G P S' m → MRq Q S' (LXo S' t') m → OS o m → ∀ z5 z6 z7 z8 : Option Value, HW Z (k + 64) (n + 12000) 2529 [some (.ref sc), some (.ref (P 0)), some (.ref (Q 0)), some (.ref o), some (.int (nI i)), z5, z6, z7, z8] [] m) : ∀ z5 z6 z7 z8 : Option Value, HW Z k n 1635 [some (.ref sc), some (.ref (P 0)), some (.ref (Q 0)), some (.ref o), some (.int (nI i)), z5, z6, z7, z8] [] μ := by
  intro z5 z6 z7 z8
  have hRR : ∀ w m, (fun (w9 : Int64) (μ1 : Mem) => (w9 = 1 ∧ pairC (xs (i + 1)) (xs (i + 2)) = 0 ∧ μ = μ1 ∧ ∃ r, USE S (cl (xs (i + 1))) (cl (xs (i + 2))) = some r) ∨ (w9 = 0 ∧ pairC (xs (i + 1)) (xs (i + 2)) = 0 ∧ μ = μ1 ∧ USE S (cl (xs (i + 1))) (cl (xs (i + 2))) = none)) w m → ∃ (v9 : Int32) (S1 : Sx), w = v9.toInt64 ∧ (fun v S' => ((v = 1 ∧ ∃ r, USE S (cl (xs (i + 1))) (cl (xs (i + 2))) = some r) ∨ (v = 0 ∧ USE S (cl (xs (i + 1))) (cl (xs (i + 2))) = none)) ∧ S' = S) v9 S1 ∧ CTo Z.G P μ S1 m := fun w m h => h.elim (fun ⟨e, _, e2, hp⟩ => ⟨1, S, e, ⟨Or.inl ⟨rfl, hp⟩, rfl⟩, e2 ▸ CTo.rf9 hC⟩) (fun ⟨e, _, e2, hp⟩ => ⟨0, S, e, ⟨Or.inr ⟨rfl, hp⟩, rfl⟩, e2 ▸ CTo.rf9 hC⟩)
  have hex : (∃ r, USE S (cl (xs (i + 1))) (cl (xs (i + 2))) = some r) → (USE S (cl (xs (i + 1))) (cl (xs (i + 2))) = none) → False := (fun hp hq => by obtain ⟨r, hr⟩ := hp; rw [hr] at hq; cases hq)
  have hUU : ∀ (v : Int32) (S1 : Sx) (v' : Int32) (S2 : Sx), (fun v S' => ((v = 1 ∧ ∃ r, USE S (cl (xs (i + 1))) (cl (xs (i + 2))) = some r) ∨ (v = 0 ∧ USE S (cl (xs (i + 1))) (cl (xs (i + 2))) = none)) ∧ S' = S) v S1 → (fun v S' => ((v = 1 ∧ ∃ r, USE S (cl (xs (i + 1))) (cl (xs (i + 2))) = some r) ∨ (v = 0 ∧ USE S (cl (xs (i + 1))) (cl (xs (i + 2))) = none)) ∧ S' = S) v' S2 → v = v' ∧ S1 = S2 := fun v S1 v' S2 h h' => ⟨by
    rcases h.1 with ⟨a1, a2⟩ | ⟨a1, a2⟩
    · rcases h'.1 with ⟨b1, b2⟩ | ⟨b1, b2⟩
      · exact a1.trans b1.symm
      · exact (hex a2 b2).elim
    · rcases h'.1 with ⟨b1, b2⟩ | ⟨b1, b2⟩
      · exact (hex b2 a2).elim
      · exact a1.trans b1.symm, h.2.trans h'.2.symm⟩
  refine h_al_g C dL_law_1635 rfl rfl rfv_r ?_
  refine h_al_g C dL_law_1636 rfl rfl rfv_r ?_
  refine h_iload_w C dL_law_1637 rfl ?_
  refine h_iconst (v := 1) C dL_law_1639 (by decide) ?_
  refine h_iadd C dL_law_1640 ?_
  refine h_scld C SZ dL_law_1641 (ixv (k := 1) (show i + 1 < L by omega) (by omega)) (congrArg xs (ixe (k := 1) (show i + 1 < L by omega) (by omega))) ?_
  refine h_al_g C dL_law_1642 rfl rfl rfv_r ?_
  refine h_iload_w C dL_law_1643 rfl ?_
  refine h_iconst (v := 2) C dL_law_1645 (by decide) ?_
  refine h_iadd C dL_law_1646 ?_
  refine h_scld C SZ dL_law_1647 (ixv (k := 2) (show i + 2 < L by omega) (by omega)) (congrArg xs (ixe (k := 2) (show i + 2 < L by omega) (by omega))) ?_
  refine h_al_g C dL_law_1648 rfl rfl rfv_r ?_
  refine h_callH4 C NN (k_L_isUsable Z.l Z.G P S _ hC (xs (i + 1)) (xs (i + 2)) o hO.1 hO.2) cwh_isUsable dL_law_1649 (by decide) (by decide) (by decide) (by omega) (by omega) (kI fun r5 m5 hp5 => ?_)
  obtain ⟨hM5, hO5⟩ := lmid hM hO hp5 hRR
  have hO0 := hO
  have hM := hM5
  have hO := hO5
  refine h_ist_5 C dL_law_1652 ct_i ?_
  refine h_al_g C dL_law_1654 rfl rfl rfv_r ?_
  refine h_al_g C dL_law_1655 rfl rfl rfv_r ?_
  refine h_iload_w C dL_law_1656 rfl ?_
  refine h_iconst (v := 1) C dL_law_1658 (by decide) ?_
  refine h_iadd C dL_law_1659 ?_
  refine h_scld C SZ dL_law_1660 (ixv (k := 1) (show i + 1 < L by omega) (by omega)) (congrArg xs (ixe (k := 1) (show i + 1 < L by omega) (by omega))) ?_
  refine h_al_g C dL_law_1661 rfl rfl rfv_r ?_
  refine h_iload_w C dL_law_1662 rfl ?_
  refine h_iconst (v := 2) C dL_law_1664 (by decide) ?_
  refine h_iadd C dL_law_1665 ?_
  refine h_scld C SZ dL_law_1666 (ixv (k := 2) (show i + 2 < L by omega) (by omega)) (congrArg xs (ixe (k := 2) (show i + 2 < L by omega) (by omega))) ?_
  refine h_callV2 (ci := 9) C (k_X9_isUsable Z.l Z.G Q S _ _ hM (xs (i + 1)) (xs (i + 2)) ) cw_L_203 im_X9_isUsable sl_X9_isUsable rfl (by decide) hM.kX dL_law_1667 (by first | decide | exact Nat.le_of_ble_eq_true rfl) (by decide) (by decide) (by omega) (by omega) (kI fun r6 m6 hp1 => ?_) kN
  have hq := hp1
  obtain ⟨hthr, S', t', hst, hC', hM', hO', hel⟩ := lfin hC hO0 hp5 hRR (hq.2.elim (fun ⟨c0, h1, T⟩ => Or.inl ⟨c0, S, ⟨h1, rfl⟩, T⟩) Or.inr) hUU
  refine h_ist_6 C dL_law_1670 ct_i ?_
  refine h_al_g C dL_law_1672 rfl rfl rfv_r ?_
  refine h_callV0 (ci := 9) (a_ := .null) C (k_X9_thrown Z.l Z.G (Q 0) _ hM'.kX) cw_L_128 im_X9_thrown sl_X9_thrown rfl (by decide) hM'.kX dL_law_1673 (by first | decide | exact Nat.le_of_ble_eq_true rfl) (by decide) (by decide) (by omega) (by omega) (kI fun r1 μ1 hp2 => ?_) kN
  obtain ⟨rfl, rfl⟩ := hp2
  refine h_iload_w C dL_law_1676 rfl ?_
  refine h_icmp_eq (tgt := 1683) C dL_law_1678 (by decide) (fun c1 => ?_) (fun c1 => absurd (hthr) c1)
  refine h_iload_w C dL_law_1683 rfl ?_
  refine h_if_ne (tgt := 1707) C dL_law_1685 (by decide) (fun cK => ?_) (fun cK => ?_)
  · refine h_goto (tgt := 2529) C dL_law_1707 (by decide) ?_
    exact h_widen (by omega) (by omega) (kk _ _ _ (hst.elim (fun e => Or.inl e) (fun ⟨_, v, h⟩ => Or.inl h.2)) hC' hM' hO' _ _ _ _)
  · refine h_al_g C dL_law_1688 rfl rfl rfv_r ?_
    refine h_iconst (v := 0) C dL_law_1689 (by decide) ?_
    refine h_lald C dL_law_1690 (by rw [hO'.1]; decide) (inb hO'.2 (vp_in_nI (n := 0) (by decide) (by decide))) rfl ?_
    refine h_iload_w C dL_law_1691 rfl ?_
    refine h_if_eq (tgt := 1700) C dL_law_1693 (by decide) (fun cB => ?_) (fun cB => ?_)
    · refine h_lconst (v := 0) C dL_law_1700 (by decide) ?_
      refine h_lcmp C dL_law_1701 ?_
      refine h_if_eq (tgt := 1707) C dL_law_1702 (by decide) (fun c4 => ?_) (fun c4 => absurd (((lg_cmp_eq _ _).mpr ((hel cK).trans (by rw [cB]; rfl)))) c4)
      refine h_goto (tgt := 2529) C dL_law_1707 (by decide) ?_
      exact h_widen (by omega) (by omega) (kk _ _ _ (hst.elim (fun e => Or.inl e) (fun ⟨_, v, h⟩ => Or.inl h.2)) hC' hM' hO' _ _ _ _)
    · refine h_lconst (v := 1) C dL_law_1696 (by decide) ?_
      refine h_goto (tgt := 1701) C dL_law_1697 (by decide) ?_
      refine h_lcmp C dL_law_1701 ?_
      refine h_if_eq (tgt := 1707) C dL_law_1702 (by decide) (fun c5 => ?_) (fun c5 => absurd (((lg_cmp_eq _ _).mpr ((hel cK).trans (by rw [hq.1.resolve_left cB]; rfl)))) c5)
      refine h_goto (tgt := 2529) C dL_law_1707 (by decide) ?_
      exact h_widen (by omega) (by omega) (kk _ _ _ (hst.elim (fun e => Or.inl e) (fun ⟨_, v, h⟩ => Or.inl h.2)) hC' hM' hO' _ _ _ _)

set_option maxRecDepth 100000 in
set_option maxHeartbeats 1000000 in
theorem bl_L_flight {Z : Zx} {P Q : Nat → Nat} {o sc L i : Nat} {xs : Row} {S : Sx} {t : Int32} {μ : Mem} {k n : Nat} (C : Cx Z RL cL_law 15 601024 7293034 610) (NN : NcZ Z) (SZ : ScZ Z sc L xs) (hk : k + 64 ≤ 601024) (hn : n + 12000 ≤ 7293034) (hL : L ≤ 2560) (hi : i + 4 < L) (hC : CRep Z.G P S μ) (hM : MRq Q S (LXo S t) μ) (hO : OS o μ) (hA : okA S) (kk : ∀ S' t' m, Sstep S S' → CRep Z.G P S' m → MRq Q S' (LXo S' t') m → OS o m → ∀ z5 z6 z7 z8 : Option Value, HW Z (k + 64) (n + 12000) 2529 [some (.ref sc), some (.ref (P 0)), some (.ref (Q 0)), some (.ref o), some (.int (nI i)), z5, z6, z7, z8] [] m) : ∀ z5 z6 z7 z8 : Option Value, HW Z k n 1710 [some (.ref sc), some (.ref (P 0)), some (.ref (Q 0)), some (.ref o), some (.int (nI i)), z5, z6, z7, z8] [] μ := by
  intro z5 z6 z7 z8
  have hRR : ∀ w m, (fun (w9 : Int64) (μ1 : Mem) => ∃ v9 : Int32, w9 = v9.toInt64 ∧ pairC (xs (i + 1)) (xs (i + 2)) = 0 ∧ μ = μ1 ∧ v9 = FLX S (cl (xs (i + 1))) (cl (xs (i + 2)))) w m → ∃ (v9 : Int32) (S1 : Sx), w = v9.toInt64 ∧ (fun v S' => v = (FLX S (cl (xs (i + 1))) (cl (xs (i + 2)))) ∧ S' = S) v9 S1 ∧ CTo Z.G P μ S1 m := fun w m ⟨v9, e, _, e2, e3⟩ => ⟨v9, S, e, ⟨e3, rfl⟩, e2 ▸ CTo.rf9 hC⟩
  have hUU : ∀ (v : Int32) (S1 : Sx) (v' : Int32) (S2 : Sx), (fun v S' => v = (FLX S (cl (xs (i + 1))) (cl (xs (i + 2)))) ∧ S' = S) v S1 → (fun v S' => v = (FLX S (cl (xs (i + 1))) (cl (xs (i + 2)))) ∧ S' = S) v' S2 → v = v' ∧ S1 = S2 := fun v S1 v' S2 h h' => ⟨h.1.trans h'.1.symm, h.2.trans h'.2.symm⟩
  refine h_al_g C dL_law_1710 rfl rfl rfv_r ?_
  refine h_al_g C dL_law_1711 rfl rfl rfv_r ?_
  refine h_iload_w C dL_law_1712 rfl ?_
  refine h_iconst (v := 1) C dL_law_1714 (by decide) ?_
  refine h_iadd C dL_law_1715 ?_
  refine h_scld C SZ dL_law_1716 (ixv (k := 1) (show i + 1 < L by omega) (by omega)) (congrArg xs (ixe (k := 1) (show i + 1 < L by omega) (by omega))) ?_
  refine h_al_g C dL_law_1717 rfl rfl rfv_r ?_
  refine h_iload_w C dL_law_1718 rfl ?_
  refine h_iconst (v := 2) C dL_law_1720 (by decide) ?_
  refine h_iadd C dL_law_1721 ?_
  refine h_scld C SZ dL_law_1722 (ixv (k := 2) (show i + 2 < L by omega) (by omega)) (congrArg xs (ixe (k := 2) (show i + 2 < L by omega) (by omega))) ?_
  refine h_al_g C dL_law_1723 rfl rfl rfv_r ?_
  refine h_callH4 C NN (k_L_flight Z.l Z.G P S _ hC (xs (i + 1)) (xs (i + 2)) o hO.1 hO.2) cwh_flight dL_law_1724 (by decide) (by decide) (by decide) (by omega) (by omega) (kI fun r5 m5 hp5 => ?_)
  obtain ⟨hM5, hO5⟩ := lmid hM hO hp5 hRR
  have hO0 := hO
  have hM := hM5
  have hO := hO5
  refine h_ist_5 C dL_law_1727 ct_i ?_
  refine h_al_g C dL_law_1729 rfl rfl rfv_r ?_
  refine h_al_g C dL_law_1730 rfl rfl rfv_r ?_
  refine h_iload_w C dL_law_1731 rfl ?_
  refine h_iconst (v := 1) C dL_law_1733 (by decide) ?_
  refine h_iadd C dL_law_1734 ?_
  refine h_scld C SZ dL_law_1735 (ixv (k := 1) (show i + 1 < L by omega) (by omega)) (congrArg xs (ixe (k := 1) (show i + 1 < L by omega) (by omega))) ?_
  refine h_al_g C dL_law_1736 rfl rfl rfv_r ?_
  refine h_iload_w C dL_law_1737 rfl ?_
  refine h_iconst (v := 2) C dL_law_1739 (by decide) ?_
  refine h_iadd C dL_law_1740 ?_
  refine h_scld C SZ dL_law_1741 (ixv (k := 2) (show i + 2 < L by omega) (by omega)) (congrArg xs (ixe (k := 2) (show i + 2 < L by omega) (by omega))) ?_
  refine h_callV2 (ci := 9) C (k_X9_flight Z.l Z.G (Q 0) _ hM.kX (FLX S) (I2S hM (t := 3) (by decide) (fun a b ha hb => hM.t3 ha hb)) _ _) cw_L_206 im_X9_flight sl_X9_flight rfl (by decide) hM.kX dL_law_1742 (by first | decide | exact Nat.le_of_ble_eq_true rfl) (by decide) (by decide) (by omega) (by omega) (kI fun r6 m6 hp1 => ?_) kN
  have hq := hp1
  obtain ⟨hthr, S', t', hst, hC', hM', hO', hel⟩ := lfin hC hO0 hp5 hRR (hq.elim (fun ⟨c0, e, e2⟩ => Or.inl ⟨c0, S, ⟨e, rfl⟩, rd_pub hM e2⟩) (fun ⟨c0, _, e2⟩ => Or.inr ⟨c0, rd_pub hM e2⟩)) hUU
  refine h_ist_6 C dL_law_1745 ct_i ?_
  refine h_al_g C dL_law_1747 rfl rfl rfv_r ?_
  refine h_callV0 (ci := 9) (a_ := .null) C (k_X9_thrown Z.l Z.G (Q 0) _ hM'.kX) cw_L_128 im_X9_thrown sl_X9_thrown rfl (by decide) hM'.kX dL_law_1748 (by first | decide | exact Nat.le_of_ble_eq_true rfl) (by decide) (by decide) (by omega) (by omega) (kI fun r1 μ1 hp2 => ?_) kN
  obtain ⟨rfl, rfl⟩ := hp2
  refine h_iload_w C dL_law_1751 rfl ?_
  refine h_icmp_eq (tgt := 1758) C dL_law_1753 (by decide) (fun c1 => ?_) (fun c1 => absurd (hthr) c1)
  refine h_iload_w C dL_law_1758 rfl ?_
  refine h_if_ne (tgt := 1775) C dL_law_1760 (by decide) (fun cK => ?_) (fun cK => ?_)
  · refine h_goto (tgt := 2529) C dL_law_1775 (by decide) ?_
    exact h_widen (by omega) (by omega) (kk _ _ _ (hst.elim (fun e => Or.inl e) (fun ⟨_, v, h⟩ => Or.inl h.2)) hC' hM' hO' _ _ _ _)
  · refine h_al_g C dL_law_1763 rfl rfl rfv_r ?_
    refine h_iconst (v := 0) C dL_law_1764 (by decide) ?_
    refine h_lald C dL_law_1765 (by rw [hO'.1]; decide) (inb hO'.2 (vp_in_nI (n := 0) (by decide) (by decide))) rfl ?_
    refine h_iload_w C dL_law_1766 rfl ?_
    refine h_i2l C dL_law_1768 ?_
    refine h_lcmp C dL_law_1769 ?_
    refine h_if_eq (tgt := 1775) C dL_law_1770 (by decide) (fun c3 => ?_) (fun c3 => absurd (((lg_cmp_eq _ _).mpr (hel cK))) c3)
    refine h_goto (tgt := 2529) C dL_law_1775 (by decide) ?_
    exact h_widen (by omega) (by omega) (kk _ _ _ (hst.elim (fun e => Or.inl e) (fun ⟨_, v, h⟩ => Or.inl h.2)) hC' hM' hO' _ _ _ _)

set_option maxRecDepth 100000 in
set_option maxHeartbeats 1000000 in
theorem bl_L_waiting {Z : Zx} {P Q : Nat → Nat} {o sc L i : Nat} {xs : Row} {S : Sx} {t : Int32} {μ : Mem} {k n : Nat} (C : Cx Z RL cL_law 15 601024 7293034 610) (NN : NcZ Z) (SZ : ScZ Z sc L xs) (hk : k + 64 ≤ 601024) (hn : n + 12000 ≤ 7293034) (hL : L ≤ 2560) (hi : i + 4 < L) (hC : CRep Z.G P S μ) (hM : MRq Q S (LXo S t) μ) (hO : OS o μ) (hA : okA S) (kk : ∀ S' t' m, Sstep S S' → CRep Z.G P S' m → MRq Q S' (LXo S' t') m → OS o m → ∀ z5 z6 z7 z8 : Option Value, HW Z (k + 64) (n + 12000) 2529 [some (.ref sc), some (.ref (P 0)), some (.ref (Q 0)), some (.ref o), some (.int (nI i)), z5, z6, z7, z8] [] m) : ∀ z5 z6 z7 z8 : Option Value, HW Z k n 1778 [some (.ref sc), some (.ref (P 0)), some (.ref (Q 0)), some (.ref o), some (.int (nI i)), z5, z6, z7, z8] [] μ := by
  intro z5 z6 z7 z8
  have hRR : ∀ w m, (fun (w9 : Int64) (μ1 : Mem) => ∃ v9 : Int32, w9 = v9.toInt64 ∧ pairC (xs (i + 1)) (xs (i + 2)) = 0 ∧ μ = μ1 ∧ v9 = nI (S.wt (cl (xs (i + 1))) (cl (xs (i + 2)))).length) w m → ∃ (v9 : Int32) (S1 : Sx), w = v9.toInt64 ∧ (fun v S' => v = (nI (S.wt (cl (xs (i + 1))) (cl (xs (i + 2)))).length) ∧ S' = S) v9 S1 ∧ CTo Z.G P μ S1 m := fun w m ⟨v9, e, _, e2, e3⟩ => ⟨v9, S, e, ⟨e3, rfl⟩, e2 ▸ CTo.rf9 hC⟩
  have hUU : ∀ (v : Int32) (S1 : Sx) (v' : Int32) (S2 : Sx), (fun v S' => v = (nI (S.wt (cl (xs (i + 1))) (cl (xs (i + 2)))).length) ∧ S' = S) v S1 → (fun v S' => v = (nI (S.wt (cl (xs (i + 1))) (cl (xs (i + 2)))).length) ∧ S' = S) v' S2 → v = v' ∧ S1 = S2 := fun v S1 v' S2 h h' => ⟨h.1.trans h'.1.symm, h.2.trans h'.2.symm⟩
  refine h_al_g C dL_law_1778 rfl rfl rfv_r ?_
  refine h_al_g C dL_law_1779 rfl rfl rfv_r ?_
  refine h_iload_w C dL_law_1780 rfl ?_
  refine h_iconst (v := 1) C dL_law_1782 (by decide) ?_
  refine h_iadd C dL_law_1783 ?_
  refine h_scld C SZ dL_law_1784 (ixv (k := 1) (show i + 1 < L by omega) (by omega)) (congrArg xs (ixe (k := 1) (show i + 1 < L by omega) (by omega))) ?_
  refine h_al_g C dL_law_1785 rfl rfl rfv_r ?_
  refine h_iload_w C dL_law_1786 rfl ?_
  refine h_iconst (v := 2) C dL_law_1788 (by decide) ?_
  refine h_iadd C dL_law_1789 ?_
  refine h_scld C SZ dL_law_1790 (ixv (k := 2) (show i + 2 < L by omega) (by omega)) (congrArg xs (ixe (k := 2) (show i + 2 < L by omega) (by omega))) ?_
  refine h_al_g C dL_law_1791 rfl rfl rfv_r ?_
  refine h_callH4 C NN (k_L_waiting Z.l Z.G P S _ hC (xs (i + 1)) (xs (i + 2)) o hO.1 hO.2) cwh_waiting dL_law_1792 (by decide) (by decide) (by decide) (by omega) (by omega) (kI fun r5 m5 hp5 => ?_)
  obtain ⟨hM5, hO5⟩ := lmid hM hO hp5 hRR
  have hO0 := hO
  have hM := hM5
  have hO := hO5
  refine h_ist_5 C dL_law_1795 ct_i ?_
  refine h_al_g C dL_law_1797 rfl rfl rfv_r ?_
  refine h_al_g C dL_law_1798 rfl rfl rfv_r ?_
  refine h_iload_w C dL_law_1799 rfl ?_
  refine h_iconst (v := 1) C dL_law_1801 (by decide) ?_
  refine h_iadd C dL_law_1802 ?_
  refine h_scld C SZ dL_law_1803 (ixv (k := 1) (show i + 1 < L by omega) (by omega)) (congrArg xs (ixe (k := 1) (show i + 1 < L by omega) (by omega))) ?_
  refine h_al_g C dL_law_1804 rfl rfl rfv_r ?_
  refine h_iload_w C dL_law_1805 rfl ?_
  refine h_iconst (v := 2) C dL_law_1807 (by decide) ?_
  refine h_iadd C dL_law_1808 ?_
  refine h_scld C SZ dL_law_1809 (ixv (k := 2) (show i + 2 < L by omega) (by omega)) (congrArg xs (ixe (k := 2) (show i + 2 < L by omega) (by omega))) ?_
  refine h_callV2 (ci := 9) C (k_X9_waiting Z.l Z.G (Q 0) _ hM.kX (fun a b => nI (S.wt a b).length) (I2S hM (t := 9) (by decide) (fun a b ha hb => hM.t9 ha hb)) _ _) cw_L_209 im_X9_waiting sl_X9_waiting rfl (by decide) hM.kX dL_law_1810 (by first | decide | exact Nat.le_of_ble_eq_true rfl) (by decide) (by decide) (by omega) (by omega) (kI fun r6 m6 hp1 => ?_) kN
  have hq := hp1
  obtain ⟨hthr, S', t', hst, hC', hM', hO', hel⟩ := lfin hC hO0 hp5 hRR (hq.elim (fun ⟨c0, e, e2⟩ => Or.inl ⟨c0, S, ⟨e, rfl⟩, rd_pub hM e2⟩) (fun ⟨c0, _, e2⟩ => Or.inr ⟨c0, rd_pub hM e2⟩)) hUU
  refine h_ist_6 C dL_law_1813 ct_i ?_
  refine h_al_g C dL_law_1815 rfl rfl rfv_r ?_
  refine h_callV0 (ci := 9) (a_ := .null) C (k_X9_thrown Z.l Z.G (Q 0) _ hM'.kX) cw_L_128 im_X9_thrown sl_X9_thrown rfl (by decide) hM'.kX dL_law_1816 (by first | decide | exact Nat.le_of_ble_eq_true rfl) (by decide) (by decide) (by omega) (by omega) (kI fun r1 μ1 hp2 => ?_) kN
  obtain ⟨rfl, rfl⟩ := hp2
  refine h_iload_w C dL_law_1819 rfl ?_
  refine h_icmp_eq (tgt := 1826) C dL_law_1821 (by decide) (fun c1 => ?_) (fun c1 => absurd (hthr) c1)
  refine h_iload_w C dL_law_1826 rfl ?_
  refine h_if_ne (tgt := 1843) C dL_law_1828 (by decide) (fun cK => ?_) (fun cK => ?_)
  · refine h_goto (tgt := 2529) C dL_law_1843 (by decide) ?_
    exact h_widen (by omega) (by omega) (kk _ _ _ (hst.elim (fun e => Or.inl e) (fun ⟨_, v, h⟩ => Or.inl h.2)) hC' hM' hO' _ _ _ _)
  · refine h_al_g C dL_law_1831 rfl rfl rfv_r ?_
    refine h_iconst (v := 0) C dL_law_1832 (by decide) ?_
    refine h_lald C dL_law_1833 (by rw [hO'.1]; decide) (inb hO'.2 (vp_in_nI (n := 0) (by decide) (by decide))) rfl ?_
    refine h_iload_w C dL_law_1834 rfl ?_
    refine h_i2l C dL_law_1836 ?_
    refine h_lcmp C dL_law_1837 ?_
    refine h_if_eq (tgt := 1843) C dL_law_1838 (by decide) (fun c3 => ?_) (fun c3 => absurd (((lg_cmp_eq _ _).mpr (hel cK))) c3)
    refine h_goto (tgt := 2529) C dL_law_1843 (by decide) ?_
    exact h_widen (by omega) (by omega) (kk _ _ _ (hst.elim (fun e => Or.inl e) (fun ⟨_, v, h⟩ => Or.inl h.2)) hC' hM' hO' _ _ _ _)

set_option maxRecDepth 100000 in
set_option maxHeartbeats 1000000 in
theorem bl_L_cookie {Z : Zx} {P Q : Nat → Nat} {o sc L i : Nat} {xs : Row} {S : Sx} {t : Int32} {μ : Mem} {k n : Nat} (C : Cx Z RL cL_law 15 601024 7293034 610) (NN : NcZ Z) (SZ : ScZ Z sc L xs) (hk : k + 64 ≤ 601024) (hn : n + 12000 ≤ 7293034) (hL : L ≤ 2560) (hi : i + 4 < L) (hC : CRep Z.G P S μ) (hM : MRq Q S (LXo S t) μ) (hO : OS o μ) (hA : okA S) (kk : ∀ S' t' m, Sstep S S' → CRep Z.G P S' m → MRq Q S' (LXo S' t') m → OS o m → ∀ z5 z6 z7 z8 : Option Value, HW Z (k + 64) (n + 12000) 2529 [some (.ref sc), some (.ref (P 0)), some (.ref (Q 0)), some (.ref o), some (.int (nI i)), z5, z6, z7, z8] [] m) : ∀ z5 z6 z7 z8 : Option Value, HW Z k n 1846 [some (.ref sc), some (.ref (P 0)), some (.ref (Q 0)), some (.ref o), some (.int (nI i)), z5, z6, z7, z8] [] μ := by
  intro z5 z6 z7 z8
  have hRR : ∀ w m, (fun (w9 : Int64) (μ1 : Mem) => ∃ v9 : Int32, w9 = v9.toInt64 ∧ pairC (xs (i + 1)) (xs (i + 2)) = 0 ∧ μ = μ1 ∧ v9 = YCK S (cl (xs (i + 1))) (cl (xs (i + 2)))) w m → ∃ (v9 : Int32) (S1 : Sx), w = v9.toInt64 ∧ (fun v S' => v = (YCK S (cl (xs (i + 1))) (cl (xs (i + 2)))) ∧ S' = S) v9 S1 ∧ CTo Z.G P μ S1 m := fun w m ⟨v9, e, _, e2, e3⟩ => ⟨v9, S, e, ⟨e3, rfl⟩, e2 ▸ CTo.rf9 hC⟩
  have hUU : ∀ (v : Int32) (S1 : Sx) (v' : Int32) (S2 : Sx), (fun v S' => v = (YCK S (cl (xs (i + 1))) (cl (xs (i + 2)))) ∧ S' = S) v S1 → (fun v S' => v = (YCK S (cl (xs (i + 1))) (cl (xs (i + 2)))) ∧ S' = S) v' S2 → v = v' ∧ S1 = S2 := fun v S1 v' S2 h h' => ⟨h.1.trans h'.1.symm, h.2.trans h'.2.symm⟩
  refine h_al_g C dL_law_1846 rfl rfl rfv_r ?_
  refine h_al_g C dL_law_1847 rfl rfl rfv_r ?_
  refine h_iload_w C dL_law_1848 rfl ?_
  refine h_iconst (v := 1) C dL_law_1850 (by decide) ?_
  refine h_iadd C dL_law_1851 ?_
  refine h_scld C SZ dL_law_1852 (ixv (k := 1) (show i + 1 < L by omega) (by omega)) (congrArg xs (ixe (k := 1) (show i + 1 < L by omega) (by omega))) ?_
  refine h_al_g C dL_law_1853 rfl rfl rfv_r ?_
  refine h_iload_w C dL_law_1854 rfl ?_
  refine h_iconst (v := 2) C dL_law_1856 (by decide) ?_
  refine h_iadd C dL_law_1857 ?_
  refine h_scld C SZ dL_law_1858 (ixv (k := 2) (show i + 2 < L by omega) (by omega)) (congrArg xs (ixe (k := 2) (show i + 2 < L by omega) (by omega))) ?_
  refine h_al_g C dL_law_1859 rfl rfl rfv_r ?_
  refine h_callH4 C NN (k_L_cookie Z.l Z.G P S _ hC (xs (i + 1)) (xs (i + 2)) o hO.1 hO.2) cwh_cookie dL_law_1860 (by decide) (by decide) (by decide) (by omega) (by omega) (kI fun r5 m5 hp5 => ?_)
  obtain ⟨hM5, hO5⟩ := lmid hM hO hp5 hRR
  have hO0 := hO
  have hM := hM5
  have hO := hO5
  refine h_ist_5 C dL_law_1863 ct_i ?_
  refine h_al_g C dL_law_1865 rfl rfl rfv_r ?_
  refine h_al_g C dL_law_1866 rfl rfl rfv_r ?_
  refine h_iload_w C dL_law_1867 rfl ?_
  refine h_iconst (v := 1) C dL_law_1869 (by decide) ?_
  refine h_iadd C dL_law_1870 ?_
  refine h_scld C SZ dL_law_1871 (ixv (k := 1) (show i + 1 < L by omega) (by omega)) (congrArg xs (ixe (k := 1) (show i + 1 < L by omega) (by omega))) ?_
  refine h_al_g C dL_law_1872 rfl rfl rfv_r ?_
  refine h_iload_w C dL_law_1873 rfl ?_
  refine h_iconst (v := 2) C dL_law_1875 (by decide) ?_
  refine h_iadd C dL_law_1876 ?_
  refine h_scld C SZ dL_law_1877 (ixv (k := 2) (show i + 2 < L by omega) (by omega)) (congrArg xs (ixe (k := 2) (show i + 2 < L by omega) (by omega))) ?_
  refine h_callV2 (ci := 9) C (k_X9_cookie Z.l Z.G Q S _ _ hM (xs (i + 1)) (xs (i + 2)) ) cw_L_212 im_X9_cookie sl_X9_cookie rfl (by decide) hM.kX dL_law_1878 (by first | decide | exact Nat.le_of_ble_eq_true rfl) (by decide) (by decide) (by omega) (by omega) (kI fun r6 m6 hp1 => ?_) kN
  have hq := hp1
  obtain ⟨hthr, S', t', hst, hC', hM', hO', hel⟩ := lfin hC hO0 hp5 hRR (hq.elim (fun ⟨c0, e, T⟩ => Or.inl ⟨c0, _, ⟨e, rfl⟩, T⟩) Or.inr) hUU
  refine h_ist_6 C dL_law_1881 ct_i ?_
  refine h_al_g C dL_law_1883 rfl rfl rfv_r ?_
  refine h_callV0 (ci := 9) (a_ := .null) C (k_X9_thrown Z.l Z.G (Q 0) _ hM'.kX) cw_L_128 im_X9_thrown sl_X9_thrown rfl (by decide) hM'.kX dL_law_1884 (by first | decide | exact Nat.le_of_ble_eq_true rfl) (by decide) (by decide) (by omega) (by omega) (kI fun r1 μ1 hp2 => ?_) kN
  obtain ⟨rfl, rfl⟩ := hp2
  refine h_iload_w C dL_law_1887 rfl ?_
  refine h_icmp_eq (tgt := 1894) C dL_law_1889 (by decide) (fun c1 => ?_) (fun c1 => absurd (hthr) c1)
  refine h_iload_w C dL_law_1894 rfl ?_
  refine h_if_ne (tgt := 1911) C dL_law_1896 (by decide) (fun cK => ?_) (fun cK => ?_)
  · refine h_goto (tgt := 2529) C dL_law_1911 (by decide) ?_
    exact h_widen (by omega) (by omega) (kk _ _ _ (hst.elim (fun e => Or.inl e) (fun ⟨_, v, h⟩ => Or.inl h.2)) hC' hM' hO' _ _ _ _)
  · refine h_al_g C dL_law_1899 rfl rfl rfv_r ?_
    refine h_iconst (v := 0) C dL_law_1900 (by decide) ?_
    refine h_lald C dL_law_1901 (by rw [hO'.1]; decide) (inb hO'.2 (vp_in_nI (n := 0) (by decide) (by decide))) rfl ?_
    refine h_iload_w C dL_law_1902 rfl ?_
    refine h_i2l C dL_law_1904 ?_
    refine h_lcmp C dL_law_1905 ?_
    refine h_if_eq (tgt := 1911) C dL_law_1906 (by decide) (fun c3 => ?_) (fun c3 => absurd (((lg_cmp_eq _ _).mpr (hel cK))) c3)
    refine h_goto (tgt := 2529) C dL_law_1911 (by decide) ?_
    exact h_widen (by omega) (by omega) (kk _ _ _ (hst.elim (fun e => Or.inl e) (fun ⟨_, v, h⟩ => Or.inl h.2)) hC' hM' hO' _ _ _ _)

set_option maxRecDepth 100000 in
set_option maxHeartbeats 1000000 in
theorem bl_L_stamp {Z : Zx} {P Q : Nat → Nat} {o sc L i : Nat} {xs : Row} {S : Sx} {t : Int32} {μ : Mem} {k n : Nat} (C : Cx Z RL cL_law 15 601024 7293034 610) (NN : NcZ Z) (SZ : ScZ Z sc L xs) (hk : k + 64 ≤ 601024) (hn : n + 12000 ≤ 7293034) (hL : L ≤ 2560) (hi : i + 4 < L) (hC : CRep Z.G P S μ) (hM : MRq Q S (LXo S t) μ) (hO : OS o μ) (hA : okA S) (kk : ∀ S' t' m, Sstep S S' → CRep Z.G P S' m → MRq Q S' (LXo S' t') m → OS o m → ∀ z5 z6 z7 z8 : Option Value, HW Z (k + 64) (n + 12000) 2529 [some (.ref sc), some (.ref (P 0)), some (.ref (Q 0)), some (.ref o), some (.int (nI i)), z5, z6, z7, z8] [] m) : ∀ z5 z6 z7 z8 : Option Value, HW Z k n 1914 [some (.ref sc), some (.ref (P 0)), some (.ref (Q 0)), some (.ref o), some (.int (nI i)), z5, z6, z7, z8] [] μ := by
  intro z5 z6 z7 z8
  refine h_al_g C dL_law_1914 rfl rfl rfv_r ?_
  refine h_al_g C dL_law_1915 rfl rfl rfv_r ?_
  refine h_iload_w C dL_law_1916 rfl ?_
  refine h_iconst (v := 1) C dL_law_1918 (by decide) ?_
  refine h_iadd C dL_law_1919 ?_
  refine h_scld C SZ dL_law_1920 (ixv (k := 1) (show i + 1 < L by omega) (by omega)) (congrArg xs (ixe (k := 1) (show i + 1 < L by omega) (by omega))) ?_
  refine h_al_g C dL_law_1921 rfl rfl rfv_r ?_
  refine h_iload_w C dL_law_1922 rfl ?_
  refine h_iconst (v := 2) C dL_law_1924 (by decide) ?_
  refine h_iadd C dL_law_1925 ?_
  refine h_scld C SZ dL_law_1926 (ixv (k := 2) (show i + 2 < L by omega) (by omega)) (congrArg xs (ixe (k := 2) (show i + 2 < L by omega) (by omega))) ?_
  refine h_al_g C dL_law_1927 rfl rfl rfv_r ?_
  refine h_iload_w C dL_law_1928 rfl ?_
  refine h_iconst (v := 3) C dL_law_1930 (by decide) ?_
  refine h_iadd C dL_law_1931 ?_
  refine h_scld C SZ dL_law_1932 (ixv (k := 3) (show i + 3 < L by omega) (by omega)) (congrArg xs (ixe (k := 3) (show i + 3 < L by omega) (by omega))) ?_
  refine h_if_eq (tgt := 1940) C dL_law_1933 (by decide) (fun cZ => ?_) (fun cZ => ?_)
  · refine h_iconst (v := 0) C dL_law_1940 (by decide) ?_
    have hz9 : (0 : Int32) = 0 ∨ (0 : Int32) = 1 := Or.inl rfl
    have hRR : ∀ w m, (fun (w9 : Int64) (μ1 : Mem) => ∃ v9 : Int32, w9 = v9.toInt64 ∧ pairC (xs (i + 1)) (xs (i + 2)) = 0 ∧ μ = μ1 ∧ v9 = if ¬ 0 = 0 then S.lf 2 (cl (xs (i + 1))) (cl (xs (i + 2))) else S.lf 1 (cl (xs (i + 1))) (cl (xs (i + 2)))) w m → ∃ (v9 : Int32) (S1 : Sx), w = v9.toInt64 ∧ (fun v S' => v = (if ¬ 0 = 0 then S.lf 2 (cl (xs (i + 1))) (cl (xs (i + 2))) else S.lf 1 (cl (xs (i + 1))) (cl (xs (i + 2)))) ∧ S' = S) v9 S1 ∧ CTo Z.G P μ S1 m := fun w m ⟨v9, e, _, e2, e3⟩ => ⟨v9, S, e, ⟨e3, rfl⟩, e2 ▸ CTo.rf9 hC⟩
    have hUU : ∀ (v : Int32) (S1 : Sx) (v' : Int32) (S2 : Sx), (fun v S' => v = (if ¬ 0 = 0 then S.lf 2 (cl (xs (i + 1))) (cl (xs (i + 2))) else S.lf 1 (cl (xs (i + 1))) (cl (xs (i + 2)))) ∧ S' = S) v S1 → (fun v S' => v = (if ¬ 0 = 0 then S.lf 2 (cl (xs (i + 1))) (cl (xs (i + 2))) else S.lf 1 (cl (xs (i + 1))) (cl (xs (i + 2)))) ∧ S' = S) v' S2 → v = v' ∧ S1 = S2 := fun v S1 v' S2 h h' => ⟨h.1.trans h'.1.symm, h.2.trans h'.2.symm⟩
    refine h_al_g C dL_law_1941 rfl rfl rfv_r ?_
    refine h_callH5 C NN (k_L_stamp Z.l Z.G P S _ hC (xs (i + 1)) (xs (i + 2)) 0 o hO.1 hO.2) cwh_stamp dL_law_1942 (by decide) (by decide) (by decide) (by omega) (by omega) (kI fun r5 m5 hp5 => ?_)
    obtain ⟨hM5, hO5⟩ := lmid hM hO hp5 hRR
    have hO0 := hO
    have hM := hM5
    have hO := hO5
    refine h_ist_5 C dL_law_1945 ct_i ?_
    refine h_al_g C dL_law_1947 rfl rfl rfv_r ?_
    refine h_al_g C dL_law_1948 rfl rfl rfv_r ?_
    refine h_iload_w C dL_law_1949 rfl ?_
    refine h_iconst (v := 1) C dL_law_1951 (by decide) ?_
    refine h_iadd C dL_law_1952 ?_
    refine h_scld C SZ dL_law_1953 (ixv (k := 1) (show i + 1 < L by omega) (by omega)) (congrArg xs (ixe (k := 1) (show i + 1 < L by omega) (by omega))) ?_
    refine h_al_g C dL_law_1954 rfl rfl rfv_r ?_
    refine h_iload_w C dL_law_1955 rfl ?_
    refine h_iconst (v := 2) C dL_law_1957 (by decide) ?_
    refine h_iadd C dL_law_1958 ?_
    refine h_scld C SZ dL_law_1959 (ixv (k := 2) (show i + 2 < L by omega) (by omega)) (congrArg xs (ixe (k := 2) (show i + 2 < L by omega) (by omega))) ?_
    refine h_al_g C dL_law_1960 rfl rfl rfv_r ?_
    refine h_iload_w C dL_law_1961 rfl ?_
    refine h_iconst (v := 3) C dL_law_1963 (by decide) ?_
    refine h_iadd C dL_law_1964 ?_
    refine h_scld C SZ dL_law_1965 (ixv (k := 3) (show i + 3 < L by omega) (by omega)) (congrArg xs (ixe (k := 3) (show i + 3 < L by omega) (by omega))) ?_
    refine h_if_eq (tgt := 1973) C dL_law_1966 (by decide) (fun c2 => ?_) (fun c2 => absurd (cZ) c2)
    refine h_iconst (v := 0) C dL_law_1973 (by decide) ?_
    refine h_callV3 (ci := 9) C (k_X9_stamp Z.l Z.G Q S _ _ hM (xs (i + 1)) (xs (i + 2)) 0 ) cw_L_216 im_X9_stamp sl_X9_stamp rfl (by decide) hM.kX dL_law_1974 (by first | decide | exact Nat.le_of_ble_eq_true rfl) (by decide) (by decide) (by omega) (by omega) (kI fun r6 m6 hp1 => ?_) kN
    have hq := hp1
    obtain ⟨hthr, S', t', hst, hC', hM', hO', hel⟩ := lfin hC hO0 hp5 hRR (hq.elim (fun ⟨c0, e, T⟩ => Or.inl ⟨c0, _, ⟨e, rfl⟩, T⟩) Or.inr) hUU
    refine h_ist_6 C dL_law_1977 ct_i ?_
    refine h_al_g C dL_law_1979 rfl rfl rfv_r ?_
    refine h_callV0 (ci := 9) (a_ := .null) C (k_X9_thrown Z.l Z.G (Q 0) _ hM'.kX) cw_L_128 im_X9_thrown sl_X9_thrown rfl (by decide) hM'.kX dL_law_1980 (by first | decide | exact Nat.le_of_ble_eq_true rfl) (by decide) (by decide) (by omega) (by omega) (kI fun r1 μ1 hp2 => ?_) kN
    obtain ⟨rfl, rfl⟩ := hp2
    refine h_iload_w C dL_law_1983 rfl ?_
    refine h_icmp_eq (tgt := 1990) C dL_law_1985 (by decide) (fun c3 => ?_) (fun c3 => absurd (hthr) c3)
    refine h_iload_w C dL_law_1990 rfl ?_
    refine h_if_ne (tgt := 2007) C dL_law_1992 (by decide) (fun cK => ?_) (fun cK => ?_)
    · refine h_goto (tgt := 2529) C dL_law_2007 (by decide) ?_
      exact h_widen (by omega) (by omega) (kk _ _ _ (hst.elim (fun e => Or.inl e) (fun ⟨_, v, h⟩ => Or.inl h.2)) hC' hM' hO' _ _ _ _)
    · refine h_al_g C dL_law_1995 rfl rfl rfv_r ?_
      refine h_iconst (v := 0) C dL_law_1996 (by decide) ?_
      refine h_lald C dL_law_1997 (by rw [hO'.1]; decide) (inb hO'.2 (vp_in_nI (n := 0) (by decide) (by decide))) rfl ?_
      refine h_iload_w C dL_law_1998 rfl ?_
      refine h_i2l C dL_law_2000 ?_
      refine h_lcmp C dL_law_2001 ?_
      refine h_if_eq (tgt := 2007) C dL_law_2002 (by decide) (fun c5 => ?_) (fun c5 => absurd (((lg_cmp_eq _ _).mpr (hel cK))) c5)
      refine h_goto (tgt := 2529) C dL_law_2007 (by decide) ?_
      exact h_widen (by omega) (by omega) (kk _ _ _ (hst.elim (fun e => Or.inl e) (fun ⟨_, v, h⟩ => Or.inl h.2)) hC' hM' hO' _ _ _ _)
  · refine h_iconst (v := 1) C dL_law_1936 (by decide) ?_
    refine h_goto (tgt := 1941) C dL_law_1937 (by decide) ?_
    have hz9 : (1 : Int32) = 0 ∨ (1 : Int32) = 1 := Or.inr rfl
    have hRR : ∀ w m, (fun (w9 : Int64) (μ1 : Mem) => ∃ v9 : Int32, w9 = v9.toInt64 ∧ pairC (xs (i + 1)) (xs (i + 2)) = 0 ∧ μ = μ1 ∧ v9 = if ¬ 1 = 0 then S.lf 2 (cl (xs (i + 1))) (cl (xs (i + 2))) else S.lf 1 (cl (xs (i + 1))) (cl (xs (i + 2)))) w m → ∃ (v9 : Int32) (S1 : Sx), w = v9.toInt64 ∧ (fun v S' => v = (if ¬ 1 = 0 then S.lf 2 (cl (xs (i + 1))) (cl (xs (i + 2))) else S.lf 1 (cl (xs (i + 1))) (cl (xs (i + 2)))) ∧ S' = S) v9 S1 ∧ CTo Z.G P μ S1 m := fun w m ⟨v9, e, _, e2, e3⟩ => ⟨v9, S, e, ⟨e3, rfl⟩, e2 ▸ CTo.rf9 hC⟩
    have hUU : ∀ (v : Int32) (S1 : Sx) (v' : Int32) (S2 : Sx), (fun v S' => v = (if ¬ 1 = 0 then S.lf 2 (cl (xs (i + 1))) (cl (xs (i + 2))) else S.lf 1 (cl (xs (i + 1))) (cl (xs (i + 2)))) ∧ S' = S) v S1 → (fun v S' => v = (if ¬ 1 = 0 then S.lf 2 (cl (xs (i + 1))) (cl (xs (i + 2))) else S.lf 1 (cl (xs (i + 1))) (cl (xs (i + 2)))) ∧ S' = S) v' S2 → v = v' ∧ S1 = S2 := fun v S1 v' S2 h h' => ⟨h.1.trans h'.1.symm, h.2.trans h'.2.symm⟩
    refine h_al_g C dL_law_1941 rfl rfl rfv_r ?_
    refine h_callH5 C NN (k_L_stamp Z.l Z.G P S _ hC (xs (i + 1)) (xs (i + 2)) 1 o hO.1 hO.2) cwh_stamp dL_law_1942 (by decide) (by decide) (by decide) (by omega) (by omega) (kI fun r5 m5 hp5 => ?_)
    obtain ⟨hM5, hO5⟩ := lmid hM hO hp5 hRR
    have hO0 := hO
    have hM := hM5
    have hO := hO5
    refine h_ist_5 C dL_law_1945 ct_i ?_
    refine h_al_g C dL_law_1947 rfl rfl rfv_r ?_
    refine h_al_g C dL_law_1948 rfl rfl rfv_r ?_
    refine h_iload_w C dL_law_1949 rfl ?_
    refine h_iconst (v := 1) C dL_law_1951 (by decide) ?_
    refine h_iadd C dL_law_1952 ?_
    refine h_scld C SZ dL_law_1953 (ixv (k := 1) (show i + 1 < L by omega) (by omega)) (congrArg xs (ixe (k := 1) (show i + 1 < L by omega) (by omega))) ?_
    refine h_al_g C dL_law_1954 rfl rfl rfv_r ?_
    refine h_iload_w C dL_law_1955 rfl ?_
    refine h_iconst (v := 2) C dL_law_1957 (by decide) ?_
    refine h_iadd C dL_law_1958 ?_
    refine h_scld C SZ dL_law_1959 (ixv (k := 2) (show i + 2 < L by omega) (by omega)) (congrArg xs (ixe (k := 2) (show i + 2 < L by omega) (by omega))) ?_
    refine h_al_g C dL_law_1960 rfl rfl rfv_r ?_
    refine h_iload_w C dL_law_1961 rfl ?_
    refine h_iconst (v := 3) C dL_law_1963 (by decide) ?_
    refine h_iadd C dL_law_1964 ?_
    refine h_scld C SZ dL_law_1965 (ixv (k := 3) (show i + 3 < L by omega) (by omega)) (congrArg xs (ixe (k := 3) (show i + 3 < L by omega) (by omega))) ?_
    refine h_if_eq (tgt := 1973) C dL_law_1966 (by decide) (fun c6 => absurd c6 (cZ)) (fun c6 => ?_)
    refine h_iconst (v := 1) C dL_law_1969 (by decide) ?_
    refine h_goto (tgt := 1974) C dL_law_1970 (by decide) ?_
    refine h_callV3 (ci := 9) C (k_X9_stamp Z.l Z.G Q S _ _ hM (xs (i + 1)) (xs (i + 2)) 1 ) cw_L_216 im_X9_stamp sl_X9_stamp rfl (by decide) hM.kX dL_law_1974 (by first | decide | exact Nat.le_of_ble_eq_true rfl) (by decide) (by decide) (by omega) (by omega) (kI fun r6 m6 hp3 => ?_) kN
    have hq := hp3
    obtain ⟨hthr, S', t', hst, hC', hM', hO', hel⟩ := lfin hC hO0 hp5 hRR (hq.elim (fun ⟨c0, e, T⟩ => Or.inl ⟨c0, _, ⟨e, rfl⟩, T⟩) Or.inr) hUU
    refine h_ist_6 C dL_law_1977 ct_i ?_
    refine h_al_g C dL_law_1979 rfl rfl rfv_r ?_
    refine h_callV0 (ci := 9) (a_ := .null) C (k_X9_thrown Z.l Z.G (Q 0) _ hM'.kX) cw_L_128 im_X9_thrown sl_X9_thrown rfl (by decide) hM'.kX dL_law_1980 (by first | decide | exact Nat.le_of_ble_eq_true rfl) (by decide) (by decide) (by omega) (by omega) (kI fun r2 μ2 hp4 => ?_) kN
    obtain ⟨rfl, rfl⟩ := hp4
    refine h_iload_w C dL_law_1983 rfl ?_
    refine h_icmp_eq (tgt := 1990) C dL_law_1985 (by decide) (fun c7 => ?_) (fun c7 => absurd (hthr) c7)
    refine h_iload_w C dL_law_1990 rfl ?_
    refine h_if_ne (tgt := 2007) C dL_law_1992 (by decide) (fun cK => ?_) (fun cK => ?_)
    · refine h_goto (tgt := 2529) C dL_law_2007 (by decide) ?_
      exact h_widen (by omega) (by omega) (kk _ _ _ (hst.elim (fun e => Or.inl e) (fun ⟨_, v, h⟩ => Or.inl h.2)) hC' hM' hO' _ _ _ _)
    · refine h_al_g C dL_law_1995 rfl rfl rfv_r ?_
      refine h_iconst (v := 0) C dL_law_1996 (by decide) ?_
      refine h_lald C dL_law_1997 (by rw [hO'.1]; decide) (inb hO'.2 (vp_in_nI (n := 0) (by decide) (by decide))) rfl ?_
      refine h_iload_w C dL_law_1998 rfl ?_
      refine h_i2l C dL_law_2000 ?_
      refine h_lcmp C dL_law_2001 ?_
      refine h_if_eq (tgt := 2007) C dL_law_2002 (by decide) (fun c9 => ?_) (fun c9 => absurd (((lg_cmp_eq _ _).mpr (hel cK))) c9)
      refine h_goto (tgt := 2529) C dL_law_2007 (by decide) ?_
      exact h_widen (by omega) (by omega) (kk _ _ _ (hst.elim (fun e => Or.inl e) (fun ⟨_, v, h⟩ => Or.inl h.2)) hC' hM' hO' _ _ _ _)

set_option maxRecDepth 100000 in
set_option maxHeartbeats 1000000 in
theorem bl_L_outs {Z : Zx} {P Q : Nat → Nat} {o sc L i : Nat} {xs : Row} {S : Sx} {t : Int32} {μ : Mem} {k n : Nat} (C : Cx Z RL cL_law 15 601024 7293034 610) (NN : NcZ Z) (SZ : ScZ Z sc L xs) (hk : k + 64 ≤ 601024) (hn : n + 12000 ≤ 7293034) (hL : L ≤ 2560) (hi : i + 4 < L) (hC : CRep Z.G P S μ) (hM : MRq Q S (LXo S t) μ) (hO : OS o μ) (hA : okA S) (kk : ∀ S' t' m, Sstep S S' → CRep Z.G P S' m → MRq Q S' (LXo S' t') m → OS o m → ∀ z5 z6 z7 z8 : Option Value, HW Z (k + 64) (n + 12000) 2529 [some (.ref sc), some (.ref (P 0)), some (.ref (Q 0)), some (.ref o), some (.int (nI i)), z5, z6, z7, z8] [] m) : ∀ z5 z6 z7 z8 : Option Value, HW Z k n 2010 [some (.ref sc), some (.ref (P 0)), some (.ref (Q 0)), some (.ref o), some (.int (nI i)), z5, z6, z7, z8] [] μ := by
  intro z5 z6 z7 z8
  have hRR : ∀ w m, (fun (w9 : Int64) (μ1 : Mem) => ∃ v9 : Int32, w9 = v9.toInt64 ∧ endC (xs (i + 1)) = 0 ∧ μ = μ1 ∧ v9 = nI (OUT (cl (xs (i + 1))) S.ou).length) w m → ∃ (v9 : Int32) (S1 : Sx), w = v9.toInt64 ∧ (fun v S' => v = (nI (OUT (cl (xs (i + 1))) S.ou).length) ∧ S' = S) v9 S1 ∧ CTo Z.G P μ S1 m := fun w m ⟨v9, e, _, e2, e3⟩ => ⟨v9, S, e, ⟨e3, rfl⟩, e2 ▸ CTo.rf9 hC⟩
  have hUU : ∀ (v : Int32) (S1 : Sx) (v' : Int32) (S2 : Sx), (fun v S' => v = (nI (OUT (cl (xs (i + 1))) S.ou).length) ∧ S' = S) v S1 → (fun v S' => v = (nI (OUT (cl (xs (i + 1))) S.ou).length) ∧ S' = S) v' S2 → v = v' ∧ S1 = S2 := fun v S1 v' S2 h h' => ⟨h.1.trans h'.1.symm, h.2.trans h'.2.symm⟩
  refine h_al_g C dL_law_2010 rfl rfl rfv_r ?_
  refine h_al_g C dL_law_2011 rfl rfl rfv_r ?_
  refine h_iload_w C dL_law_2012 rfl ?_
  refine h_iconst (v := 1) C dL_law_2014 (by decide) ?_
  refine h_iadd C dL_law_2015 ?_
  refine h_scld C SZ dL_law_2016 (ixv (k := 1) (show i + 1 < L by omega) (by omega)) (congrArg xs (ixe (k := 1) (show i + 1 < L by omega) (by omega))) ?_
  refine h_al_g C dL_law_2017 rfl rfl rfv_r ?_
  refine h_callH3 C NN (k_L_outs Z.l Z.G P S _ hC (xs (i + 1)) o hO.1 hO.2) cwh_outs dL_law_2018 (by decide) (by decide) (by decide) (by omega) (by omega) (kI fun r5 m5 hp5 => ?_)
  obtain ⟨hM5, hO5⟩ := lmid hM hO hp5 hRR
  have hO0 := hO
  have hM := hM5
  have hO := hO5
  refine h_ist_5 C dL_law_2021 ct_i ?_
  refine h_al_g C dL_law_2023 rfl rfl rfv_r ?_
  refine h_al_g C dL_law_2024 rfl rfl rfv_r ?_
  refine h_iload_w C dL_law_2025 rfl ?_
  refine h_iconst (v := 1) C dL_law_2027 (by decide) ?_
  refine h_iadd C dL_law_2028 ?_
  refine h_scld C SZ dL_law_2029 (ixv (k := 1) (show i + 1 < L by omega) (by omega)) (congrArg xs (ixe (k := 1) (show i + 1 < L by omega) (by omega))) ?_
  refine h_callV1 (ci := 9) C (k_X9_outs Z.l Z.G (Q 0) _ hM.kX (fun e => nI (OUT e S.ou).length) ⟨Q 3, hM.fA (i := 3) (by decide), hM.neQ (by decide) (by decide) (by decide), hM.k11 (by decide), hM.ln3 (by decide), fun i hi => hM.a3 hi⟩ _) cw_L_219 im_X9_outs sl_X9_outs rfl (by decide) hM.kX dL_law_2030 (by first | decide | exact Nat.le_of_ble_eq_true rfl) (by decide) (by decide) (by omega) (by omega) (kI fun r6 m6 hp1 => ?_) kN
  have hq := hp1
  obtain ⟨hthr, S', t', hst, hC', hM', hO', hel⟩ := lfin hC hO0 hp5 hRR (hq.elim (fun ⟨c0, e, e2⟩ => Or.inl ⟨c0, S, ⟨e, rfl⟩, rd_pub hM e2⟩) (fun ⟨c0, _, e2⟩ => Or.inr ⟨c0, rd_pub hM e2⟩)) hUU
  refine h_ist_6 C dL_law_2033 ct_i ?_
  refine h_al_g C dL_law_2035 rfl rfl rfv_r ?_
  refine h_callV0 (ci := 9) (a_ := .null) C (k_X9_thrown Z.l Z.G (Q 0) _ hM'.kX) cw_L_128 im_X9_thrown sl_X9_thrown rfl (by decide) hM'.kX dL_law_2036 (by first | decide | exact Nat.le_of_ble_eq_true rfl) (by decide) (by decide) (by omega) (by omega) (kI fun r1 μ1 hp2 => ?_) kN
  obtain ⟨rfl, rfl⟩ := hp2
  refine h_iload_w C dL_law_2039 rfl ?_
  refine h_icmp_eq (tgt := 2046) C dL_law_2041 (by decide) (fun c1 => ?_) (fun c1 => absurd (hthr) c1)
  refine h_iload_w C dL_law_2046 rfl ?_
  refine h_if_ne (tgt := 2063) C dL_law_2048 (by decide) (fun cK => ?_) (fun cK => ?_)
  · refine h_goto (tgt := 2529) C dL_law_2063 (by decide) ?_
    exact h_widen (by omega) (by omega) (kk _ _ _ (hst.elim (fun e => Or.inl e) (fun ⟨_, v, h⟩ => Or.inl h.2)) hC' hM' hO' _ _ _ _)
  · refine h_al_g C dL_law_2051 rfl rfl rfv_r ?_
    refine h_iconst (v := 0) C dL_law_2052 (by decide) ?_
    refine h_lald C dL_law_2053 (by rw [hO'.1]; decide) (inb hO'.2 (vp_in_nI (n := 0) (by decide) (by decide))) rfl ?_
    refine h_iload_w C dL_law_2054 rfl ?_
    refine h_i2l C dL_law_2056 ?_
    refine h_lcmp C dL_law_2057 ?_
    refine h_if_eq (tgt := 2063) C dL_law_2058 (by decide) (fun c3 => ?_) (fun c3 => absurd (((lg_cmp_eq _ _).mpr (hel cK))) c3)
    refine h_goto (tgt := 2529) C dL_law_2063 (by decide) ?_
    exact h_widen (by omega) (by omega) (kk _ _ _ (hst.elim (fun e => Or.inl e) (fun ⟨_, v, h⟩ => Or.inl h.2)) hC' hM' hO' _ _ _ _)

set_option maxRecDepth 100000 in
set_option maxHeartbeats 1000000 in
theorem bl_L_out {Z : Zx} {P Q : Nat → Nat} {o sc L i : Nat} {xs : Row} {S : Sx} {t : Int32} {μ : Mem} {k n : Nat} (C : Cx Z RL cL_law 15 601024 7293034 610) (NN : NcZ Z) (SZ : ScZ Z sc L xs) (hk : k + 64 ≤ 601024) (hn : n + 12000 ≤ 7293034) (hL : L ≤ 2560) (hi : i + 4 < L) (hC : CRep Z.G P S μ) (hM : MRq Q S (LXo S t) μ) (hO : OS o μ) (hA : okA S) (kk : ∀ S' t' m, Sstep S S' → CRep Z.G P S' m → MRq Q S' (LXo S' t') m → OS o m → ∀ z5 z6 z7 z8 : Option Value, HW Z (k + 64) (n + 12000) 2529 [some (.ref sc), some (.ref (P 0)), some (.ref (Q 0)), some (.ref o), some (.int (nI i)), z5, z6, z7, z8] [] m) : ∀ z5 z6 z7 z8 : Option Value, HW Z k n 2066 [some (.ref sc), some (.ref (P 0)), some (.ref (Q 0)), some (.ref o), some (.int (nI i)), z5, z6, z7, z8] [] μ := by
  intro z5 z6 z7 z8
  have hRR : ∀ w m, (fun (w9 : Int64) (μ1 : Mem) => ∃ v9 : Int32, w9 = v9.toInt64 ∧ outC S (xs (i + 1)) (xs (i + 2)) (xs (i + 3)) = 0 ∧ μ = μ1 ∧ v9 = OUTr S (cl (xs (i + 1))) (cl (xs (i + 2))) (1 + cl (xs (i + 3)))) w m → ∃ (v9 : Int32) (S1 : Sx), w = v9.toInt64 ∧ (fun v S' => v = (OUTr S (cl (xs (i + 1))) (cl (xs (i + 2))) (1 + cl (xs (i + 3)))) ∧ S' = S) v9 S1 ∧ CTo Z.G P μ S1 m := fun w m ⟨v9, e, _, e2, e3⟩ => ⟨v9, S, e, ⟨e3, rfl⟩, e2 ▸ CTo.rf9 hC⟩
  have hUU : ∀ (v : Int32) (S1 : Sx) (v' : Int32) (S2 : Sx), (fun v S' => v = (OUTr S (cl (xs (i + 1))) (cl (xs (i + 2))) (1 + cl (xs (i + 3)))) ∧ S' = S) v S1 → (fun v S' => v = (OUTr S (cl (xs (i + 1))) (cl (xs (i + 2))) (1 + cl (xs (i + 3)))) ∧ S' = S) v' S2 → v = v' ∧ S1 = S2 := fun v S1 v' S2 h h' => ⟨h.1.trans h'.1.symm, h.2.trans h'.2.symm⟩
  refine h_al_g C dL_law_2066 rfl rfl rfv_r ?_
  refine h_al_g C dL_law_2067 rfl rfl rfv_r ?_
  refine h_iload_w C dL_law_2068 rfl ?_
  refine h_iconst (v := 1) C dL_law_2070 (by decide) ?_
  refine h_iadd C dL_law_2071 ?_
  refine h_scld C SZ dL_law_2072 (ixv (k := 1) (show i + 1 < L by omega) (by omega)) (congrArg xs (ixe (k := 1) (show i + 1 < L by omega) (by omega))) ?_
  refine h_al_g C dL_law_2073 rfl rfl rfv_r ?_
  refine h_iload_w C dL_law_2074 rfl ?_
  refine h_iconst (v := 2) C dL_law_2076 (by decide) ?_
  refine h_iadd C dL_law_2077 ?_
  refine h_scld C SZ dL_law_2078 (ixv (k := 2) (show i + 2 < L by omega) (by omega)) (congrArg xs (ixe (k := 2) (show i + 2 < L by omega) (by omega))) ?_
  refine h_al_g C dL_law_2079 rfl rfl rfv_r ?_
  refine h_iload_w C dL_law_2080 rfl ?_
  refine h_iconst (v := 3) C dL_law_2082 (by decide) ?_
  refine h_iadd C dL_law_2083 ?_
  refine h_scld C SZ dL_law_2084 (ixv (k := 3) (show i + 3 < L by omega) (by omega)) (congrArg xs (ixe (k := 3) (show i + 3 < L by omega) (by omega))) ?_
  refine h_al_g C dL_law_2085 rfl rfl rfv_r ?_
  refine h_callH5 C NN (k_L_out Z.l Z.G P S _ hC (xs (i + 1)) (xs (i + 2)) (xs (i + 3)) o hO.1 hO.2) cwh_out dL_law_2086 (by decide) (by decide) (by decide) (by omega) (by omega) (kI fun r5 m5 hp5 => ?_)
  obtain ⟨hM5, hO5⟩ := lmid hM hO hp5 hRR
  have hO0 := hO
  have hM := hM5
  have hO := hO5
  refine h_ist_5 C dL_law_2089 ct_i ?_
  refine h_al_g C dL_law_2091 rfl rfl rfv_r ?_
  refine h_al_g C dL_law_2092 rfl rfl rfv_r ?_
  refine h_iload_w C dL_law_2093 rfl ?_
  refine h_iconst (v := 1) C dL_law_2095 (by decide) ?_
  refine h_iadd C dL_law_2096 ?_
  refine h_scld C SZ dL_law_2097 (ixv (k := 1) (show i + 1 < L by omega) (by omega)) (congrArg xs (ixe (k := 1) (show i + 1 < L by omega) (by omega))) ?_
  refine h_al_g C dL_law_2098 rfl rfl rfv_r ?_
  refine h_iload_w C dL_law_2099 rfl ?_
  refine h_iconst (v := 2) C dL_law_2101 (by decide) ?_
  refine h_iadd C dL_law_2102 ?_
  refine h_scld C SZ dL_law_2103 (ixv (k := 2) (show i + 2 < L by omega) (by omega)) (congrArg xs (ixe (k := 2) (show i + 2 < L by omega) (by omega))) ?_
  refine h_al_g C dL_law_2104 rfl rfl rfv_r ?_
  refine h_iload_w C dL_law_2105 rfl ?_
  refine h_iconst (v := 3) C dL_law_2107 (by decide) ?_
  refine h_iadd C dL_law_2108 ?_
  refine h_scld C SZ dL_law_2109 (ixv (k := 3) (show i + 3 < L by omega) (by omega)) (congrArg xs (ixe (k := 3) (show i + 3 < L by omega) (by omega))) ?_
  refine h_callV3 (ci := 9) C (k_X9_out Z.l Z.G Q S _ _ hM (xs (i + 1)) (xs (i + 2)) (xs (i + 3)) ) cw_L_222 im_X9_out sl_X9_out rfl (by decide) hM.kX dL_law_2110 (by first | decide | exact Nat.le_of_ble_eq_true rfl) (by decide) (by decide) (by omega) (by omega) (kI fun r6 m6 hp1 => ?_) kN
  have hq := hp1
  obtain ⟨hthr, S', t', hst, hC', hM', hO', hel⟩ := lfin hC hO0 hp5 hRR (hq.elim (fun ⟨c0, e, T⟩ => Or.inl ⟨c0, _, ⟨e, rfl⟩, T⟩) Or.inr) hUU
  refine h_ist_6 C dL_law_2113 ct_i ?_
  refine h_al_g C dL_law_2115 rfl rfl rfv_r ?_
  refine h_callV0 (ci := 9) (a_ := .null) C (k_X9_thrown Z.l Z.G (Q 0) _ hM'.kX) cw_L_128 im_X9_thrown sl_X9_thrown rfl (by decide) hM'.kX dL_law_2116 (by first | decide | exact Nat.le_of_ble_eq_true rfl) (by decide) (by decide) (by omega) (by omega) (kI fun r1 μ1 hp2 => ?_) kN
  obtain ⟨rfl, rfl⟩ := hp2
  refine h_iload_w C dL_law_2119 rfl ?_
  refine h_icmp_eq (tgt := 2126) C dL_law_2121 (by decide) (fun c1 => ?_) (fun c1 => absurd (hthr) c1)
  refine h_iload_w C dL_law_2126 rfl ?_
  refine h_if_ne (tgt := 2143) C dL_law_2128 (by decide) (fun cK => ?_) (fun cK => ?_)
  · refine h_goto (tgt := 2529) C dL_law_2143 (by decide) ?_
    exact h_widen (by omega) (by omega) (kk _ _ _ (hst.elim (fun e => Or.inl e) (fun ⟨_, v, h⟩ => Or.inl h.2)) hC' hM' hO' _ _ _ _)
  · refine h_al_g C dL_law_2131 rfl rfl rfv_r ?_
    refine h_iconst (v := 0) C dL_law_2132 (by decide) ?_
    refine h_lald C dL_law_2133 (by rw [hO'.1]; decide) (inb hO'.2 (vp_in_nI (n := 0) (by decide) (by decide))) rfl ?_
    refine h_iload_w C dL_law_2134 rfl ?_
    refine h_i2l C dL_law_2136 ?_
    refine h_lcmp C dL_law_2137 ?_
    refine h_if_eq (tgt := 2143) C dL_law_2138 (by decide) (fun c3 => ?_) (fun c3 => absurd (((lg_cmp_eq _ _).mpr (hel cK))) c3)
    refine h_goto (tgt := 2529) C dL_law_2143 (by decide) ?_
    exact h_widen (by omega) (by omega) (kk _ _ _ (hst.elim (fun e => Or.inl e) (fun ⟨_, v, h⟩ => Or.inl h.2)) hC' hM' hO' _ _ _ _)

set_option maxRecDepth 100000 in
set_option maxHeartbeats 1000000 in
theorem bl_L_drops {Z : Zx} {P Q : Nat → Nat} {o sc L i : Nat} {xs : Row} {S : Sx} {t : Int32} {μ : Mem} {k n : Nat} (C : Cx Z RL cL_law 15 601024 7293034 610) (NN : NcZ Z) (SZ : ScZ Z sc L xs) (hk : k + 64 ≤ 601024) (hn : n + 12000 ≤ 7293034) (hL : L ≤ 2560) (hi : i + 4 < L) (hC : CRep Z.G P S μ) (hM : MRq Q S (LXo S t) μ) (hO : OS o μ) (hA : okA S) (kk : ∀ S' t' m, Sstep S S' → CRep Z.G P S' m → MRq Q S' (LXo S' t') m → OS o m → ∀ z5 z6 z7 z8 : Option Value, HW Z (k + 64) (n + 12000) 2529 [some (.ref sc), some (.ref (P 0)), some (.ref (Q 0)), some (.ref o), some (.int (nI i)), z5, z6, z7, z8] [] m) : ∀ z5 z6 z7 z8 : Option Value, HW Z k n 2146 [some (.ref sc), some (.ref (P 0)), some (.ref (Q 0)), some (.ref o), some (.int (nI i)), z5, z6, z7, z8] [] μ := by
  intro z5 z6 z7 z8
  have hRR : ∀ w m, (fun (w9 : Int64) (μ1 : Mem) => ∃ v9 : Int32, w9 = v9.toInt64 ∧ dropC (xs (i + 1)) = 0 ∧ μ = μ1 ∧ v9 = S.cd (cl ((xs (i + 1)) - (-7)))) w m → ∃ (v9 : Int32) (S1 : Sx), w = v9.toInt64 ∧ (fun v S' => v = (S.cd (cl ((xs (i + 1)) - (-7)))) ∧ S' = S) v9 S1 ∧ CTo Z.G P μ S1 m := fun w m ⟨v9, e, _, e2, e3⟩ => ⟨v9, S, e, ⟨e3, rfl⟩, e2 ▸ CTo.rf9 hC⟩
  have hUU : ∀ (v : Int32) (S1 : Sx) (v' : Int32) (S2 : Sx), (fun v S' => v = (S.cd (cl ((xs (i + 1)) - (-7)))) ∧ S' = S) v S1 → (fun v S' => v = (S.cd (cl ((xs (i + 1)) - (-7)))) ∧ S' = S) v' S2 → v = v' ∧ S1 = S2 := fun v S1 v' S2 h h' => ⟨h.1.trans h'.1.symm, h.2.trans h'.2.symm⟩
  refine h_al_g C dL_law_2146 rfl rfl rfv_r ?_
  refine h_al_g C dL_law_2147 rfl rfl rfv_r ?_
  refine h_iload_w C dL_law_2148 rfl ?_
  refine h_iconst (v := 1) C dL_law_2150 (by decide) ?_
  refine h_iadd C dL_law_2151 ?_
  refine h_scld C SZ dL_law_2152 (ixv (k := 1) (show i + 1 < L by omega) (by omega)) (congrArg xs (ixe (k := 1) (show i + 1 < L by omega) (by omega))) ?_
  refine h_al_g C dL_law_2153 rfl rfl rfv_r ?_
  refine h_callH3 C NN (k_L_drops Z.l Z.G P S _ hC (xs (i + 1)) o hO.1 hO.2) cwh_drops dL_law_2154 (by decide) (by decide) (by decide) (by omega) (by omega) (kI fun r5 m5 hp5 => ?_)
  obtain ⟨hM5, hO5⟩ := lmid hM hO hp5 hRR
  have hO0 := hO
  have hM := hM5
  have hO := hO5
  refine h_ist_5 C dL_law_2157 ct_i ?_
  refine h_al_g C dL_law_2159 rfl rfl rfv_r ?_
  refine h_al_g C dL_law_2160 rfl rfl rfv_r ?_
  refine h_iload_w C dL_law_2161 rfl ?_
  refine h_iconst (v := 1) C dL_law_2163 (by decide) ?_
  refine h_iadd C dL_law_2164 ?_
  refine h_scld C SZ dL_law_2165 (ixv (k := 1) (show i + 1 < L by omega) (by omega)) (congrArg xs (ixe (k := 1) (show i + 1 < L by omega) (by omega))) ?_
  refine h_callV1 (ci := 9) C (k_X9_drops Z.l Z.G Q S _ _ hM (xs (i + 1)) ) cw_L_225 im_X9_drops sl_X9_drops rfl (by decide) hM.kX dL_law_2166 (by first | decide | exact Nat.le_of_ble_eq_true rfl) (by decide) (by decide) (by omega) (by omega) (kI fun r6 m6 hp1 => ?_) kN
  have hq := hp1
  obtain ⟨hthr, S', t', hst, hC', hM', hO', hel⟩ := lfin hC hO0 hp5 hRR (hq.elim (fun ⟨c0, e, T⟩ => Or.inl ⟨c0, _, ⟨e, rfl⟩, T⟩) Or.inr) hUU
  refine h_ist_6 C dL_law_2169 ct_i ?_
  refine h_al_g C dL_law_2171 rfl rfl rfv_r ?_
  refine h_callV0 (ci := 9) (a_ := .null) C (k_X9_thrown Z.l Z.G (Q 0) _ hM'.kX) cw_L_128 im_X9_thrown sl_X9_thrown rfl (by decide) hM'.kX dL_law_2172 (by first | decide | exact Nat.le_of_ble_eq_true rfl) (by decide) (by decide) (by omega) (by omega) (kI fun r1 μ1 hp2 => ?_) kN
  obtain ⟨rfl, rfl⟩ := hp2
  refine h_iload_w C dL_law_2175 rfl ?_
  refine h_icmp_eq (tgt := 2182) C dL_law_2177 (by decide) (fun c1 => ?_) (fun c1 => absurd (hthr) c1)
  refine h_iload_w C dL_law_2182 rfl ?_
  refine h_if_ne (tgt := 2199) C dL_law_2184 (by decide) (fun cK => ?_) (fun cK => ?_)
  · refine h_goto (tgt := 2529) C dL_law_2199 (by decide) ?_
    exact h_widen (by omega) (by omega) (kk _ _ _ (hst.elim (fun e => Or.inl e) (fun ⟨_, v, h⟩ => Or.inl h.2)) hC' hM' hO' _ _ _ _)
  · refine h_al_g C dL_law_2187 rfl rfl rfv_r ?_
    refine h_iconst (v := 0) C dL_law_2188 (by decide) ?_
    refine h_lald C dL_law_2189 (by rw [hO'.1]; decide) (inb hO'.2 (vp_in_nI (n := 0) (by decide) (by decide))) rfl ?_
    refine h_iload_w C dL_law_2190 rfl ?_
    refine h_i2l C dL_law_2192 ?_
    refine h_lcmp C dL_law_2193 ?_
    refine h_if_eq (tgt := 2199) C dL_law_2194 (by decide) (fun c3 => ?_) (fun c3 => absurd (((lg_cmp_eq _ _).mpr (hel cK))) c3)
    refine h_goto (tgt := 2529) C dL_law_2199 (by decide) ?_
    exact h_widen (by omega) (by omega) (kk _ _ _ (hst.elim (fun e => Or.inl e) (fun ⟨_, v, h⟩ => Or.inl h.2)) hC' hM' hO' _ _ _ _)

set_option maxRecDepth 100000 in
set_option maxHeartbeats 1000000 in
theorem bl_L_publicOf {Z : Zx} {P Q : Nat → Nat} {o sc L i : Nat} {xs : Row} {S : Sx} {t : Int32} {μ : Mem} {k n : Nat} (C : Cx Z RL cL_law 15 601024 7293034 610) (NN : NcZ Z) (SZ : ScZ Z sc L xs) (hk : k + 64 ≤ 601024) (hn : n + 12000 ≤ 7293034) (hL : L ≤ 2560) (hi : i + 4 < L) (hC : CRep Z.G P S μ) (hM : MRq Q S (LXo S t) μ) (hO : OS o μ) (hA : okA S) (kk : ∀ S' t' m, Sstep S S' → CRep Z.G P S' m → MRq Q S' (LXo S' t') m → OS o m → ∀ z5 z6 z7 z8 : Option Value, HW Z (k + 64) (n + 12000) 2529 [some (.ref sc), some (.ref (P 0)), some (.ref (Q 0)), some (.ref o), some (.int (nI i)), z5, z6, z7, z8] [] m) : ∀ z5 z6 z7 z8 : Option Value, HW Z k n 2202 [some (.ref sc), some (.ref (P 0)), some (.ref (Q 0)), some (.ref o), some (.int (nI i)), z5, z6, z7, z8] [] μ := by
  intro z5 z6 z7 z8
  have hRR : ∀ w m, (fun (w9 : Int64) (μ1 : Mem) => ∃ v9 : Int32, w9 = v9.toInt64 ∧ secC (xs (i + 1)) = 0 ∧ μ = μ1 ∧ v9 = nI (PW 7 (cl (xs (i + 1))))) w m → ∃ (v9 : Int32) (S1 : Sx), w = v9.toInt64 ∧ (fun v S' => v = (nI (PW 7 (cl (xs (i + 1))))) ∧ S' = S) v9 S1 ∧ CTo Z.G P μ S1 m := fun w m ⟨v9, e, _, e2, e3⟩ => ⟨v9, S, e, ⟨e3, rfl⟩, e2 ▸ CTo.rf9 hC⟩
  have hUU : ∀ (v : Int32) (S1 : Sx) (v' : Int32) (S2 : Sx), (fun v S' => v = (nI (PW 7 (cl (xs (i + 1))))) ∧ S' = S) v S1 → (fun v S' => v = (nI (PW 7 (cl (xs (i + 1))))) ∧ S' = S) v' S2 → v = v' ∧ S1 = S2 := fun v S1 v' S2 h h' => ⟨h.1.trans h'.1.symm, h.2.trans h'.2.symm⟩
  refine h_al_g C dL_law_2202 rfl rfl rfv_r ?_
  refine h_al_g C dL_law_2203 rfl rfl rfv_r ?_
  refine h_iload_w C dL_law_2204 rfl ?_
  refine h_iconst (v := 1) C dL_law_2206 (by decide) ?_
  refine h_iadd C dL_law_2207 ?_
  refine h_scld C SZ dL_law_2208 (ixv (k := 1) (show i + 1 < L by omega) (by omega)) (congrArg xs (ixe (k := 1) (show i + 1 < L by omega) (by omega))) ?_
  refine h_al_g C dL_law_2209 rfl rfl rfv_r ?_
  refine h_callH3 C NN (k_L_publicOf Z.l Z.G P S _ hC (xs (i + 1)) o hO.1 hO.2) cwh_publicOf dL_law_2210 (by decide) (by decide) (by decide) (by omega) (by omega) (kI fun r5 m5 hp5 => ?_)
  obtain ⟨hM5, hO5⟩ := lmid hM hO hp5 hRR
  have hO0 := hO
  have hM := hM5
  have hO := hO5
  refine h_ist_5 C dL_law_2213 ct_i ?_
  refine h_al_g C dL_law_2215 rfl rfl rfv_r ?_
  refine h_al_g C dL_law_2216 rfl rfl rfv_r ?_
  refine h_iload_w C dL_law_2217 rfl ?_
  refine h_iconst (v := 1) C dL_law_2219 (by decide) ?_
  refine h_iadd C dL_law_2220 ?_
  refine h_scld C SZ dL_law_2221 (ixv (k := 1) (show i + 1 < L by omega) (by omega)) (congrArg xs (ixe (k := 1) (show i + 1 < L by omega) (by omega))) ?_
  refine h_callV1 (ci := 9) C (k_X9_publicOf Z.l Z.G Q S _ _ hM (xs (i + 1)) ) cw_L_228 im_X9_publicOf sl_X9_publicOf rfl (by decide) hM.kX dL_law_2222 (by first | decide | exact Nat.le_of_ble_eq_true rfl) (by decide) (by decide) (by omega) (by omega) (kI fun r6 m6 hp1 => ?_) kN
  have hq := hp1
  obtain ⟨hthr, S', t', hst, hC', hM', hO', hel⟩ := lfin hC hO0 hp5 hRR (hq.elim (fun ⟨c0, e, T⟩ => Or.inl ⟨c0, _, ⟨e, rfl⟩, T⟩) Or.inr) hUU
  refine h_ist_6 C dL_law_2225 ct_i ?_
  refine h_al_g C dL_law_2227 rfl rfl rfv_r ?_
  refine h_callV0 (ci := 9) (a_ := .null) C (k_X9_thrown Z.l Z.G (Q 0) _ hM'.kX) cw_L_128 im_X9_thrown sl_X9_thrown rfl (by decide) hM'.kX dL_law_2228 (by first | decide | exact Nat.le_of_ble_eq_true rfl) (by decide) (by decide) (by omega) (by omega) (kI fun r1 μ1 hp2 => ?_) kN
  obtain ⟨rfl, rfl⟩ := hp2
  refine h_iload_w C dL_law_2231 rfl ?_
  refine h_icmp_eq (tgt := 2238) C dL_law_2233 (by decide) (fun c1 => ?_) (fun c1 => absurd (hthr) c1)
  refine h_iload_w C dL_law_2238 rfl ?_
  refine h_if_ne (tgt := 2255) C dL_law_2240 (by decide) (fun cK => ?_) (fun cK => ?_)
  · refine h_goto (tgt := 2529) C dL_law_2255 (by decide) ?_
    exact h_widen (by omega) (by omega) (kk _ _ _ (hst.elim (fun e => Or.inl e) (fun ⟨_, v, h⟩ => Or.inl h.2)) hC' hM' hO' _ _ _ _)
  · refine h_al_g C dL_law_2243 rfl rfl rfv_r ?_
    refine h_iconst (v := 0) C dL_law_2244 (by decide) ?_
    refine h_lald C dL_law_2245 (by rw [hO'.1]; decide) (inb hO'.2 (vp_in_nI (n := 0) (by decide) (by decide))) rfl ?_
    refine h_iload_w C dL_law_2246 rfl ?_
    refine h_i2l C dL_law_2248 ?_
    refine h_lcmp C dL_law_2249 ?_
    refine h_if_eq (tgt := 2255) C dL_law_2250 (by decide) (fun c3 => ?_) (fun c3 => absurd (((lg_cmp_eq _ _).mpr (hel cK))) c3)
    refine h_goto (tgt := 2529) C dL_law_2255 (by decide) ?_
    exact h_widen (by omega) (by omega) (kk _ _ _ (hst.elim (fun e => Or.inl e) (fun ⟨_, v, h⟩ => Or.inl h.2)) hC' hM' hO' _ _ _ _)

set_option maxRecDepth 100000 in
set_option maxHeartbeats 1000000 in
theorem bl_L_shared {Z : Zx} {P Q : Nat → Nat} {o sc L i : Nat} {xs : Row} {S : Sx} {t : Int32} {μ : Mem} {k n : Nat} (C : Cx Z RL cL_law 15 601024 7293034 610) (NN : NcZ Z) (SZ : ScZ Z sc L xs) (hk : k + 64 ≤ 601024) (hn : n + 12000 ≤ 7293034) (hL : L ≤ 2560) (hi : i + 4 < L) (hC : CRep Z.G P S μ) (hM : MRq Q S (LXo S t) μ) (hO : OS o μ) (hA : okA S) (kk : ∀ S' t' m, Sstep S S' → CRep Z.G P S' m → MRq Q S' (LXo S' t') m → OS o m → ∀ z5 z6 z7 z8 : Option Value, HW Z (k + 64) (n + 12000) 2529 [some (.ref sc), some (.ref (P 0)), some (.ref (Q 0)), some (.ref o), some (.int (nI i)), z5, z6, z7, z8] [] m) : ∀ z5 z6 z7 z8 : Option Value, HW Z k n 2258 [some (.ref sc), some (.ref (P 0)), some (.ref (Q 0)), some (.ref o), some (.int (nI i)), z5, z6, z7, z8] [] μ := by
  intro z5 z6 z7 z8
  have hRR : ∀ w m, (fun (w9 : Int64) (μ1 : Mem) => ∃ v9 : Int32, w9 = v9.toInt64 ∧ shaC (xs (i + 1)) (xs (i + 2)) = 0 ∧ μ = μ1 ∧ v9 = nI (PW (cl (xs (i + 2))) (cl (xs (i + 1))))) w m → ∃ (v9 : Int32) (S1 : Sx), w = v9.toInt64 ∧ (fun v S' => v = (nI (PW (cl (xs (i + 2))) (cl (xs (i + 1))))) ∧ S' = S) v9 S1 ∧ CTo Z.G P μ S1 m := fun w m ⟨v9, e, _, e2, e3⟩ => ⟨v9, S, e, ⟨e3, rfl⟩, e2 ▸ CTo.rf9 hC⟩
  have hUU : ∀ (v : Int32) (S1 : Sx) (v' : Int32) (S2 : Sx), (fun v S' => v = (nI (PW (cl (xs (i + 2))) (cl (xs (i + 1))))) ∧ S' = S) v S1 → (fun v S' => v = (nI (PW (cl (xs (i + 2))) (cl (xs (i + 1))))) ∧ S' = S) v' S2 → v = v' ∧ S1 = S2 := fun v S1 v' S2 h h' => ⟨h.1.trans h'.1.symm, h.2.trans h'.2.symm⟩
  refine h_al_g C dL_law_2258 rfl rfl rfv_r ?_
  refine h_al_g C dL_law_2259 rfl rfl rfv_r ?_
  refine h_iload_w C dL_law_2260 rfl ?_
  refine h_iconst (v := 1) C dL_law_2262 (by decide) ?_
  refine h_iadd C dL_law_2263 ?_
  refine h_scld C SZ dL_law_2264 (ixv (k := 1) (show i + 1 < L by omega) (by omega)) (congrArg xs (ixe (k := 1) (show i + 1 < L by omega) (by omega))) ?_
  refine h_al_g C dL_law_2265 rfl rfl rfv_r ?_
  refine h_iload_w C dL_law_2266 rfl ?_
  refine h_iconst (v := 2) C dL_law_2268 (by decide) ?_
  refine h_iadd C dL_law_2269 ?_
  refine h_scld C SZ dL_law_2270 (ixv (k := 2) (show i + 2 < L by omega) (by omega)) (congrArg xs (ixe (k := 2) (show i + 2 < L by omega) (by omega))) ?_
  refine h_al_g C dL_law_2271 rfl rfl rfv_r ?_
  refine h_callH4 C NN (k_L_shared Z.l Z.G P S _ hC (xs (i + 1)) (xs (i + 2)) o hO.1 hO.2) cwh_shared dL_law_2272 (by decide) (by decide) (by decide) (by omega) (by omega) (kI fun r5 m5 hp5 => ?_)
  obtain ⟨hM5, hO5⟩ := lmid hM hO hp5 hRR
  have hO0 := hO
  have hM := hM5
  have hO := hO5
  refine h_ist_5 C dL_law_2275 ct_i ?_
  refine h_al_g C dL_law_2277 rfl rfl rfv_r ?_
  refine h_al_g C dL_law_2278 rfl rfl rfv_r ?_
  refine h_iload_w C dL_law_2279 rfl ?_
  refine h_iconst (v := 1) C dL_law_2281 (by decide) ?_
  refine h_iadd C dL_law_2282 ?_
  refine h_scld C SZ dL_law_2283 (ixv (k := 1) (show i + 1 < L by omega) (by omega)) (congrArg xs (ixe (k := 1) (show i + 1 < L by omega) (by omega))) ?_
  refine h_al_g C dL_law_2284 rfl rfl rfv_r ?_
  refine h_iload_w C dL_law_2285 rfl ?_
  refine h_iconst (v := 2) C dL_law_2287 (by decide) ?_
  refine h_iadd C dL_law_2288 ?_
  refine h_scld C SZ dL_law_2289 (ixv (k := 2) (show i + 2 < L by omega) (by omega)) (congrArg xs (ixe (k := 2) (show i + 2 < L by omega) (by omega))) ?_
  refine h_callV2 (ci := 9) C (k_X9_shared Z.l Z.G Q S _ _ hM (xs (i + 1)) (xs (i + 2)) ) cw_L_231 im_X9_shared sl_X9_shared rfl (by decide) hM.kX dL_law_2290 (by first | decide | exact Nat.le_of_ble_eq_true rfl) (by decide) (by decide) (by omega) (by omega) (kI fun r6 m6 hp1 => ?_) kN
  have hq := hp1
  obtain ⟨hthr, S', t', hst, hC', hM', hO', hel⟩ := lfin hC hO0 hp5 hRR (hq.elim (fun ⟨c0, e, T⟩ => Or.inl ⟨c0, _, ⟨e, rfl⟩, T⟩) Or.inr) hUU
  refine h_ist_6 C dL_law_2293 ct_i ?_
  refine h_al_g C dL_law_2295 rfl rfl rfv_r ?_
  refine h_callV0 (ci := 9) (a_ := .null) C (k_X9_thrown Z.l Z.G (Q 0) _ hM'.kX) cw_L_128 im_X9_thrown sl_X9_thrown rfl (by decide) hM'.kX dL_law_2296 (by first | decide | exact Nat.le_of_ble_eq_true rfl) (by decide) (by decide) (by omega) (by omega) (kI fun r1 μ1 hp2 => ?_) kN
  obtain ⟨rfl, rfl⟩ := hp2
  refine h_iload_w C dL_law_2299 rfl ?_
  refine h_icmp_eq (tgt := 2306) C dL_law_2301 (by decide) (fun c1 => ?_) (fun c1 => absurd (hthr) c1)
  refine h_iload_w C dL_law_2306 rfl ?_
  refine h_if_ne (tgt := 2323) C dL_law_2308 (by decide) (fun cK => ?_) (fun cK => ?_)
  · refine h_goto (tgt := 2529) C dL_law_2323 (by decide) ?_
    exact h_widen (by omega) (by omega) (kk _ _ _ (hst.elim (fun e => Or.inl e) (fun ⟨_, v, h⟩ => Or.inl h.2)) hC' hM' hO' _ _ _ _)
  · refine h_al_g C dL_law_2311 rfl rfl rfv_r ?_
    refine h_iconst (v := 0) C dL_law_2312 (by decide) ?_
    refine h_lald C dL_law_2313 (by rw [hO'.1]; decide) (inb hO'.2 (vp_in_nI (n := 0) (by decide) (by decide))) rfl ?_
    refine h_iload_w C dL_law_2314 rfl ?_
    refine h_i2l C dL_law_2316 ?_
    refine h_lcmp C dL_law_2317 ?_
    refine h_if_eq (tgt := 2323) C dL_law_2318 (by decide) (fun c3 => ?_) (fun c3 => absurd (((lg_cmp_eq _ _).mpr (hel cK))) c3)
    refine h_goto (tgt := 2529) C dL_law_2323 (by decide) ?_
    exact h_widen (by omega) (by omega) (kk _ _ _ (hst.elim (fun e => Or.inl e) (fun ⟨_, v, h⟩ => Or.inl h.2)) hC' hM' hO' _ _ _ _)

set_option maxRecDepth 100000 in
set_option maxHeartbeats 1000000 in
theorem bl_L_seal {Z : Zx} {P Q : Nat → Nat} {o sc L i : Nat} {xs : Row} {S : Sx} {t : Int32} {μ : Mem} {k n : Nat} (C : Cx Z RL cL_law 15 601024 7293034 610) (NN : NcZ Z) (SZ : ScZ Z sc L xs) (hk : k + 64 ≤ 601024) (hn : n + 12000 ≤ 7293034) (hL : L ≤ 2560) (hi : i + 4 < L) (hC : CRep Z.G P S μ) (hM : MRq Q S (LXo S t) μ) (hO : OS o μ) (hA : okA S) (kk : ∀ S' t' m, Sstep S S' → CRep Z.G P S' m → MRq Q S' (LXo S' t') m → OS o m → ∀ z5 z6 z7 z8 : Option Value, HW Z (k + 64) (n + 12000) 2529 [some (.ref sc), some (.ref (P 0)), some (.ref (Q 0)), some (.ref o), some (.int (nI i)), z5, z6, z7, z8] [] m) : ∀ z5 z6 z7 z8 : Option Value, HW Z k n 2326 [some (.ref sc), some (.ref (P 0)), some (.ref (Q 0)), some (.ref o), some (.int (nI i)), z5, z6, z7, z8] [] μ := by
  intro z5 z6 z7 z8
  have hRR : ∀ w m, (fun (w9 : Int64) (μ1 : Mem) => ∃ v9 : Int32, w9 = v9.toInt64 ∧ seaC (xs (i + 1)) (xs (i + 2)) (xs (i + 3)) (xs (i + 4)) = 0 ∧ CTo Z.G P μ S μ1 ∧ v9 = SEAv (xs (i + 1)) (xs (i + 2)) (xs (i + 3)) (xs (i + 4))) w m → ∃ (v9 : Int32) (S1 : Sx), w = v9.toInt64 ∧ (fun v S' => v = (SEAv (xs (i + 1)) (xs (i + 2)) (xs (i + 3)) (xs (i + 4))) ∧ S' = S) v9 S1 ∧ CTo Z.G P μ S1 m := fun w m ⟨v9, e, _, hT, e3⟩ => ⟨v9, _, e, ⟨e3, rfl⟩, hT⟩
  have hUU : ∀ (v : Int32) (S1 : Sx) (v' : Int32) (S2 : Sx), (fun v S' => v = (SEAv (xs (i + 1)) (xs (i + 2)) (xs (i + 3)) (xs (i + 4))) ∧ S' = S) v S1 → (fun v S' => v = (SEAv (xs (i + 1)) (xs (i + 2)) (xs (i + 3)) (xs (i + 4))) ∧ S' = S) v' S2 → v = v' ∧ S1 = S2 := fun v S1 v' S2 h h' => ⟨h.1.trans h'.1.symm, h.2.trans h'.2.symm⟩
  refine h_al_g C dL_law_2326 rfl rfl rfv_r ?_
  refine h_al_g C dL_law_2327 rfl rfl rfv_r ?_
  refine h_iload_w C dL_law_2328 rfl ?_
  refine h_iconst (v := 1) C dL_law_2330 (by decide) ?_
  refine h_iadd C dL_law_2331 ?_
  refine h_scld C SZ dL_law_2332 (ixv (k := 1) (show i + 1 < L by omega) (by omega)) (congrArg xs (ixe (k := 1) (show i + 1 < L by omega) (by omega))) ?_
  refine h_al_g C dL_law_2333 rfl rfl rfv_r ?_
  refine h_iload_w C dL_law_2334 rfl ?_
  refine h_iconst (v := 2) C dL_law_2336 (by decide) ?_
  refine h_iadd C dL_law_2337 ?_
  refine h_scld C SZ dL_law_2338 (ixv (k := 2) (show i + 2 < L by omega) (by omega)) (congrArg xs (ixe (k := 2) (show i + 2 < L by omega) (by omega))) ?_
  refine h_al_g C dL_law_2339 rfl rfl rfv_r ?_
  refine h_iload_w C dL_law_2340 rfl ?_
  refine h_iconst (v := 3) C dL_law_2342 (by decide) ?_
  refine h_iadd C dL_law_2343 ?_
  refine h_scld C SZ dL_law_2344 (ixv (k := 3) (show i + 3 < L by omega) (by omega)) (congrArg xs (ixe (k := 3) (show i + 3 < L by omega) (by omega))) ?_
  refine h_al_g C dL_law_2345 rfl rfl rfv_r ?_
  refine h_iload_w C dL_law_2346 rfl ?_
  refine h_iconst (v := 4) C dL_law_2348 (by decide) ?_
  refine h_iadd C dL_law_2349 ?_
  refine h_scld C SZ dL_law_2350 (ixv (k := 4) (show i + 4 < L by omega) (by omega)) (congrArg xs (ixe (k := 4) (show i + 4 < L by omega) (by omega))) ?_
  refine h_al_g C dL_law_2351 rfl rfl rfv_r ?_
  refine h_callH6 C NN (k_L_seal Z.l Z.G P S _ hC (xs (i + 1)) (xs (i + 2)) (xs (i + 3)) (xs (i + 4)) o hO.1 hO.2) cwh_seal dL_law_2352 (by decide) (by decide) (by decide) (by omega) (by omega) (kI fun r5 m5 hp5 => ?_)
  obtain ⟨hM5, hO5⟩ := lmid hM hO hp5 hRR
  have hO0 := hO
  have hM := hM5
  have hO := hO5
  refine h_ist_5 C dL_law_2355 ct_i ?_
  refine h_al_g C dL_law_2357 rfl rfl rfv_r ?_
  refine h_al_g C dL_law_2358 rfl rfl rfv_r ?_
  refine h_iload_w C dL_law_2359 rfl ?_
  refine h_iconst (v := 1) C dL_law_2361 (by decide) ?_
  refine h_iadd C dL_law_2362 ?_
  refine h_scld C SZ dL_law_2363 (ixv (k := 1) (show i + 1 < L by omega) (by omega)) (congrArg xs (ixe (k := 1) (show i + 1 < L by omega) (by omega))) ?_
  refine h_al_g C dL_law_2364 rfl rfl rfv_r ?_
  refine h_iload_w C dL_law_2365 rfl ?_
  refine h_iconst (v := 2) C dL_law_2367 (by decide) ?_
  refine h_iadd C dL_law_2368 ?_
  refine h_scld C SZ dL_law_2369 (ixv (k := 2) (show i + 2 < L by omega) (by omega)) (congrArg xs (ixe (k := 2) (show i + 2 < L by omega) (by omega))) ?_
  refine h_al_g C dL_law_2370 rfl rfl rfv_r ?_
  refine h_iload_w C dL_law_2371 rfl ?_
  refine h_iconst (v := 3) C dL_law_2373 (by decide) ?_
  refine h_iadd C dL_law_2374 ?_
  refine h_scld C SZ dL_law_2375 (ixv (k := 3) (show i + 3 < L by omega) (by omega)) (congrArg xs (ixe (k := 3) (show i + 3 < L by omega) (by omega))) ?_
  refine h_al_g C dL_law_2376 rfl rfl rfv_r ?_
  refine h_iload_w C dL_law_2377 rfl ?_
  refine h_iconst (v := 4) C dL_law_2379 (by decide) ?_
  refine h_iadd C dL_law_2380 ?_
  refine h_scld C SZ dL_law_2381 (ixv (k := 4) (show i + 4 < L by omega) (by omega)) (congrArg xs (ixe (k := 4) (show i + 4 < L by omega) (by omega))) ?_
  refine h_callV4 (ci := 9) C (k_X9_seal Z.l Z.G Q S _ _ hM (xs (i + 1)) (xs (i + 2)) (xs (i + 3)) (xs (i + 4)) ) cw_L_234 im_X9_seal sl_X9_seal rfl (by decide) hM.kX dL_law_2382 (by first | decide | exact Nat.le_of_ble_eq_true rfl) (by decide) (by decide) (by omega) (by omega) (kI fun r6 m6 hp1 => ?_) kN
  have hq := hp1
  obtain ⟨hthr, S', t', hst, hC', hM', hO', hel⟩ := lfin hC hO0 hp5 hRR (hq.elim (fun ⟨c0, e, T⟩ => Or.inl ⟨c0, _, ⟨e, rfl⟩, T⟩) Or.inr) hUU
  refine h_ist_6 C dL_law_2385 ct_i ?_
  refine h_al_g C dL_law_2387 rfl rfl rfv_r ?_
  refine h_callV0 (ci := 9) (a_ := .null) C (k_X9_thrown Z.l Z.G (Q 0) _ hM'.kX) cw_L_128 im_X9_thrown sl_X9_thrown rfl (by decide) hM'.kX dL_law_2388 (by first | decide | exact Nat.le_of_ble_eq_true rfl) (by decide) (by decide) (by omega) (by omega) (kI fun r1 μ1 hp2 => ?_) kN
  obtain ⟨rfl, rfl⟩ := hp2
  refine h_iload_w C dL_law_2391 rfl ?_
  refine h_icmp_eq (tgt := 2398) C dL_law_2393 (by decide) (fun c1 => ?_) (fun c1 => absurd (hthr) c1)
  refine h_iload_w C dL_law_2398 rfl ?_
  refine h_if_ne (tgt := 2415) C dL_law_2400 (by decide) (fun cK => ?_) (fun cK => ?_)
  · refine h_goto (tgt := 2529) C dL_law_2415 (by decide) ?_
    exact h_widen (by omega) (by omega) (kk _ _ _ (hst.elim (fun e => Or.inl e) (fun ⟨_, v, h⟩ => Or.inl h.2)) hC' hM' hO' _ _ _ _)
  · refine h_al_g C dL_law_2403 rfl rfl rfv_r ?_
    refine h_iconst (v := 0) C dL_law_2404 (by decide) ?_
    refine h_lald C dL_law_2405 (by rw [hO'.1]; decide) (inb hO'.2 (vp_in_nI (n := 0) (by decide) (by decide))) rfl ?_
    refine h_iload_w C dL_law_2406 rfl ?_
    refine h_i2l C dL_law_2408 ?_
    refine h_lcmp C dL_law_2409 ?_
    refine h_if_eq (tgt := 2415) C dL_law_2410 (by decide) (fun c3 => ?_) (fun c3 => absurd (((lg_cmp_eq _ _).mpr (hel cK))) c3)
    refine h_goto (tgt := 2529) C dL_law_2415 (by decide) ?_
    exact h_widen (by omega) (by omega) (kk _ _ _ (hst.elim (fun e => Or.inl e) (fun ⟨_, v, h⟩ => Or.inl h.2)) hC' hM' hO' _ _ _ _)

end
