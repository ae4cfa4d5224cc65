section
def St_pass (S S' : Sx) : Prop := ∃ x : Int32, passC S x = 0 ∧ S' = S.sSc 0 (S.sc 0 + x)
def St_move (S S' : Sx) : Prop := ∃ x y : Int32, movC S x y = 0 ∧ S' = S.sEf 0 (cl x) y
def St_load (S S' : Sx) : Prop := ∃ x z : Int32, endC x = 0 ∧ (z = 0 ∨ z = 1) ∧ S' = S.sEf 1 (cl x) z
def St_allow (S S' : Sx) : Prop := ∃ x y p b : Int32, allC S x y p b = 0 ∧ S' = S.sRt (cl x) (ALR (S.rt (cl x)) (TOPB p b) b y)
def St_forbid (S S' : Sx) : Prop := ∃ x p b : Int32, forC S x p b = 0 ∧ S' = S.sRt (cl x) (FOR (S.rt (cl x)) (TOPB p b) b)
def St_send (S S' : Sx) : Prop := ∃ x s0 d l0 : Int32, sndC x s0 d l0 = 0 ∧ isE (GVN d (S.rt (cl x)) (-1) (-1)) ∧ S' = (SND S (cl x) (cl (GVN d (S.rt (cl x)) (-1) (-1))) s0 d l0).2
def St_greet (S S' : Sx) : Prop := ∃ x y : Int32, greC S x y = 0 ∧ S' = HELS S (cl x) (cl y)
def St_lose (S S' : Sx) : Prop := ∃ x : Int32, letC S x = 0 ∧ S' = S.sNt (S.nt.eraseIdx (cl x))
def St_twice (S S' : Sx) : Prop := ∃ x : Int32, twiC S x = 0 ∧ S' = S.sNt (S.nt ++ [LTR S (cl x)])
def St_turn (S S' : Sx) : Prop := ∃ x f z : Int32, trnC S x f z = 0 ∧ S' = S.sNt (S.nt.set (cl x) (TRN (LTR S (cl x)) f z))
def St_reroute (S S' : Sx) : Prop := ∃ x y : Int32, rerC S x y = 0 ∧ S' = S.sNt (S.nt.set (cl x) (u1 (LTR S (cl x)) 0 y))
def St_later (S S' : Sx) : Prop := ∃ x : Int32, letC S x = 0 ∧ S' = S.sNt (S.nt.eraseIdx (cl x) ++ [LTR S (cl x)])
def St_keep (S S' : Sx) : Prop := ∃ (x y : Int32) (r : Ses), pairC x y = 0 ∧ USE S (cl x) (cl y) = some r ∧ S' = DATS S (cl x) (cl y) r (-1) (-1) (-1)
def St_deliver (S S' : Sx) : Prop := ∃ (x v : Int32) (S9 : Sx), letC S x = 0 ∧ GOT (S.sNt (S.nt.eraseIdx (cl x))) (LTR S (cl x)) v S9 ∧ S' = DLF S9 v
/-- what one step of a run may make of the state -/
def Sstep (S S' : Sx) : Prop := S' = S ∨ St_pass S S' ∨ St_move S S' ∨ St_load S S' ∨ St_allow S S' ∨ St_forbid S S' ∨ St_send S S' ∨ St_greet S S' ∨ St_lose S S' ∨ St_twice S S' ∨ St_turn S S' ∨ St_reroute S S' ∨ St_later S S' ∨ St_keep S S' ∨ St_deliver S S'
theorem Sstep.pass {S S' : Sx} (h : St_pass S S') : Sstep S S' := Or.inr (Or.inl h)
theorem Sstep.move {S S' : Sx} (h : St_move S S') : Sstep S S' := Or.inr (Or.inr (Or.inl h))
theorem Sstep.load {S S' : Sx} (h : St_load S S') : Sstep S S' := Or.inr (Or.inr (Or.inr (Or.inl h)))
theorem Sstep.allow {S S' : Sx} (h : St_allow S S') : Sstep S S' := Or.inr (Or.inr (Or.inr (Or.inr (Or.inl h))))
theorem Sstep.forbid {S S' : Sx} (h : St_forbid S S') : Sstep S S' := Or.inr (Or.inr (Or.inr (Or.inr (Or.inr (Or.inl h)))))
theorem Sstep.send {S S' : Sx} (h : St_send S S') : Sstep S S' := Or.inr (Or.inr (Or.inr (Or.inr (Or.inr (Or.inr (Or.inl h))))))
theorem Sstep.greet {S S' : Sx} (h : St_greet S S') : Sstep S S' := Or.inr (Or.inr (Or.inr (Or.inr (Or.inr (Or.inr (Or.inr (Or.inl h)))))))
theorem Sstep.lose {S S' : Sx} (h : St_lose S S') : Sstep S S' := Or.inr (Or.inr (Or.inr (Or.inr (Or.inr (Or.inr (Or.inr (Or.inr (Or.inl h))))))))
theorem Sstep.twice {S S' : Sx} (h : St_twice S S') : Sstep S S' := Or.inr (Or.inr (Or.inr (Or.inr (Or.inr (Or.inr (Or.inr (Or.inr (Or.inr (Or.inl h)))))))))
theorem Sstep.turn {S S' : Sx} (h : St_turn S S') : Sstep S S' := Or.inr (Or.inr (Or.inr (Or.inr (Or.inr (Or.inr (Or.inr (Or.inr (Or.inr (Or.inr (Or.inl h))))))))))
theorem Sstep.reroute {S S' : Sx} (h : St_reroute S S') : Sstep S S' := Or.inr (Or.inr (Or.inr (Or.inr (Or.inr (Or.inr (Or.inr (Or.inr (Or.inr (Or.inr (Or.inr (Or.inl h)))))))))))
theorem Sstep.later {S S' : Sx} (h : St_later S S') : Sstep S S' := Or.inr (Or.inr (Or.inr (Or.inr (Or.inr (Or.inr (Or.inr (Or.inr (Or.inr (Or.inr (Or.inr (Or.inr (Or.inl h))))))))))))
theorem Sstep.keep {S S' : Sx} (h : St_keep S S') : Sstep S S' := Or.inr (Or.inr (Or.inr (Or.inr (Or.inr (Or.inr (Or.inr (Or.inr (Or.inr (Or.inr (Or.inr (Or.inr (Or.inr (Or.inl h)))))))))))))
theorem Sstep.deliver {S S' : Sx} (h : St_deliver S S') : Sstep S S' := Or.inr (Or.inr (Or.inr (Or.inr (Or.inr (Or.inr (Or.inr (Or.inr (Or.inr (Or.inr (Or.inr (Or.inr (Or.inr (Or.inr (h))))))))))))))
def okH6 (S : Sx) : Prop := ∀ a b w r, a < 3 → b < 3 → w < 3 → S.ses a b w = some r → r.1 6 = 0 ∨ r.1 6 = 1
/-- what both sides need of a state -/
def okA (S : Sx) : Prop := okT S ∧ okS S ∧ okW S ∧ (∀ g ∈ S.nt, okLM S g) ∧ (∀ g ∈ S.nt, okG g) ∧ (∀ g ∈ S.nt, okSent g) ∧ (∀ e, e < 3 → S.ef 1 e = 0 ∨ S.ef 1 e = 1) ∧ okH6 S ∧ (∀ e, e < 3 → ∀ r ∈ S.rt e, isE (r 2)) ∧ SND0 S
theorem endC_z {x : Int32} (h : endC x = 0) : isE x := Classical.byContradiction fun z => by
  rw [show endC x = 1 from if_neg z] at h
  exact absurd h (by decide)
theorem I2S {Q : Nat → Nat} {S : Sx} {l : LX} {μ : Mem} (h : MRq Q S l μ) {t : Nat} (ht : t < 10) {g : Nat → Nat → Int32} (hg : ∀ a b, a < 3 → b < 3 → μ.ei (Q (21 + 3 * t + a)) b = g a b) : I2 μ (Q 0) (298 + t) 3 3 g := by
  obtain ⟨A, R, h1, h2, h3, h4, h5⟩ := h.I2 ht
  refine ⟨A, R, h1, h2, h3, h4, fun i hi => ?_⟩
  obtain ⟨k1, k2, k3, k4⟩ := h5 i hi
  exact ⟨k1, k2, k3, fun j hj => (k4 j hj).trans (hg i j hi hj)⟩
set_option maxRecDepth 100000 in
set_option maxHeartbeats 1000000 in
theorem bl_L_pass {Z : Zx} {P Q : Nat → Nat} {o sc L i : Nat} {xs : Row} {S : Sx} {t : Int32} {μ : Mem} {k n : Nat} (C : Cx Z RL cL_law 15 601024 7293034 610) (NN : NcZ Z) (hk : k + 64 ≤ 601024) (hn : n + 12000 ≤ 7293034) (hL : L ≤ 2560) (hi : i + 4 < L) (hC : CRep Z.G P S μ) (hM : MRq Q S (LXo S t) μ) (hO : OS o sc L xs μ) (hA : okA S) (kk : ∀ S' t' m, Sstep S S' → CRep Z.G P S' m → MRq Q S' (LXo S' t') m → OS o sc L xs m → ∀ z5 z6 z7 z8 : Option Value, HW Z (k + 64) (n + 12000) 2529 [some (.ref sc), some (.ref (P 0)), some (.ref (Q 0)), some (.ref o), some (.int (nI i)), z5, z6, z7, z8] [] m) : ∀ z5 z6 z7 z8 : Option Value, HW Z k n 200 [some (.ref sc), some (.ref (P 0)), some (.ref (Q 0)), some (.ref o), some (.int (nI i)), z5, z6, z7, z8] [] μ := by
  intro z5 z6 z7 z8
  have hRR : ∀ w m, (fun (w9 : Int64) (μ1 : Mem) => ∃ v9 : Int32, w9 = v9.toInt64 ∧ passC S (xs (i + 1)) = 0 ∧ CTo Z.G P μ (S.sSc 0 (S.sc 0 + (xs (i + 1)))) μ1 ∧ v9 = S.sc 0 + (xs (i + 1))) w m → ∃ (v9 : Int32) (S1 : Sx), w = v9.toInt64 ∧ (fun v S' => v = (S.sc 0 + (xs (i + 1))) ∧ S' = (S.sSc 0 (S.sc 0 + (xs (i + 1))))) v9 S1 ∧ CTo Z.G P μ S1 m := fun w m ⟨v9, e, _, hT, e3⟩ => ⟨v9, _, e, ⟨e3, rfl⟩, hT⟩
  have hUU : ∀ v S1 v' S2, (fun v S' => v = (S.sc 0 + (xs (i + 1))) ∧ S' = (S.sSc 0 (S.sc 0 + (xs (i + 1))))) v S1 → (fun v S' => v = (S.sc 0 + (xs (i + 1))) ∧ S' = (S.sSc 0 (S.sc 0 + (xs (i + 1))))) v' S2 → v = v' ∧ S1 = S2 := fun v S1 v' S2 h h' => ⟨h.1.trans h'.1.symm, h.2.trans h'.2.symm⟩
  refine h_al_g C dL_law_200 rfl rfl rfv_r ?_
  refine h_al_g C dL_law_201 rfl rfl rfv_r ?_
  refine h_iload_w C dL_law_202 rfl ?_
  refine h_iconst (v := 1) C dL_law_204 (by decide) ?_
  refine h_iadd C dL_law_205 ?_
  refine h_iald C dL_law_206 (by rw [hO.2.2.1]; decide) (inb hO.2.2.2.1 (ixv (k := 1) (show i + 1 < L by omega) (by omega))) (atI (ixe (k := 1) (show i + 1 < L by omega) (by omega)) (hO.2.2.2.2 (i + 1) (show i + 1 < L by omega))) ?_
  refine h_al_g C dL_law_207 rfl rfl rfv_r ?_
  refine h_callH3 C NN (k_L_pass Z.l Z.G P S _ hC (xs (i + 1)) hA.1 o hO.1 hO.2.1) cwh_pass dL_law_208 (by decide) (by decide) (by decide) (by omega) (by omega) (kI fun r5 m5 hp5 => ?_)
  obtain ⟨hM5, hO5⟩ := lmid hM hO hp5 hRR
  have hO0 := hO
  have hM := hM5
  have hO := hO5
  refine h_ist_5 C dL_law_211 ct_i ?_
  refine h_al_g C dL_law_213 rfl rfl rfv_r ?_
  refine h_al_g C dL_law_214 rfl rfl rfv_r ?_
  refine h_iload_w C dL_law_215 rfl ?_
  refine h_iconst (v := 1) C dL_law_217 (by decide) ?_
  refine h_iadd C dL_law_218 ?_
  refine h_iald C dL_law_219 (by rw [hO.2.2.1]; decide) (inb hO.2.2.2.1 (ixv (k := 1) (show i + 1 < L by omega) (by omega))) (atI (ixe (k := 1) (show i + 1 < L by omega) (by omega)) (hO.2.2.2.2 (i + 1) (show i + 1 < L by omega))) ?_
  refine h_callV1 (ci := 9) C (k_X9_pass Z.l Z.G (Q 0) _ hM.kX (S.sc 0) _ hM.f288 hA.1) cw_L_127 im_X9_pass sl_X9_pass rfl (by decide) hM.kX dL_law_220 (by first | decide | exact Nat.le_of_ble_eq_true rfl) (by decide) (by decide) (by omega) (by omega) (kI fun r6 m6 hp1 => ?_) kN
  have hq := hp1
  obtain ⟨hthr, S', t', hst, hC', hM', hO', hel⟩ := lfin hC hO0 hp5 hRR (hq.elim (fun ⟨c0, e, e2⟩ => Or.inl ⟨c0, _, ⟨e, rfl⟩, ((rd_pub hM rfl).sfi (Or.inr trivial) e2 ((rd_pub hM rfl).1.w288 e2))⟩) (fun ⟨c0, _, e2⟩ => Or.inr ⟨c0, rd_pub hM e2⟩)) hUU
  refine h_ist_6 C dL_law_223 ct_i ?_
  refine h_al_g C dL_law_225 rfl rfl rfv_r ?_
  refine h_callV0 (ci := 9) (a_ := .null) C (k_X9_thrown Z.l Z.G (Q 0) _ hM'.kX) cw_L_128 im_X9_thrown sl_X9_thrown rfl (by decide) hM'.kX dL_law_226 (by first | decide | exact Nat.le_of_ble_eq_true rfl) (by decide) (by decide) (by omega) (by omega) (kI fun r1 μ1 hp2 => ?_) kN
  obtain ⟨rfl, rfl⟩ := hp2
  refine h_iload_w C dL_law_229 rfl ?_
  refine h_icmp_eq (tgt := 236) C dL_law_231 (by decide) (fun c1 => ?_) (fun c1 => absurd (hthr) c1)
  refine h_iload_w C dL_law_236 rfl ?_
  refine h_if_ne (tgt := 253) C dL_law_238 (by decide) (fun cK => ?_) (fun cK => ?_)
  · refine h_goto (tgt := 2529) C dL_law_253 (by decide) ?_
    exact h_widen (by omega) (by omega) (kk _ _ _ (hst.elim (fun e => Or.inl e) (fun ⟨c0, v, h⟩ => Sstep.pass ⟨_, c0, h.2⟩)) hC' hM' hO' _ _ _ _)
  · refine h_al_g C dL_law_241 rfl rfl rfv_r ?_
    refine h_iconst (v := 0) C dL_law_242 (by decide) ?_
    refine h_lald C dL_law_243 (by rw [hO'.1]; decide) (inb hO'.2.1 (vp_in_nI (n := 0) (by decide) (by decide))) rfl ?_
    refine h_iload_w C dL_law_244 rfl ?_
    refine h_i2l C dL_law_246 ?_
    refine h_lcmp C dL_law_247 ?_
    refine h_if_eq (tgt := 253) C dL_law_248 (by decide) (fun c3 => ?_) (fun c3 => absurd (((lg_cmp_eq _ _).mpr (hel cK))) c3)
    refine h_goto (tgt := 2529) C dL_law_253 (by decide) ?_
    exact h_widen (by omega) (by omega) (kk _ _ _ (hst.elim (fun e => Or.inl e) (fun ⟨c0, v, h⟩ => Sstep.pass ⟨_, c0, h.2⟩)) hC' hM' hO' _ _ _ _)

set_option maxRecDepth 100000 in
set_option maxHeartbeats 1000000 in
theorem bl_L_move {Z : Zx} {P Q : Nat → Nat} {o sc L i : Nat} {xs : Row} {S : Sx} {t : Int32} {μ : Mem} {k n : Nat} (C : Cx Z RL cL_law 15 601024 7293034 610) (NN : NcZ Z) (hk : k + 64 ≤ 601024) (hn : n + 12000 ≤ 7293034) (hL : L ≤ 2560) (hi : i + 4 < L) (hC : CRep Z.G P S μ) (hM : MRq Q S (LXo S t) μ) (hO : OS o sc L xs μ) (hA : okA S) (kk : ∀ S' t' m, Sstep S S' → CRep Z.G P S' m → MRq Q S' (LXo S' t') m → OS o sc L xs m → ∀ z5 z6 z7 z8 : Option Value, HW Z (k + 64) (n + 12000) 2529 [some (.ref sc), some (.ref (P 0)), some (.ref (Q 0)), some (.ref o), some (.int (nI i)), z5, z6, z7, z8] [] m) : ∀ z5 z6 z7 z8 : Option Value, HW Z k n 256 [some (.ref sc), some (.ref (P 0)), some (.ref (Q 0)), some (.ref o), some (.int (nI i)), z5, z6, z7, z8] [] μ := by
  intro z5 z6 z7 z8
  have hRR : ∀ w m, (fun (w9 : Int64) (μ1 : Mem) => ∃ v9 : Int32, w9 = v9.toInt64 ∧ movC S (xs (i + 1)) (xs (i + 2)) = 0 ∧ CTo Z.G P μ (S.sEf 0 (cl (xs (i + 1))) (xs (i + 2))) μ1 ∧ v9 = S.ef 0 (cl (xs (i + 1)))) w m → ∃ (v9 : Int32) (S1 : Sx), w = v9.toInt64 ∧ (fun v S' => v = (S.ef 0 (cl (xs (i + 1)))) ∧ S' = (S.sEf 0 (cl (xs (i + 1))) (xs (i + 2)))) v9 S1 ∧ CTo Z.G P μ S1 m := fun w m ⟨v9, e, _, hT, e3⟩ => ⟨v9, _, e, ⟨e3, rfl⟩, hT⟩
  have hUU : ∀ v S1 v' S2, (fun v S' => v = (S.ef 0 (cl (xs (i + 1)))) ∧ S' = (S.sEf 0 (cl (xs (i + 1))) (xs (i + 2)))) v S1 → (fun v S' => v = (S.ef 0 (cl (xs (i + 1)))) ∧ S' = (S.sEf 0 (cl (xs (i + 1))) (xs (i + 2)))) v' S2 → v = v' ∧ S1 = S2 := fun v S1 v' S2 h h' => ⟨h.1.trans h'.1.symm, h.2.trans h'.2.symm⟩
  refine h_al_g C dL_law_256 rfl rfl rfv_r ?_
  refine h_al_g C dL_law_257 rfl rfl rfv_r ?_
  refine h_iload_w C dL_law_258 rfl ?_
  refine h_iconst (v := 1) C dL_law_260 (by decide) ?_
  refine h_iadd C dL_law_261 ?_
  refine h_iald C dL_law_262 (by rw [hO.2.2.1]; decide) (inb hO.2.2.2.1 (ixv (k := 1) (show i + 1 < L by omega) (by omega))) (atI (ixe (k := 1) (show i + 1 < L by omega) (by omega)) (hO.2.2.2.2 (i + 1) (show i + 1 < L by omega))) ?_
  refine h_al_g C dL_law_263 rfl rfl rfv_r ?_
  refine h_iload_w C dL_law_264 rfl ?_
  refine h_iconst (v := 2) C dL_law_266 (by decide) ?_
  refine h_iadd C dL_law_267 ?_
  refine h_iald C dL_law_268 (by rw [hO.2.2.1]; decide) (inb hO.2.2.2.1 (ixv (k := 2) (show i + 2 < L by omega) (by omega))) (atI (ixe (k := 2) (show i + 2 < L by omega) (by omega)) (hO.2.2.2.2 (i + 2) (show i + 2 < L by omega))) ?_
  refine h_al_g C dL_law_269 rfl rfl rfv_r ?_
  refine h_callH4 C NN (k_L_move Z.l Z.G P S _ hC (xs (i + 1)) (xs (i + 2)) hA.2.2.1.1 o hO.1 hO.2.1) cwh_move dL_law_270 (by decide) (by decide) (by decide) (by omega) (by omega) (kI fun r5 m5 hp5 => ?_)
  obtain ⟨hM5, hO5⟩ := lmid hM hO hp5 hRR
  have hO0 := hO
  have hM := hM5
  have hO := hO5
  refine h_ist_5 C dL_law_273 ct_i ?_
  refine h_al_g C dL_law_275 rfl rfl rfv_r ?_
  refine h_al_g C dL_law_276 rfl rfl rfv_r ?_
  refine h_iload_w C dL_law_277 rfl ?_
  refine h_iconst (v := 1) C dL_law_279 (by decide) ?_
  refine h_iadd C dL_law_280 ?_
  refine h_iald C dL_law_281 (by rw [hO.2.2.1]; decide) (inb hO.2.2.2.1 (ixv (k := 1) (show i + 1 < L by omega) (by omega))) (atI (ixe (k := 1) (show i + 1 < L by omega) (by omega)) (hO.2.2.2.2 (i + 1) (show i + 1 < L by omega))) ?_
  refine h_al_g C dL_law_282 rfl rfl rfv_r ?_
  refine h_iload_w C dL_law_283 rfl ?_
  refine h_iconst (v := 2) C dL_law_285 (by decide) ?_
  refine h_iadd C dL_law_286 ?_
  refine h_iald C dL_law_287 (by rw [hO.2.2.1]; decide) (inb hO.2.2.2.1 (ixv (k := 2) (show i + 2 < L by omega) (by omega))) (atI (ixe (k := 2) (show i + 2 < L by omega) (by omega)) (hO.2.2.2.2 (i + 2) (show i + 2 < L by omega))) ?_
  refine h_callV2 (ci := 9) C (k_X9_move Z.l Z.G Q S _ _ hM (xs (i + 1)) (xs (i + 2)) ) cw_L_135 im_X9_move sl_X9_move rfl (by decide) hM.kX dL_law_288 (by first | decide | exact Nat.le_of_ble_eq_true rfl) (by decide) (by decide) (by omega) (by omega) (kI fun r6 m6 hp1 => ?_) kN
  have hq := hp1
  obtain ⟨hthr, S', t', hst, hC', hM', hO', hel⟩ := lfin hC hO0 hp5 hRR (hq.elim (fun ⟨c0, e, T⟩ => Or.inl ⟨c0, _, ⟨e, rfl⟩, T⟩) Or.inr) hUU
  refine h_ist_6 C dL_law_291 ct_i ?_
  refine h_al_g C dL_law_293 rfl rfl rfv_r ?_
  refine h_callV0 (ci := 9) (a_ := .null) C (k_X9_thrown Z.l Z.G (Q 0) _ hM'.kX) cw_L_128 im_X9_thrown sl_X9_thrown rfl (by decide) hM'.kX dL_law_294 (by first | decide | exact Nat.le_of_ble_eq_true rfl) (by decide) (by decide) (by omega) (by omega) (kI fun r1 μ1 hp2 => ?_) kN
  obtain ⟨rfl, rfl⟩ := hp2
  refine h_iload_w C dL_law_297 rfl ?_
  refine h_icmp_eq (tgt := 304) C dL_law_299 (by decide) (fun c1 => ?_) (fun c1 => absurd (hthr) c1)
  refine h_iload_w C dL_law_304 rfl ?_
  refine h_if_ne (tgt := 321) C dL_law_306 (by decide) (fun cK => ?_) (fun cK => ?_)
  · refine h_goto (tgt := 2529) C dL_law_321 (by decide) ?_
    exact h_widen (by omega) (by omega) (kk _ _ _ (hst.elim (fun e => Or.inl e) (fun ⟨c0, v, h⟩ => Sstep.move ⟨_, _, c0, h.2⟩)) hC' hM' hO' _ _ _ _)
  · refine h_al_g C dL_law_309 rfl rfl rfv_r ?_
    refine h_iconst (v := 0) C dL_law_310 (by decide) ?_
    refine h_lald C dL_law_311 (by rw [hO'.1]; decide) (inb hO'.2.1 (vp_in_nI (n := 0) (by decide) (by decide))) rfl ?_
    refine h_iload_w C dL_law_312 rfl ?_
    refine h_i2l C dL_law_314 ?_
    refine h_lcmp C dL_law_315 ?_
    refine h_if_eq (tgt := 321) C dL_law_316 (by decide) (fun c3 => ?_) (fun c3 => absurd (((lg_cmp_eq _ _).mpr (hel cK))) c3)
    refine h_goto (tgt := 2529) C dL_law_321 (by decide) ?_
    exact h_widen (by omega) (by omega) (kk _ _ _ (hst.elim (fun e => Or.inl e) (fun ⟨c0, v, h⟩ => Sstep.move ⟨_, _, c0, h.2⟩)) hC' hM' hO' _ _ _ _)

end
