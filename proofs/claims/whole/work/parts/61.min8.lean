section
theorem Nw.z0 {μ m : Mem} {q : Nat} (h : Nw μ m) (hq : m.kd q = 0) : μ.kd q = 0 := by
  by_cases c : μ.kd q = 0
  · exact c
  · rw [((h q).1 c).1] at hq
    exact hq
theorem usK_tm2 {k : Nat} (h : usK k) : k ≠ KTM2 := fun e => by
  rw [e] at h
  rcases h with h | h <;> exact absurd h (by decide)
set_option maxRecDepth 100000 in
set_option maxHeartbeats 1000000 in
theorem lp_X9_o2 {Z : Zx} {Post : Option Value → Mem → Prop} {PostX : String → Mem → Prop} {rc rs mc ms : Nat} {Q : Nat → Nat} {S : Sx} {t : Int32} {μ0 mz : Mem} {e b w z s : Nat} {g : Row} (C : Cx Z RX9 cX9_gotData 4 rc rs 101) (E : Rt Z mc ms (some .int) Post PostX) (he : e < 3) (hb : b < 3) (hou : S.ou.length < 512) {q : Nat} {k0 n0 : Nat} (r1 : rc = mc) (r2 : rs = ms) (hk2 : k0 + 1 ≤ mc) (hn2 : n0 + 5 ≤ ms) (c5 : ¬ g 5 = -1) (cG : GVN (g 5) (S.rt e) (-1) (-1) = nI b) (hP : ∀ v m, v = BOc S e b g → MTo Q WAll μ0 (BOs S e b g) (LXo (BOs S e b g) t) m → Post (some (.int v)) m)
    (hT : MTo Q WAll μ0 S (LXo S t) mz) (hq1 : mz.kd q = KTM2) (hq2 : mz.ln q = S.ou.length + 1) (hq3 : ∀ i (hi : i < S.ou.length), ∃ p, mz.er q i = some p ∧ RowAt mz KIM p 5 S.ou[i]) (z12 : Option Value) : HW Z k0 n0 477 [some (.ref (Q 0)), some (.int (nI e)), some (.ref z), some (.int (g 3)), some (.int (g 4)), some (.int (g 5)), some (.int (g 6)), some (.int (g 7)), some (.int (nI b)), some (.int (nI w)), some (.ref s), some (.ref q), z12] [] mz := by
  have hM := hT.1
  have hq0 := hq1
  have hN : Nw mz mz := Nw.rf
  obtain ⟨h60, A, a1, a2, a3, a4⟩ := hM.ou
  refine h_al_w (j := 0) C dX9_gotData_477 rfl rfv_r ?_
  refine h_al_g C dX9_gotData_479 rfl rfl rfv_r ?_
  refine gs_X9_83 C dX9_gotData_480 hM.kX a1 ?_
  refine h_alen C dX9_gotData_483 ⟨by rw [a2]; decide, by rw [a2]; decide⟩ a3 ?_
  refine h_iconst (v := 5) C dX9_gotData_484 (by decide) ?_
  refine h_newarr (atype := .int) (N := 5) (11 + 32 * 100) C ac_11 (by decide) (Or.inl (by decide)) dX9_gotData_485 (by decide) (by decide) (by decide) (by omega) (by omega) (fun qo hqo => ?_)
  refine h_abs (fun m1 em1 => ?_)
  have hLqo := NL.new em1
  have hz_qo := hN.z0 hqo
  have hN := hN.at (m' := m1) hz_qo (fun z hz => by rw [em1]; exact same_newA hz) (by rw [em1]; exact kd_newA)
  have hwqo := hT.fresh hqo
  have hT := hT.newT hqo em1
  have hM := hT.1
  refine h_dup C dX9_gotData_487 rfl ?_
  refine h_iconst (v := 0) C dX9_gotData_488 (by decide) ?_
  refine h_iload_g C dX9_gotData_489 rfl rfl ?_
  refine h_iast C dX9_gotData_490 hLqo.k (inb hLqo.2.1 (vp_in_nI (n := 0) (by decide) (by decide))) ?_
  refine h_abs (fun m2 em2 => ?_)
  rw [show Int32.toNatClampNeg 0 = 0 from rfl] at em2
  have hN := hN.at (m' := m2) hz_qo (fun z hz => by rw [em2]; exact same_sei hz) (by rw [em2]; exact hLqo.1)
  have hT := hT.tmp hLqo hwqo em2
  have hM := hT.1
  have hLqo := hLqo.push em2 rfl
  refine h_dup C dX9_gotData_491 rfl ?_
  refine h_iconst (v := 1) C dX9_gotData_492 (by decide) ?_
  refine h_iload_w C dX9_gotData_493 rfl ?_
  refine h_iast C dX9_gotData_495 hLqo.k (inb hLqo.2.1 (vp_in_nI (n := 1) (by decide) (by decide))) ?_
  refine h_abs (fun m3 em3 => ?_)
  rw [show Int32.toNatClampNeg 1 = 1 from rfl] at em3
  have hN := hN.at (m' := m3) hz_qo (fun z hz => by rw [em3]; exact same_sei hz) (by rw [em3]; exact hLqo.1)
  have hT := hT.tmp hLqo hwqo em3
  have hM := hT.1
  have hLqo := hLqo.push em3 rfl
  refine h_dup C dX9_gotData_496 rfl ?_
  refine h_iconst (v := 2) C dX9_gotData_497 (by decide) ?_
  refine h_iload_w C dX9_gotData_498 rfl ?_
  refine h_iast C dX9_gotData_500 hLqo.k (inb hLqo.2.1 (vp_in_nI (n := 2) (by decide) (by decide))) ?_
  refine h_abs (fun m4 em4 => ?_)
  rw [show Int32.toNatClampNeg 2 = 2 from rfl] at em4
  have hN := hN.at (m' := m4) hz_qo (fun z hz => by rw [em4]; exact same_sei hz) (by rw [em4]; exact hLqo.1)
  have hT := hT.tmp hLqo hwqo em4
  have hM := hT.1
  have hLqo := hLqo.push em4 rfl
  refine h_dup C dX9_gotData_501 rfl ?_
  refine h_iconst (v := 3) C dX9_gotData_502 (by decide) ?_
  refine h_iload_w C dX9_gotData_503 rfl ?_
  refine h_iast C dX9_gotData_505 hLqo.k (inb hLqo.2.1 (vp_in_nI (n := 3) (by decide) (by decide))) ?_
  refine h_abs (fun m5 em5 => ?_)
  rw [show Int32.toNatClampNeg 3 = 3 from rfl] at em5
  have hN := hN.at (m' := m5) hz_qo (fun z hz => by rw [em5]; exact same_sei hz) (by rw [em5]; exact hLqo.1)
  have hT := hT.tmp hLqo hwqo em5
  have hM := hT.1
  have hLqo := hLqo.push em5 rfl
  refine h_dup C dX9_gotData_506 rfl ?_
  refine h_iconst (v := 4) C dX9_gotData_507 (by decide) ?_
  refine h_iload_w C dX9_gotData_508 rfl ?_
  refine h_iast C dX9_gotData_510 hLqo.k (inb hLqo.2.1 (vp_in_nI (n := 4) (by decide) (by decide))) ?_
  refine h_abs (fun m6 em6 => ?_)
  rw [show Int32.toNatClampNeg 4 = 4 from rfl] at em6
  have hN := hN.at (m' := m6) hz_qo (fun z hz => by rw [em6]; exact same_sei hz) (by rw [em6]; exact hLqo.1)
  have hT := hT.tmp hLqo hwqo em6
  have hM := hT.1
  have hLqo := hLqo.push em6 rfl
  have zq := (hN q).1 (by rw [hq1]; decide)
  have hqo : q ≠ qo := fun e9 => by
    have h8 := hLqo.1
    rw [← e9, zq.1, hq1] at h8
    exact absurd h8 (by decide)
  refine h_skd qo KIM (by rw [hLqo.1]; decide) (by rw [hLqo.1]; decide) ?_
  have hT := hT.mark hLqo.1 (k := KIM) ⟨by decide, by decide⟩ hwqo
  have hM := hT.1
  have hRo : RowAt (m6.skd qo KIM) KIM qo 5 (ouR e b g) := hLqo.row rfl (fun i hi => by
    have h9 : i = 0 ∨ i = 1 ∨ i = 2 ∨ i = 3 ∨ i = 4 := by have : i < 5 := hi; omega
    rcases h9 with rfl | rfl | rfl | rfl | rfl <;> rfl)
  have kq : (m6.skd qo KIM).kd q = KTM2 := by rw [(same_skd hqo).1, zq.1]; exact hq1
  have lq : (m6.skd qo KIM).ln q = S.ou.length + 1 := by show m6.ln q = _; rw [zq.2.2.2.2.1]; exact hq2
  have rq : ∀ i (hi : i < S.ou.length), ∃ p, (m6.skd qo KIM).er q i = some p ∧ RowAt (m6.skd qo KIM) KIM p 5 S.ou[i] := fun i hi => by
    obtain ⟨p, p1, p2⟩ := hq3 i hi
    have zp := (hN p).1 (by rw [p2.1]; decide)
    refine ⟨p, by show m6.er q i = _; rw [zq.2.2.2.2.2.2.1]; exact p1, (p2.same zp).same (same_skd (fun e9 => ?_))⟩
    have h8 := hLqo.1
    rw [← e9, zp.1, p2.1] at h8
    exact absurd h8 (by decide)
  rw [show (Int32.ofNat S.ou.length : Int32) = nI S.ou.length from rfl]
  refine h_aast C dX9_gotData_511 (by rw [kq, kd_skd]; decide) (inb lq (vp_in_nI (by omega) (by omega))) ?_
  refine h_abs (fun m9 e9 => ?_)
  rw [show (nI S.ou.length).toNatClampNeg = S.ou.length from cl_of (by omega)] at e9
  have hnu : ∀ z, usK (m9.kd z) → z ≠ q := fun z hz e8 => by
    rw [e8, e9] at hz
    exact usK_tm2 hz kq
  have hT := hT.step (m := m9) (a := q) (fun z hz => by rw [e9]; exact same_ser hz) (Or.inr trivial) (Or.inr (by rw [kq]; unfold isMk; decide)) (by rw [e9]; show isMk (Mem.kd (Mem.skd _ qo KIM) q); rw [kq]; unfold isMk; decide) (hM.same fun z hz => by
    rw [e9]
    exact same_ser (fun e8 => by rw [e8] at hz; exact usK_tm2 hz kq))
  have hM := hT.1
  have kq9 : m9.kd q = KTM2 := by rw [e9]; exact kq
  have lq9 : m9.ln q = S.ou.length + 1 := by rw [e9]; exact lq
  have sm9 : ∀ z, z ≠ q → SameAt _ m9 z := fun z hz => by rw [e9]; exact same_ser hz
  have rq9 : ∀ k r, (S.ou ++ [ouR e b g])[k]? = some r → ∃ p, m9.er q k = some p ∧ RowAt m9 KIM p 5 r := fun k r hk => by
    by_cases c : k < S.ou.length
    · rw [List.getElem?_append_left c, List.getElem?_eq_getElem c] at hk
      cases hk
      obtain ⟨p, p1, p2⟩ := rq k c
      exact ⟨p, (mer_ap e9 (Or.inr (by omega))).trans p1, p2.same (sm9 p (fun e8 => by have h8 := p2.1; rw [e8, kq] at h8; exact absurd h8 (by decide)))⟩
    · rw [List.getElem?_append_right (by omega)] at hk
      have h0 : k - S.ou.length = 0 := by
        have := (List.getElem?_eq_some_iff.mp hk).1
        have h1 : ([ouR e b g] : List Row).length = 1 := rfl
        omega
      rw [h0] at hk
      cases hk
      have hkE : k = S.ou.length := by omega
      subst hkE
      exact ⟨qo, mer_at e9, hRo.same (sm9 qo (fun e8 => hqo e8.symm))⟩
  refine h_al_g C dX9_gotData_512 rfl rfl rfv_r ?_
  refine h_al_w (j := 0) C dX9_gotData_513 rfl rfv_r ?_
  have z5 : ∀ z, usK (m9.kd z) → SameAt m9 (m9.skd q KOA) z := fun z hz => same_skd (fun e8 => by rw [e8] at hz; exact usK_tm2 hz kq9)
  refine h_skd q KOA (by rw [kq9]; decide) (by rw [kq9]; decide) ?_
  have hT := hT.skd (by rw [kq9]; unfold isMk; decide) (k := KOA) ⟨by decide, by decide⟩ (Or.inr trivial) (hM.same z5)
  have hM := hT.1
  have rq8 : ∀ k r, (S.ou ++ [ouR e b g])[k]? = some r → ∃ p, (m9.skd q KOA).er q k = some p ∧ RowAt (m9.skd q KOA) KIM p 5 r := fun k r hk => by
    obtain ⟨p, p1, p2⟩ := rq9 k r hk
    exact ⟨p, p1, p2.same (same_skd (fun e8 => by have h8 := p2.1; rw [e8, kq9] at h8; exact absurd h8 (by decide)))⟩
  refine pf_X9_83 (some _) C dX9_gotData_515 hM.kX rfl ?_
  refine h_abs (fun m7 em7 => ?_)
  have hT := hT.sfr (Or.inr trivial) em7 (hT.1.putO (ou' := S.ou ++ [ouR e b g]) em7 kd_skd (lq9.trans (List.length_append (as := S.ou) (bs := [_])).symm) (by rw [List.length_append]; show S.ou.length + 1 ≤ 600; omega) rq8)
  have hM := hT.1
  refine h_al_g C dX9_gotData_518 rfl rfl rfv_r ?_
  refine gs_X9_20 C dX9_gotData_519 hM.kX (hM.fA (i := 3) (by decide)) ?_
  refine h_iload_g C dX9_gotData_522 rfl rfl ?_
  refine h_dup2 C dX9_gotData_523 rfl rfl ?_
  refine h_iald C dX9_gotData_524 (hM.k11 (by decide)) (inb (hM.ln3 (by decide)) (vp_in_nI he (by decide))) (atI (cl_of (n := e) (by have h9 := he; omega)) (hM.a3 he)) ?_
  refine h_iconst (v := 1) C dX9_gotData_525 (by decide) ?_
  refine h_iadd C dX9_gotData_526 ?_
  refine h_iast C dX9_gotData_527 (hM.k11 (by decide)) (inb (hM.ln3 (by decide)) (vp_in_nI he (by decide))) ?_
  refine h_abs (fun m8 em8 => ?_)
  rw [show (nI e).toNatClampNeg = e from (cl_of (n := e) (by have h9 := he; omega))] at em8
  have hT := hT.sei (j := 3) (by omega) (Or.inr trivial) em8 (hT.1.wOl he (n := (OUT e S.ou).length + 1) (em8.trans (congrArg (fun v => Mem.sei _ _ _ v) (nI_add _ 1))))
  have hM := hT.1
  refine h_iconst (v := 1) C dX9_gotData_528 (by decide) ?_
  refine h_iret C E dX9_gotData_529 (by omega) (by omega) ?_
  refine hP _ _ ((if_neg c5).trans (if_pos cG)).symm ?_
  rw [show BOs S e b g = S.sOu (S.ou ++ [ouR e b g]) from (if_neg c5).trans (if_pos cG)]
  refine hT.lx rfl (fun _ _ => rfl) (fun e9 _ => ?_) (fun _ _ _ _ => rfl) (fun _ _ _ _ _ _ => rfl) (fun _ _ _ _ _ _ z => z) (fun _ _ _ _ _ _ z => z)
  show u1 (fun x => (OUT x S.ou).length) e ((OUT e S.ou).length + 1) e9 = (OUT e9 (S.ou ++ [ouR e b g])).length
  rw [OUT_app, show ouR e b g 0 = nI e from rfl]
  by_cases c9 : e9 = e
  · subst c9
    rw [u1_eq, if_pos rfl, List.length_append]
    rfl
  · rw [u1_ne c9, if_neg (fun z => c9 ((nI_eq (by omega) (by omega)).mp z).symm)]

set_option maxRecDepth 100000 in
set_option maxHeartbeats 1000000 in
theorem lp_X9_bo {Z : Zx} {Post : Option Value → Mem → Prop} {PostX : String → Mem → Prop} {rc rs mc ms : Nat} {Q : Nat → Nat} {S : Sx} {t : Int32} {μ0 mz : Mem} {e b w z s : Nat} {g : Row} (C : Cx Z RX9 cX9_gotData 4 rc rs 101) (E : Rt Z mc ms (some .int) Post PostX) (he : e < 3) (hb : b < 3) (hou : S.ou.length < 512) (hDg : okD g) (hRt : ∀ r ∈ S.rt e, okRw r) {k0 n0 : Nat} (r1 : rc = mc) (r2 : rs = ms) (hk2 : k0 + 2 ≤ mc) (hn2 : n0 + 520 ≤ ms) (hP : ∀ v m, v = BOc S e b g → MTo Q WAll μ0 (BOs S e b g) (LXo (BOs S e b g) t) m → Post (some (.int v)) m)
    (hT : MTo Q WAll μ0 S (LXo S t) mz) (z11 z12 : Option Value) : HW Z k0 n0 399 [some (.ref (Q 0)), some (.int (nI e)), some (.ref z), some (.int (g 3)), some (.int (g 4)), some (.int (g 5)), some (.int (g 6)), some (.int (g 7)), some (.int (nI b)), some (.int (nI w)), some (.ref s), z11, z12] [] mz := by
  have hM := hT.1
  refine h_iload_w C dX9_gotData_399 rfl ?_
  refine h_iconst (v := (-1)) C dX9_gotData_401 (by decide) ?_
  refine h_icmp_ne (tgt := 419) C dX9_gotData_402 (by decide) (fun c5 => ?_) (fun c5 => ?_)
  · refine h_al_g C dX9_gotData_419 rfl rfl rfv_r ?_
    refine h_iload_g C dX9_gotData_420 rfl rfl ?_
    refine h_iload_w C dX9_gotData_421 rfl ?_
    refine h_callV2 (ci := 9) C (k_X9_given Z.l Z.G Q S t _ hM e he _ rfl (g 5) (hDg.2.2 c5) hRt) cw_X9_196 im_X9_given sl_X9_given rfl (by decide) hM.kX dX9_gotData_423 (by first | decide | exact Nat.le_of_ble_eq_true rfl) (by decide) (by decide) (by omega) (by omega) (kI fun r1 μ1 hp1 => ?_) kN
    obtain ⟨rfl, rfl⟩ := hp1
    refine h_iload_w C dX9_gotData_426 rfl ?_
    refine h_icmp_eq (tgt := 434) C dX9_gotData_428 (by decide) (fun cG => ?_) (fun cG => ?_)
    · obtain ⟨h60, A, a1, a2, a3, a4⟩ := hM.ou
      refine h_al_g C dX9_gotData_434 rfl rfl rfv_r ?_
      refine gs_X9_83 C dX9_gotData_435 hM.kX a1 ?_
      refine h_alen C dX9_gotData_438 ⟨by rw [a2]; decide, by rw [a2]; decide⟩ a3 ?_
      refine h_iconst (v := 1) C dX9_gotData_439 (by decide) ?_
      refine h_iadd C dX9_gotData_440 ?_
      rw [show (Int32.ofNat S.ou.length + 1 : Int32) = nI (S.ou.length + 1) from nI_add S.ou.length 1]
      refine h_anew17 (17 + 32 * 100) (N := S.ou.length + 1) C kl_X9_199 (by decide) dX9_gotData_441 (nI_pos (by omega)) (cl_of (by omega)) (by omega) (by omega) (by omega) (fun q hq => ?_)
      refine h_abs (fun mq eq => ?_)
      have hT := hT.newM hq eq ⟨by decide, by decide⟩
      have hM := hT.1
      refine h_ast_11 C dX9_gotData_444 ct_r rfv_r ?_
      refine h_iconst (v := 0) C dX9_gotData_446 (by decide) ?_
      refine h_ist_12 C dX9_gotData_447 ct_r ?_
      exact lp_X9_oc C (by omega) (by omega) (fun m9 hT9 q1 q2 q3 z12 => lp_X9_o2 C E he hb hou r1 r2 (by omega) (by omega) c5 cG hP hT9 q1 q2 q3 z12) S.ou.length 0 _ (by omega) hT (by rw [eq]; exact kd_newA) (by rw [eq]; exact ln_newA) (fun i _ h => absurd h (Nat.not_lt_zero _))
    · refine h_bipush (v := (-5)) C dX9_gotData_431 (by decide) ?_
      refine h_iret C E dX9_gotData_433 (by omega) (by omega) ?_
      exact hP _ _ ((if_neg c5).trans (if_neg cG)).symm (by rw [show BOs S e b g = S from (if_neg c5).trans (if_neg cG)]; exact hT)
  · obtain ⟨h6, h7⟩ := hDg.2.1 c5
    refine h_iload_w C dX9_gotData_405 rfl ?_
    refine h_iconst (v := (-1)) C dX9_gotData_407 (by decide) ?_
    refine h_icmp_ne (tgt := 419) C dX9_gotData_408 (by decide) (fun c3 => absurd c3 ((fun z => z h6))) (fun c3 => ?_)
    refine h_iload_w C dX9_gotData_411 rfl ?_
    refine h_iconst (v := (-1)) C dX9_gotData_413 (by decide) ?_
    refine h_icmp_ne (tgt := 419) C dX9_gotData_414 (by decide) (fun c4 => absurd c4 ((fun z => z h7))) (fun c4 => ?_)
    refine h_iconst (v := 2) C dX9_gotData_417 (by decide) ?_
    refine h_iret C E dX9_gotData_418 (by omega) (by omega) ?_
    exact hP _ _ (if_pos c5).symm (by rw [show BOs S e b g = S from if_pos c5]; exact hT)

set_option maxRecDepth 100000 in
set_option maxHeartbeats 1000000 in
theorem lp_X9_tk {Z : Zx} {rc rs : Nat} {Q : Nat → Nat} {S : Sx} {t : Int32} {μ0 mz : Mem} {e b w z s : Nat} {g : Row} {r : Ses} (C : Cx Z RX9 cX9_gotData 4 rc rs 101) (he : e < 3) (hb : b < 3) (hw : w < 3) {k0 n0 : Nat} (hk2 : k0 + 14 ≤ rc) (hn2 : n0 + 161 ≤ rs) (hr : S.ses e b w = some r) (hc : 0 ≤ (g 4).toInt ∧ (g 4).toInt < 40) (hpos : 0 < (r.1 0).toInt) (hK3 : r.1 3 = nI (cl (r.1 3)) ∧ cl (r.1 3) < 65521)
    (hT : MTo Q WAll μ0 S (LXo S t) mz) (s1 : mz.er (Q (72 + 3 * e + b)) w = some s) (hR_s : RowAt mz (KSE e b w) s 9 r.1) (hR_z : RowAt mz KLR z 16 g)
    (kk : ∀ m, MTo Q WAll μ0 (TDP S e b w r g) (LXo (TDP S e b w r g) t) m → ∀ z11 z12 : Option Value, HW Z (k0 + 14) (n0 + 161) 399 [some (.ref (Q 0)), some (.int (nI e)), some (.ref z), some (.int (g 3)), some (.int (g 4)), some (.int (g 5)), some (.int (g 6)), some (.int (g 7)), some (.int (nI b)), some (.int (nI w)), some (.ref s), z11, z12] [] m) (z11 z12 : Option Value) : HW Z k0 n0 249 [some (.ref (Q 0)), some (.int (nI e)), some (.ref z), some (.int (g 3)), some (.int (g 4)), some (.int (g 5)), some (.int (g 6)), some (.int (g 7)), some (.int (nI b)), some (.int (nI w)), some (.ref s), z11, z12] [] mz := by
  have hM := hT.1
  have hcl : cl (g 4) < 40 := by have := cl_eq hc.1; omega
  have hBw : (0 : Int64).toInt ≤ (g 4).toInt ∧ (g 4).toInt ≤ (39 : Int64).toInt := by
    have h0 : (0 : Int64).toInt = 0 := by decide
    have h9 : (39 : Int64).toInt = 39 := by decide
    rw [h0, h9]
    exact ⟨hc.1, by omega⟩
  have hBy : ∀ d, d < 40 → BITn (TAKr r (g 4)).2 d = if d = cl (g 4) then 1 else BITn r.2 d := fun d hd => by
    have h9 := BITn_or r.2 (cl (g 4)) hcl d hd
    rw [← cl_nI hc.1] at h9
    exact h9
  refine h_iload_w C dX9_gotData_249 rfl ?_
  refine h_i2l C dX9_gotData_251 ?_
  refine h_lconst (v := 0) C dX9_gotData_252 (by decide) ?_
  refine h_ldc2 C kc_X9_194 dX9_gotData_253 ?_
  refine h_callS3 C (k_X9_isBetween Z.l Z.G _ _ _ _) cw_X9_91 st_X9_isBetween dX9_gotData_256 (by first | decide | exact Nat.le_of_ble_eq_true rfl) (by decide) (by decide) (by omega) (by omega) (kB (fun μ1 hp1 => ?_) (fun μ1 hp1 => ?_)) kN
  · obtain ⟨rfl, hBt⟩ := hp1
    refine h_if_eq (tgt := 278) C dX9_gotData_259 (by decide) (fun c1 => absurd c1 (by decide)) (fun c1 => ?_)
    refine h_al_g C dX9_gotData_262 rfl rfl rfv_r ?_
    refine gs_X9_77 C dX9_gotData_263 hM.kX (hM.fA (i := 19) (by decide)) ?_
    refine h_iload_g C dX9_gotData_266 rfl rfl ?_
    refine h_aald (r := some _) C dX9_gotData_267 (hM.kr (by decide)) (inb (hM.ln3 (by decide)) (vp_in_nI he (by decide))) (atI (cl_of (n := e) (by have h9 := he; omega)) (hM.d1 (i := 2) (by decide) he)) ?_
    refine h_iload_w C dX9_gotData_268 rfl ?_
    refine h_aald (r := some _) C dX9_gotData_270 (hM.kr (by have h0_ := he; omega)) (inb (hM.ln3 (by have h0_ := he; omega)) (vp_in_nI hb (by decide))) (atI (cl_of (n := b) (by have h9 := hb; omega)) (hM.d2 (i := 2) (by decide) he hb)) ?_
    refine h_iload_w C dX9_gotData_271 rfl ?_
    obtain ⟨u, hu1, hu2, hu3, hu4⟩ := hM.tk he hb (w := w) hw (fun z => z)
    rw [TKE hr] at hu4
    refine h_aald (r := some _) C dX9_gotData_273 (hM.kr (by omega)) (inb (hM.ln3 (by omega)) (vp_in_nI hw (by decide))) (atI (cl_of (by omega)) hu1) ?_
    refine h_iload_w C dX9_gotData_274 rfl ?_
    refine h_iconst (v := 1) C dX9_gotData_276 (by decide) ?_
    refine h_zast C dX9_gotData_277 (by rw [hu2]; exact KTK_m _ _ _) (inb hu3 (vp_isE hc.1 hc.2 (by decide))) (Or.inr rfl) ?_
    refine h_abs (fun m1 e1 => ?_)
    have hsu : s ≠ u := fun e9 => by have h8 := hR_s.1; rw [e9, hu2] at h8; have h9 : 12 + 32 * (230 + 9 * e + 3 * b + w) = 11 + 32 * (200 + 9 * e + 3 * b + w) := h8; omega
    have hzu : z ≠ u := fun e9 => by have h8 := hR_z.1; rw [e9, hu2] at h8; have h9 : 12 + 32 * (230 + 9 * e + 3 * b + w) = 11 + 32 * 260 := h8; omega
    have hT := hT.seD (by rw [hu2]; exact ⟨by unfold KTK; omega, by unfold KTK; omega⟩) (Or.inr trivial) e1 (hM.cTk (y := (TAKr r (g 4)).2) (hBy _ hcl |>.trans (if_pos rfl)) (fun c hc9 hne => by rw [hBy c hc9, if_neg hne, TKE hr]) he hb hw hu1 hu2 e1)
    have hM := hT.1
    have hR_s := hR_s.same (μ' := m1) (by rw [e1]; exact same_sei hsu)
    have hR_z := hR_z.same (μ' := m1) (by rw [e1]; exact same_sei hzu)
    have s1 : m1.er (Q (72 + 3 * e + b)) w = some s := by rw [e1]; exact s1
    refine h_al_w (j := 0) C dX9_gotData_278 rfl rfv_r ?_
    refine h_bipush (v := 7) C dX9_gotData_280 (by decide) ?_
    refine h_al_w (j := 0) C dX9_gotData_282 rfl rfv_r ?_
    refine h_bipush (v := 7) C dX9_gotData_284 (by decide) ?_
    refine h_iald C dX9_gotData_286 (by rw [hR_s.1]; exact KSE_m _ _ _) (inb hR_s.2.1 (vp_in_nI (n := 7) (by decide) (by decide))) (hR_s.2.2 7 (by decide)) ?_
    refine h_iload_w C dX9_gotData_287 rfl ?_
    refine h_callS2 C (k_J9_max_7cf53 Z.l Z.G _ _ _) cw_X9_145 st_J9_max_7cf53 dX9_gotData_289 (by first | decide | exact Nat.le_of_ble_eq_true rfl) (by decide) (by decide) (by omega) (by omega) (kI fun r2 μ2 hp2 => ?_) kN
    obtain ⟨rfl, rfl⟩ := hp2
    refine h_iast C dX9_gotData_292 (by rw [hR_s.1]; exact KSE_m _ _ _) (inb hR_s.2.1 (vp_in_nI (n := 7) (by decide) (by decide))) ?_
    refine h_abs (fun m2 e2 => ?_)
    rw [show Int32.toNatClampNeg 7 = 7 from rfl] at e2
    have hsz : z ≠ s := fun e9 => by have h8 := hR_z.1; rw [e9, hR_s.1] at h8; have h9 : 11 + 32 * (200 + 9 * e + 3 * b + w) = 11 + 32 * 260 := h8; omega
    have hT := hT.seD (by rw [hR_s.1]; exact ⟨by unfold KSE; omega, by unfold KSE; omega⟩) (Or.inr trivial) e2 (hM.cSe (r := r) (r9 := (u1 r.1 7 (if r.1 7 < g 4 then g 4 else r.1 7), r.2)) hr rfl rfl (fun j _ hj => u1_ne hj) he hb hw s1 hR_s.1 e2)
    have hM := hT.1
    have hR_s : RowAt m2 (KSE e b w) s 9 (u1 r.1 7 (if r.1 7 < g 4 then g 4 else r.1 7)) := hR_s.put e2
    have hR_z := hR_z.same (μ' := m2) (by rw [e2]; exact same_sei hsz)
    have s1 : m2.er (Q (72 + 3 * e + b)) w = some s := by rw [e2]; exact s1
    refine h_al_w (j := 0) C dX9_gotData_293 rfl rfv_r ?_
    refine h_bipush (v := 8) C dX9_gotData_295 (by decide) ?_
    refine h_dup2 C dX9_gotData_297 rfl rfl ?_
    refine h_iald C dX9_gotData_298 (by rw [hR_s.1]; exact KSE_m _ _ _) (inb hR_s.2.1 (vp_in_nI (n := 8) (by decide) (by decide))) (hR_s.2.2 8 (by decide)) ?_
    refine h_iconst (v := 1) C dX9_gotData_299 (by decide) ?_
    refine h_iadd C dX9_gotData_300 ?_
    refine h_iast C dX9_gotData_301 (by rw [hR_s.1]; exact KSE_m _ _ _) (inb hR_s.2.1 (vp_in_nI (n := 8) (by decide) (by decide))) ?_
    refine h_abs (fun m3 e3 => ?_)
    rw [show Int32.toNatClampNeg 8 = 8 from rfl] at e3
    have hT := hT.seD (by rw [hR_s.1]; exact ⟨by unfold KSE; omega, by unfold KSE; omega⟩) (Or.inr trivial) e3 (hM.cSe (r := (u1 r.1 7 (if r.1 7 < g 4 then g 4 else r.1 7), r.2)) (r9 := TAKr r (g 4)) w3_eq rfl rfl (fun j _ hj => by
      show u1 (u1 r.1 8 (r.1 8 + 1)) 7 (if r.1 7 < g 4 then g 4 else r.1 7) j = u1 r.1 7 (if r.1 7 < g 4 then g 4 else r.1 7) j
      by_cases c : j = 7
      · subst c; rw [u1_eq, u1_eq]
      · rw [u1_ne c, u1_ne c, u1_ne hj]) he hb hw s1 hR_s.1 e3)
    rw [sSes_sSes] at hT
    have hM := hT.1
    have hR_s : RowAt m3 (KSE e b w) s 9 (TAKr r (g 4)).1 := (hR_s.put e3).ext (fun j _ => by
      show u1 (u1 r.1 7 (if r.1 7 < g 4 then g 4 else r.1 7)) 8 _ j = u1 (u1 r.1 8 (r.1 8 + 1)) 7 (if r.1 7 < g 4 then g 4 else r.1 7) j
      by_cases c : j = 8
      · subst c; rfl
      · rw [u1_ne c]
        by_cases c7 : j = 7
        · subst c7; rw [u1_eq, u1_eq]
        · rw [u1_ne c7, u1_ne c7, u1_ne c])
    have hR_z := hR_z.same (μ' := m3) (by rw [e3]; exact same_sei hsz)
    refine h_al_g C dX9_gotData_302 rfl rfl rfv_r ?_
    refine gs_X9_37 C dX9_gotData_303 hM.kX (hM.fA (i := 7) (by decide)) ?_
    refine h_iload_g C dX9_gotData_306 rfl rfl ?_
    refine h_aald (r := some _) C dX9_gotData_307 (hM.kr (by decide)) (inb (hM.ln3 (by decide)) (vp_in_nI he (by decide))) (atI (cl_of (n := e) (by have h9 := he; omega)) (hM.tb (t := 0) (by decide) he)) ?_
    refine h_iload_w C dX9_gotData_308 rfl ?_
    refine h_al_g C dX9_gotData_310 rfl rfl rfv_r ?_
    refine h_iconst (v := 0) C dX9_gotData_311 (by decide) ?_
    refine h_iald C dX9_gotData_312 (by rw [hR_z.1]; first | decide | exact KSE_m _ _ _) (inb hR_z.2.1 (vp_in_nI (n := 0) (by decide) (by decide))) (hR_z.2.2 0 (by decide)) ?_
    refine h_iast C dX9_gotData_313 (hM.k11 (by have h0_ := he; omega)) (inb (hM.ln3 (by have h0_ := he; omega)) (vp_in_nI hb (by decide))) ?_
    refine h_abs (fun m1 em1 => ?_)
    rw [show (nI b).toNatClampNeg = b from (cl_of (n := b) (by have h9 := hb; omega))] at em1
    have hR_s := hR_s.wQ hM (by first | decide | (unfold KSE; omega) | (unfold KSE KTMP; omega)) (j := 21 + 3 * 0 + e) (by have h0_ := he; omega) em1
    have hR_z := hR_z.wQ hM (by first | decide | (unfold KSE; omega) | (unfold KSE KTMP; omega)) (j := 21 + 3 * 0 + e) (by have h0_ := he; omega) em1
    have hT := hT.sei (j := 21 + 3 * 0 + e) (by have h0_ := he; omega) (Or.inr trivial) em1 (hT.1.wT0 he hb em1)
    have hM := hT.1
    have hT : MTo Q WAll μ0 (TDT S e b w r g) (LXo (TDT S e b w r g) t) m1 := hT.lx rfl (fun _ _ => rfl) (fun _ _ => rfl) (fun _ _ _ _ => rfl) (fun a9 b9 w9 _ _ _ => by
      show w3 (fun x y z => TKo (S.ses x y z)) e b w (TAKr r (g 4)).2 a9 b9 w9 = TKo (w3 S.ses e b w (some (TAKr r (g 4))) a9 b9 w9)
      by_cases c : a9 = e ∧ b9 = b ∧ w9 = w
      · obtain ⟨rfl, rfl, rfl⟩ := c
        rw [w3_eq, w3_eq]
        rfl
      · rw [w3_ne c, w3_ne c]) (fun _ _ _ _ _ _ z => z) (fun _ _ _ _ _ _ z => z)
    have hM := hT.1
    refine h_iload_w C dX9_gotData_314 rfl ?_
    refine h_iconst (v := 2) C dX9_gotData_316 (by decide) ?_
    refine h_icmp_ne (tgt := 399) C dX9_gotData_317 (by decide) (fun cw => ?_) (fun cw => ?_)
    · have hw2 : ¬ w = 2 := fun z => cw (by rw [z]; rfl)
      exact h_widen (by omega) (by omega) (kk _ (by rw [show TDP S e b w r g = TDT S e b w r g from if_neg hw2]; exact hT) _ _)
    · have hw2 : w = 2 := (nI_eq (a := w) (b := 2) (by omega) (by decide)).mp cw
      subst hw2
      have hr2 : (TDT S e b 2 r g).ses e b 2 = some (TAKr r (g 4)) := w3_eq
      refine h_al_g C dX9_gotData_320 rfl rfl rfv_r ?_
      refine h_iload_g C dX9_gotData_321 rfl rfl ?_
      refine h_iload_w C dX9_gotData_322 rfl ?_
      refine h_callV2 (ci := 9) C (k_X9_turnOver Z.l Z.G Q _ _ _ hM e he _ rfl b hb _ rfl (fun z => z) (fun z => z)) cw_X9_187 im_X9_turnOver sl_X9_turnOver rfl (by decide) hM.kX dX9_gotData_324 (by first | decide | exact Nat.le_of_ble_eq_true rfl) (by decide) (by decide) (by omega) (by omega) (kV fun μ3 hp3 => ?_) kN
      have hTo9 := hp3
      have hR_s := hR_s.same (hTo9.2.2 s (by rw [hR_s.1]; unfold KSE; omega) (fun h => by
        rw [hR_s.1] at h
        rcases h with h | h | h | h
        · exact KM_hi (by omega) (k := KSE e b 2) (by unfold KSE; omega) h.symm
        · exact KM_hi (by omega) (k := KSE e b 2) (by unfold KSE; omega) h.symm
        · exact KSE_ne hb (by decide) hb (by decide) (fun z => absurd z.2.2 (by decide)) h
        · have h9 : 11 + 32 * (200 + 9 * e + 3 * b + 2) = 12 + 32 * (230 + 9 * e + 3 * b + 1) := h
          omega))
      have hT := hT.tr hTo9 (fun _ _ => trivial)
      have hM := hT.1
      refine h_al_g C dX9_gotData_327 rfl rfl rfv_r ?_
      refine gs_X9_72 C dX9_gotData_328 hM.kX (hM.fA (i := 18) (by decide)) ?_
      refine h_iload_g C dX9_gotData_331 rfl rfl ?_
      refine h_aald (r := some _) C dX9_gotData_332 (hM.kr (by decide)) (inb (hM.ln3 (by decide)) (vp_in_nI he (by decide))) (atI (cl_of (n := e) (by have h9 := he; omega)) (hM.d1 (i := 1) (by decide) he)) ?_
      refine h_iload_w C dX9_gotData_333 rfl ?_
      refine h_aald (r := some _) C dX9_gotData_335 (hM.kr (by have h0_ := he; omega)) (inb (hM.ln3 (by have h0_ := he; omega)) (vp_in_nI hb (by decide))) (atI (cl_of (n := b) (by have h9 := hb; omega)) (hM.d2 (i := 1) (by decide) he hb)) ?_
      refine h_iconst (v := 1) C dX9_gotData_336 (by decide) ?_
      refine h_al_w (j := 0) C dX9_gotData_337 rfl rfv_r ?_
      refine h_skd s (KSE e b 1) (by rw [hR_s.1, KSE_m, KSE_m]) (by rw [hR_s.1]; unfold KSE; omega) ?_
      have hT := hT.skd (by rw [hR_s.1]; exact ⟨by unfold KSE; omega, by unfold KSE; omega⟩) (k := KSE e b 1) ⟨by unfold KSE; omega, by unfold KSE; omega⟩ (Or.inr trivial) (hM.hSe hR_s.1 he hb (by decide))
      have hM := hT.1
      refine h_aast C dX9_gotData_339 (by rw [hM.k17 (by omega), kd_skd, KSE_m]; decide) (inb (hM.ln3 (by omega)) (vp_in_nI (n := 1) (by decide) (by decide))) ?_
      refine h_abs (fun m20 e20 => ?_)
      rw [show Int32.toNatClampNeg 1 = 1 from rfl] at e20
      have hT := hT.ser (j := 72 + 3 * e + b) (by omega) (Or.inr trivial) e20 (hM.pSe he hb (w := 1) (by decide) e20 kd_skd hR_s.2.1 (o := (TDT S e b 2 r g).ses e b 2) (by rw [hr2]; exact ⟨hpos, fun j hj => hR_s.2.2 j hj⟩))
      have hM := hT.1
      refine h_al_g C dX9_gotData_340 rfl rfl rfv_r ?_
      refine gs_X9_77 C dX9_gotData_341 hM.kX (hM.fA (i := 19) (by decide)) ?_
      refine h_iload_g C dX9_gotData_344 rfl rfl ?_
      refine h_aald (r := some _) C dX9_gotData_345 (hM.kr (by decide)) (inb (hM.ln3 (by decide)) (vp_in_nI he (by decide))) (atI (cl_of (n := e) (by have h9 := he; omega)) (hM.d1 (i := 2) (by decide) he)) ?_
      refine h_iload_w C dX9_gotData_346 rfl ?_
      refine h_aald (r := some _) C dX9_gotData_348 (hM.kr (by have h0_ := he; omega)) (inb (hM.ln3 (by have h0_ := he; omega)) (vp_in_nI hb (by decide))) (atI (cl_of (n := b) (by have h9 := hb; omega)) (hM.d2 (i := 2) (by decide) he hb)) ?_
      refine h_iconst (v := 1) C dX9_gotData_349 (by decide) ?_
      refine h_al_g C dX9_gotData_350 rfl rfl rfv_r ?_
      refine gs_X9_77 C dX9_gotData_351 hM.kX (hM.fA (i := 19) (by decide)) ?_
      refine h_iload_g C dX9_gotData_354 rfl rfl ?_
      refine h_aald (r := some _) C dX9_gotData_355 (hM.kr (by decide)) (inb (hM.ln3 (by decide)) (vp_in_nI he (by decide))) (atI (cl_of (n := e) (by have h9 := he; omega)) (hM.d1 (i := 2) (by decide) he)) ?_
      refine h_iload_w C dX9_gotData_356 rfl ?_
      refine h_aald (r := some _) C dX9_gotData_358 (hM.kr (by have h0_ := he; omega)) (inb (hM.ln3 (by have h0_ := he; omega)) (vp_in_nI hb (by decide))) (atI (cl_of (n := b) (by have h9 := hb; omega)) (hM.d2 (i := 2) (by decide) he hb)) ?_
      refine h_iconst (v := 2) C dX9_gotData_359 (by decide) ?_
      obtain ⟨u, hu1, hu2, hu3, hu4⟩ := hM.tk he hb (w := 2) (by decide) (fun z => by
        have z9 : w3 (w3 (fun _ _ _ => False) e b 1 True) e b 0 False e b 2 := z
        rw [w3_ne (fun h => absurd h.2.2 (by decide)), w3_ne (fun h => absurd h.2.2 (by decide))] at z9
        exact z9)
      refine h_aald (r := some _) C dX9_gotData_360 (hM.kr (by omega)) (inb (hM.ln3 (by omega)) (vp_in_nI (n := 2) (by decide) (by decide))) (atI (show Int32.toNatClampNeg 2 = 2 from rfl) hu1) ?_
      refine h_skd u (KTK e b 1) (by rw [hu2, KTK_m, KTK_m]) (by rw [hu2]; unfold KTK; omega) ?_
      have hT := hT.skd (by rw [hu2]; exact ⟨by unfold KTK; omega, by unfold KTK; omega⟩) (k := KTK e b 1) ⟨by unfold KTK; omega, by unfold KTK; omega⟩ (Or.inr trivial) (hM.hTk hu2 he hb (by decide))
      have hM := hT.1
      refine h_aast C dX9_gotData_361 (by rw [hM.k20 (by omega), kd_skd, KTK_m]; decide) (inb (hM.ln3 (by omega)) (vp_in_nI (n := 1) (by decide) (by decide))) ?_
      refine h_abs (fun m22 e22 => ?_)
      rw [show Int32.toNatClampNeg 1 = 1 from rfl] at e22
      have hT := hT.ser (j := 81 + 3 * e + b) (by omega) (Or.inr trivial) e22 (hM.pTk he hb (w := 1) (by decide) e22 kd_skd hu3 hu4)
      have hM := hT.1
      refine h_al_g C dX9_gotData_362 rfl rfl rfv_r ?_
      refine gs_X9_72 C dX9_gotData_363 hM.kX (hM.fA (i := 18) (by decide)) ?_
      refine h_iload_g C dX9_gotData_366 rfl rfl ?_
      refine h_aald (r := some _) C dX9_gotData_367 (hM.kr (by decide)) (inb (hM.ln3 (by decide)) (vp_in_nI he (by decide))) (atI (cl_of (n := e) (by have h9 := he; omega)) (hM.d1 (i := 1) (by decide) he)) ?_
      refine h_iload_w C dX9_gotData_368 rfl ?_
      refine h_aald (r := some _) C dX9_gotData_370 (hM.kr (by have h0_ := he; omega)) (inb (hM.ln3 (by have h0_ := he; omega)) (vp_in_nI hb (by decide))) (atI (cl_of (n := b) (by have h9 := hb; omega)) (hM.d2 (i := 1) (by decide) he hb)) ?_
      refine h_iconst (v := 2) C dX9_gotData_371 (by decide) ?_
      refine h_bipush (v := 9) C dX9_gotData_372 (by decide) ?_
      refine h_newarr (atype := .int) (N := 9) (11 + 32 * (200 + 9 * e + 3 * b + 2)) C ac_11 (by rw [(show (11 + 32 * (200 + 9 * e + 3 * b + 2)) % 32 = 11 by first | decide | omega | (unfold FM; omega))]; rfl) (Or.inl (show (11 + 32 * (200 + 9 * e + 3 * b + 2)) % 32 = 11 by first | decide | omega | (unfold FM; omega))) dX9_gotData_374 (by decide) (by decide) (by decide) (by omega) (by omega) (fun q9 hq9 => ?_)
      refine h_abs (fun m23 e23 => ?_)
      have hT := hT.newM hq9 e23 ⟨by omega, by omega⟩
      have hM := hT.1
      have k9 : m23.kd q9 = KSE e b 2 := by rw [e23]; exact kd_newA
      refine h_aast C dX9_gotData_376 (by rw [hM.k17 (by omega), k9, KSE_m]; decide) (inb (hM.ln3 (by omega)) (vp_in_nI (n := 2) (by decide) (by decide))) ?_
      refine h_abs (fun m24 e24 => ?_)
      rw [show Int32.toNatClampNeg 2 = 2 from rfl] at e24
      have hT := hT.ser (j := 72 + 3 * e + b) (by omega) (Or.inr trivial) e24 (hM.pSe he hb (w := 2) (by decide) e24 k9 (by rw [e23]; exact ln_newA) (o := none) (by show m23.ei q9 0 = 0; rw [e23, z_ei_newA, if_pos rfl]))
      have hM := hT.1
      refine h_al_g C dX9_gotData_377 rfl rfl rfv_r ?_
      refine gs_X9_77 C dX9_gotData_378 hM.kX (hM.fA (i := 19) (by decide)) ?_
      refine h_iload_g C dX9_gotData_381 rfl rfl ?_
      refine h_aald (r := some _) C dX9_gotData_382 (hM.kr (by decide)) (inb (hM.ln3 (by decide)) (vp_in_nI he (by decide))) (atI (cl_of (n := e) (by have h9 := he; omega)) (hM.d1 (i := 2) (by decide) he)) ?_
      refine h_iload_w C dX9_gotData_383 rfl ?_
      refine h_aald (r := some _) C dX9_gotData_385 (hM.kr (by have h0_ := he; omega)) (inb (hM.ln3 (by have h0_ := he; omega)) (vp_in_nI hb (by decide))) (atI (cl_of (n := b) (by have h9 := hb; omega)) (hM.d2 (i := 2) (by decide) he hb)) ?_
      refine h_iconst (v := 2) C dX9_gotData_386 (by decide) ?_
      refine h_bipush (v := 40) C dX9_gotData_387 (by decide) ?_
      refine h_newarr (atype := .boolean) (N := 40) (12 + 32 * (230 + 9 * e + 3 * b + 2)) C ac_12 (by rw [(show (12 + 32 * (230 + 9 * e + 3 * b + 2)) % 32 = 12 by first | decide | omega | (unfold FM; omega))]; rfl) (Or.inr (Or.inl (show (12 + 32 * (230 + 9 * e + 3 * b + 2)) % 32 = 12 by first | decide | omega | (unfold FM; omega)))) dX9_gotData_389 (by decide) (by decide) (by decide) (by omega) (by omega) (fun q8 hq8 => ?_)
      refine h_abs (fun m25 e25 => ?_)
      have hT := hT.newM hq8 e25 ⟨by omega, by omega⟩
      have hM := hT.1
      have k8 : m25.kd q8 = KTK e b 2 := by rw [e25]; exact kd_newA
      refine h_aast C dX9_gotData_391 (by rw [hM.k20 (by omega), k8, KTK_m]; decide) (inb (hM.ln3 (by omega)) (vp_in_nI (n := 2) (by decide) (by decide))) ?_
      refine h_abs (fun m26 e26 => ?_)
      rw [show Int32.toNatClampNeg 2 = 2 from rfl] at e26
      have hT := hT.ser (j := 81 + 3 * e + b) (by omega) (Or.inr trivial) e26 (hM.pTk he hb (w := 2) (by decide) e26 k8 (by rw [e25]; exact ln_newA) (v := 0) (fun c hc9 => by rw [e25, z_ei_newA, if_pos rfl]; exact (BITn_0 c hc9).symm))
      have hT : MTo Q WAll μ0 (PRO (TDT S e b 2 r g) e b) (LXo (PRO (TDT S e b 2 r g) e b) t) m26 := by
        refine hT.lx rfl (fun _ _ => rfl) (fun _ _ => rfl) (fun _ _ _ _ => rfl) (fun a9 b9 w9 _ _ _ => ?_) (fun a9 b9 w9 _ _ _ z => ?_) (fun a9 b9 w9 _ _ _ z => ?_)
        · show w3 (w3 (w3 (fun x y z => TKo ((TDT S e b 2 r g).ses x y z)) e b 0 (TKo ((TDT S e b 2 r g).ses e b 1))) e b 1 (w3 (fun x y z => TKo ((TDT S e b 2 r g).ses x y z)) e b 0 (TKo ((TDT S e b 2 r g).ses e b 1)) e b 2)) e b 2 0 a9 b9 w9 = TKo (w3 (w3 (w3 (TDT S e b 2 r g).ses e b 0 ((TDT S e b 2 r g).ses e b 1)) e b 1 ((TDT S e b 2 r g).ses e b 2)) e b 2 none a9 b9 w9)
          rw [show w3 (fun x y z => TKo ((TDT S e b 2 r g).ses x y z)) e b 0 (TKo ((TDT S e b 2 r g).ses e b 1)) e b 2 = TKo ((TDT S e b 2 r g).ses e b 2) from w3_ne (fun h => absurd h.2.2 (by decide))]
          by_cases c2 : a9 = e ∧ b9 = b ∧ w9 = 2
          · obtain ⟨rfl, rfl, rfl⟩ := c2
            rw [w3_eq, w3_eq]
            rfl
          · rw [w3_ne c2, w3_ne c2]
            by_cases c1 : a9 = e ∧ b9 = b ∧ w9 = 1
            · obtain ⟨rfl, rfl, rfl⟩ := c1
              rw [w3_eq, w3_eq]
            · rw [w3_ne c1, w3_ne c1]
              by_cases c0 : a9 = e ∧ b9 = b ∧ w9 = 0
              · obtain ⟨rfl, rfl, rfl⟩ := c0
                rw [w3_eq, w3_eq]
              · rw [w3_ne c0, w3_ne c0]
        · have z9 : w3 (w3 (w3 (w3 (w3 (fun _ _ _ => False) e b 1 True) e b 0 False) e b 2 True) e b 1 False) e b 2 False a9 b9 w9 := z
          unfold w3 at z9
          by_cases c2 : a9 = e ∧ b9 = b ∧ w9 = 2
          · rw [if_pos c2] at z9; exact z9
          · rw [if_neg c2] at z9
            by_cases c1 : a9 = e ∧ b9 = b ∧ w9 = 1
            · rw [if_pos c1] at z9; exact z9
            · rw [if_neg c1, if_neg c2] at z9
              by_cases c0 : a9 = e ∧ b9 = b ∧ w9 = 0
              · rw [if_pos c0] at z9; exact z9
              · rw [if_neg c0, if_neg c1] at z9; exact z9
        · have z9 : w3 (w3 (w3 (w3 (w3 (fun _ _ _ => False) e b 1 True) e b 0 False) e b 2 True) e b 1 False) e b 2 False a9 b9 w9 := z
          unfold w3 at z9
          by_cases c2 : a9 = e ∧ b9 = b ∧ w9 = 2
          · rw [if_pos c2] at z9; exact z9
          · rw [if_neg c2] at z9
            by_cases c1 : a9 = e ∧ b9 = b ∧ w9 = 1
            · rw [if_pos c1] at z9; exact z9
            · rw [if_neg c1, if_neg c2] at z9
              by_cases c0 : a9 = e ∧ b9 = b ∧ w9 = 0
              · rw [if_pos c0] at z9; exact z9
              · rw [if_neg c0, if_neg c1] at z9; exact z9
      have hM := hT.1
      have hoK : okKm (PRO (TDT S e b 2 r g) e b) e b := fun r9 h9 => by
        have h8 : (PRO (TDT S e b 2 r g) e b).ses e b 1 = some (TAKr r (g 4)) := (w3_ne (fun h => absurd h.2.2 (by decide))).trans (w3_eq.trans hr2)
        rw [h8] at h9
        cases h9
        exact hK3
      refine h_al_g C dX9_gotData_392 rfl rfl rfv_r ?_
      refine h_iload_g C dX9_gotData_393 rfl rfl ?_
      refine h_iload_w C dX9_gotData_394 rfl ?_
      refine h_callV2 (ci := 9) C (k_X9_sendWaiting Z.l Z.G Q _ t _ hM e he _ rfl b hb _ rfl hoK) cw_X9_191 im_X9_sendWaiting sl_X9_sendWaiting rfl (by decide) hM.kX dX9_gotData_396 (by first | decide | exact Nat.le_of_ble_eq_true rfl) (by decide) (by decide) (by omega) (by omega) (kV fun μ4 hp4 => ?_) kN
      have hSw := hp4
      have hT := hT.tr hSw (fun _ _ => trivial)
      have hM := hT.1
      exact h_widen (by omega) (by omega) (kk _ (by rw [show TDP S e b 2 r g = SWT e b (S.wt e b).length (PRO (TDT S e b 2 r g) e b) from if_pos rfl]; exact hT) _ _)
  · obtain ⟨rfl, hBt⟩ := hp1
    rw [btw_i] at hBt
    exact absurd hBw hBt

set_option maxRecDepth 100000 in
set_option maxHeartbeats 1000000 in
theorem lp_X9_g3 {Z : Zx} {Post : Option Value → Mem → Prop} {PostX : String → Mem → Prop} {mc ms : Nat} {Q : Nat → Nat} {S : Sx} {t : Int32} {μ0 μ : Mem} {e z : Nat} {g : Row} (C : Cx Z RX9 cX9_gotData 4 mc ms 101) (E : Rt Z mc ms (some .int) Post PostX) (he : e < 3) (hk4 : g 2 = 4) (hou : S.ou.length < 512) (hRt : ∀ r ∈ S.rt e, okRw r) (hself : ∀ w, w < 3 → S.ses e e w = none) (hU : ∀ b b' w w' r r', b < 3 → b' < 3 → w < 3 → w' < 3 → S.ses e b w = some r → S.ses e b' w' = some r' → r.1 0 = r'.1 0 → b = b' ∧ w = w') (hoS : ∀ b w r, b < 3 → w < 3 → S.ses e b w = some r → (r.1 3 = nI (cl (r.1 3)) ∧ cl (r.1 3) < 65521) ∧ (r.1 4 = nI (cl (r.1 4)) ∧ cl (r.1 4) < 65521) ∧ okTk r) (hD : ∀ b w r, b < 3 → w < 3 → S.ses e b w = some r → r.1 0 = g 3 → TAGR g = SEALR (cl (r.1 4)) g → okD g) {k0 n0 : Nat} (hk2 : k0 + 17 ≤ mc) (hn2 : n0 + 687 ≤ ms) (hP : ∀ v m, (∃ S9, TDc S e g v S9 ∧ MTo Q WAll μ0 S9 (LXo S9 t) m) → Post (some (.int v)) m)
    (hT : MTo Q WAll μ0 S (LXo S t) μ) (hR_z : RowAt μ KLR z 16 g) (x y : Int32) (hI : InvD S e (g 3) 9 x y) (z10 z11 z12 : Option Value) : HW Z k0 n0 106 [some (.ref (Q 0)), some (.int (nI e)), some (.ref z), some (.int (g 3)), some (.int (g 4)), some (.int (g 5)), some (.int (g 6)), some (.int (g 7)), some (.int x), some (.int y), z10, z11, z12] [] μ := by
  have hM := hT.1
  refine h_iload_w C dX9_gotData_106 rfl ?_
  refine h_iconst (v := (-1)) C dX9_gotData_108 (by decide) ?_
  refine h_icmp_ne (tgt := 114) C dX9_gotData_109 (by decide) (fun cI => ?_) (fun cI => ?_)
  · obtain ⟨b, w, hb, hw, -, ⟨hbe, r, hr, hr0⟩, rfl, rfl⟩ := hI.resolve_left (fun z => cI z.1)
    have hone : ∀ b' w', b' < 3 → w' < 3 → sIs S e b' w' (g 3) → b' = b ∧ w' = w := fun b' w' hb' hw' h9 => by
      obtain ⟨r', h8, h7⟩ := h9
      exact hU b' b w' w r' r hb' hb hw' hw h8 hr (h7.trans hr0.symm)
    have hLW : LWN S e (g 3) b := ⟨hb, ⟨w, hw, r, hr, hr0⟩, fun b' hb' w' hw' h9 => by have := (hone b' w' (by omega) hw' h9).1; omega⟩
    have hSW : SWN S e b (g 3) w := ⟨hw, ⟨r, hr, hr0⟩, fun w' hw' h9 => by have := (hone b w' hb (by omega) h9).2; omega⟩
    obtain ⟨hK3, hK4, hKt⟩ := hoS b w r hb hw hr
    have hDg := hD b w r hb hw hr hr0
    have hSR : SEALR (cl (r.1 4)) g = SEALN (cl (r.1 4)) 4 [g 3, g 4, g 5, g 6, g 7] := SEALR_N hk4 rfl (fun i hi => by
      have h9 : i = 0 ∨ i = 1 ∨ i = 2 ∨ i = 3 ∨ i = 4 := by have : i < 5 := hi; omega
      rcases h9 with rfl | rfl | rfl | rfl | rfl <;> rfl)
    have hTG : TAGR g = g 8 := by unfold TAGR; rw [hk4]; rfl
    refine h_al_g C dX9_gotData_114 rfl rfl rfv_r ?_
    refine gs_X9_72 C dX9_gotData_115 hM.kX (hM.fA (i := 18) (by decide)) ?_
    refine h_iload_g C dX9_gotData_118 rfl rfl ?_
    refine h_aald (r := some _) C dX9_gotData_119 (hM.kr (by decide)) (inb (hM.ln3 (by decide)) (vp_in_nI he (by decide))) (atI (cl_of (n := e) (by have h9 := he; omega)) (hM.d1 (i := 1) (by decide) he)) ?_
    refine h_iload_w C dX9_gotData_120 rfl ?_
    refine h_aald (r := some _) C dX9_gotData_122 (hM.kr (by have h0_ := he; omega)) (inb (hM.ln3 (by have h0_ := he; omega)) (vp_in_nI hb (by decide))) (atI (cl_of (n := b) (by have h9 := hb; omega)) (hM.d2 (i := 1) (by decide) he hb)) ?_
    refine h_iload_w C dX9_gotData_123 rfl ?_
    obtain ⟨s, s1, s2, s3, s4⟩ := hM.se he hb (w := w) hw (fun z => z)
    rw [hr] at s4
    have hR_s : RowAt _ (KSE e b w) s 9 r.1 := ⟨s2, s3, s4.2⟩
    have hM0 := hM
    have hN : Nw μ μ := Nw.rf
    refine h_aald (r := some _) C dX9_gotData_125 (hM.kr (by omega)) (inb (hM.ln3 (by omega)) (vp_in_nI hw (by decide))) (atI (cl_of (by omega)) s1) ?_
    refine h_ast_10 C dX9_gotData_126 ct_i rfv_r ?_
    refine h_al_g C dX9_gotData_128 rfl rfl rfv_r ?_
    refine h_iload_g C dX9_gotData_129 rfl rfl ?_
    refine h_iload_w C dX9_gotData_130 rfl ?_
    refine h_iload_w C dX9_gotData_132 rfl ?_
    refine h_callV3 (ci := 9) C (k_X9_age Z.l Z.G Q S t _ hM e he _ rfl b hb _ rfl w hw _ rfl r hr) cw_X9_170 im_X9_age sl_X9_age rfl (by decide) hM.kX dX9_gotData_134 (by first | decide | exact Nat.le_of_ble_eq_true rfl) (by decide) (by decide) (by omega) (by omega) (kI fun r1 μ1 hp1 => ?_) kN
    obtain ⟨rfl, rfl⟩ := hp1
    refine h_bipush (v := 30) C dX9_gotData_137 (by decide) ?_
    refine h_icmp_lt (tgt := 145) C dX9_gotData_139 (by decide) (fun cA => ?_) (fun cA => ?_)
    · have hAge : ¬ 30 ≤ S.sc 0 - r.1 2 := Int32.not_le.mpr cA
      refine h_al_g C dX9_gotData_145 rfl rfl rfv_r ?_
      refine h_bipush (v := 8) C dX9_gotData_146 (by decide) ?_
      refine h_iald C dX9_gotData_148 (by rw [hR_z.1]; first | decide | exact KSE_m _ _ _) (inb hR_z.2.1 (vp_in_nI (n := 8) (by decide) (by decide))) (hR_z.2.2 8 (by decide)) ?_
      refine h_al_w (j := 0) C dX9_gotData_149 rfl rfv_r ?_
      refine h_iconst (v := 4) C dX9_gotData_151 (by decide) ?_
      refine h_iald C dX9_gotData_152 (by rw [hR_s.1]; first | decide | exact KSE_m _ _ _) (inb hR_s.2.1 (vp_in_nI (n := 4) (by decide) (by decide))) (hR_s.2.2 4 (by decide)) ?_
      refine h_bipush (v := 6) C dX9_gotData_153 (by decide) ?_
      refine h_newarr (atype := .int) (N := 6) (11 + 32 * 100) C ac_11 (by decide) (Or.inl (by decide)) dX9_gotData_155 (by decide) (by decide) (by decide) (by omega) (by omega) (fun qa hqa => ?_)
      refine h_abs (fun m1 em1 => ?_)
      have hLqa := NL.new em1
      have hR_s := hR_s.newA (by first | decide | (unfold KSE; omega) | (unfold KSE KTMP; omega)) hqa em1
      have hR_z := hR_z.newA (by first | decide | (unfold KSE; omega) | (unfold KSE KTMP; omega)) hqa em1
      have hz_qa := hN.z0 hqa
      have hN := hN.at (m' := m1) hz_qa (fun z hz => by rw [em1]; exact same_newA hz) (by rw [em1]; exact kd_newA)
      have hwqa := hT.fresh hqa
      have hT := hT.newT hqa em1
      have hM := hT.1
      refine h_dup C dX9_gotData_157 rfl ?_
      refine h_iconst (v := 0) C dX9_gotData_158 (by decide) ?_
      refine h_iconst (v := 4) C dX9_gotData_159 (by decide) ?_
      refine h_iast C dX9_gotData_160 hLqa.k (inb hLqa.2.1 (vp_in_nI (n := 0) (by decide) (by decide))) ?_
      refine h_abs (fun m2 em2 => ?_)
      rw [show Int32.toNatClampNeg 0 = 0 from rfl] at em2
      have hN := hN.at (m' := m2) hz_qa (fun z hz => by rw [em2]; exact same_sei hz) (by rw [em2]; exact hLqa.1)
      have hR_s := hR_s.tmp hLqa (by first | decide | (unfold KSE; omega) | (unfold KSE KTMP; omega)) em2
      have hR_z := hR_z.tmp hLqa (by first | decide | (unfold KSE; omega) | (unfold KSE KTMP; omega)) em2
      have hT := hT.tmp hLqa hwqa em2
      have hM := hT.1
      have hLqa := hLqa.push em2 rfl
      refine h_dup C dX9_gotData_161 rfl ?_
      refine h_iconst (v := 1) C dX9_gotData_162 (by decide) ?_
      refine h_iload_g C dX9_gotData_163 rfl rfl ?_
      refine h_iast C dX9_gotData_164 hLqa.k (inb hLqa.2.1 (vp_in_nI (n := 1) (by decide) (by decide))) ?_
      refine h_abs (fun m3 em3 => ?_)
      rw [show Int32.toNatClampNeg 1 = 1 from rfl] at em3
      have hN := hN.at (m' := m3) hz_qa (fun z hz => by rw [em3]; exact same_sei hz) (by rw [em3]; exact hLqa.1)
      have hR_s := hR_s.tmp hLqa (by first | decide | (unfold KSE; omega) | (unfold KSE KTMP; omega)) em3
      have hR_z := hR_z.tmp hLqa (by first | decide | (unfold KSE; omega) | (unfold KSE KTMP; omega)) em3
      have hT := hT.tmp hLqa hwqa em3
      have hM := hT.1
      have hLqa := hLqa.push em3 rfl
      refine h_dup C dX9_gotData_165 rfl ?_
      refine h_iconst (v := 2) C dX9_gotData_166 (by decide) ?_
      refine h_iload_w C dX9_gotData_167 rfl ?_
      refine h_iast C dX9_gotData_169 hLqa.k (inb hLqa.2.1 (vp_in_nI (n := 2) (by decide) (by decide))) ?_
      refine h_abs (fun m4 em4 => ?_)
      rw [show Int32.toNatClampNeg 2 = 2 from rfl] at em4
      have hN := hN.at (m' := m4) hz_qa (fun z hz => by rw [em4]; exact same_sei hz) (by rw [em4]; exact hLqa.1)
      have hR_s := hR_s.tmp hLqa (by first | decide | (unfold KSE; omega) | (unfold KSE KTMP; omega)) em4
      have hR_z := hR_z.tmp hLqa (by first | decide | (unfold KSE; omega) | (unfold KSE KTMP; omega)) em4
      have hT := hT.tmp hLqa hwqa em4
      have hM := hT.1
      have hLqa := hLqa.push em4 rfl
      refine h_dup C dX9_gotData_170 rfl ?_
      refine h_iconst (v := 3) C dX9_gotData_171 (by decide) ?_
      refine h_iload_w C dX9_gotData_172 rfl ?_
      refine h_iast C dX9_gotData_174 hLqa.k (inb hLqa.2.1 (vp_in_nI (n := 3) (by decide) (by decide))) ?_
      refine h_abs (fun m5 em5 => ?_)
      rw [show Int32.toNatClampNeg 3 = 3 from rfl] at em5
      have hN := hN.at (m' := m5) hz_qa (fun z hz => by rw [em5]; exact same_sei hz) (by rw [em5]; exact hLqa.1)
      have hR_s := hR_s.tmp hLqa (by first | decide | (unfold KSE; omega) | (unfold KSE KTMP; omega)) em5
      have hR_z := hR_z.tmp hLqa (by first | decide | (unfold KSE; omega) | (unfold KSE KTMP; omega)) em5
      have hT := hT.tmp hLqa hwqa em5
      have hM := hT.1
      have hLqa := hLqa.push em5 rfl
      refine h_dup C dX9_gotData_175 rfl ?_
      refine h_iconst (v := 4) C dX9_gotData_176 (by decide) ?_
      refine h_iload_w C dX9_gotData_177 rfl ?_
      refine h_iast C dX9_gotData_179 hLqa.k (inb hLqa.2.1 (vp_in_nI (n := 4) (by decide) (by decide))) ?_
      refine h_abs (fun m6 em6 => ?_)
      rw [show Int32.toNatClampNeg 4 = 4 from rfl] at em6
      have hN := hN.at (m' := m6) hz_qa (fun z hz => by rw [em6]; exact same_sei hz) (by rw [em6]; exact hLqa.1)
      have hR_s := hR_s.tmp hLqa (by first | decide | (unfold KSE; omega) | (unfold KSE KTMP; omega)) em6
      have hR_z := hR_z.tmp hLqa (by first | decide | (unfold KSE; omega) | (unfold KSE KTMP; omega)) em6
      have hT := hT.tmp hLqa hwqa em6
      have hM := hT.1
      have hLqa := hLqa.push em6 rfl
      refine h_dup C dX9_gotData_180 rfl ?_
      refine h_iconst (v := 5) C dX9_gotData_181 (by decide) ?_
      refine h_iload_w C dX9_gotData_182 rfl ?_
      refine h_iast C dX9_gotData_184 hLqa.k (inb hLqa.2.1 (vp_in_nI (n := 5) (by decide) (by decide))) ?_
      refine h_abs (fun m7 em7 => ?_)
      rw [show Int32.toNatClampNeg 5 = 5 from rfl] at em7
      have hN := hN.at (m' := m7) hz_qa (fun z hz => by rw [em7]; exact same_sei hz) (by rw [em7]; exact hLqa.1)
      have hR_s := hR_s.tmp hLqa (by first | decide | (unfold KSE; omega) | (unfold KSE KTMP; omega)) em7
      have hR_z := hR_z.tmp hLqa (by first | decide | (unfold KSE; omega) | (unfold KSE KTMP; omega)) em7
      have hT := hT.tmp hLqa hwqa em7
      have hM := hT.1
      have hLqa := hLqa.push em7 rfl
      refine h_callS2 C (k_X9_sealOf Z.l Z.G _ (cl (r.1 4)) qa [4, g 3, g 4, g 5, g 6, g 7] _ hK4.1 hK4.2 hLqa.k hLqa.2.1 hLqa.2.2 (Nat.le_of_ble_eq_true rfl)) cw_X9_154 st_X9_sealOf dX9_gotData_185 (by first | decide | exact Nat.le_of_ble_eq_true rfl) (by decide) (by decide) (by omega) (by omega) (kI fun r2 μ2 hp2 => ?_) kN
      obtain ⟨rfl, rfl⟩ := hp2
      rw [sgS_N]
      refine h_icmp_eq (tgt := 194) C dX9_gotData_188 (by decide) (fun cB => ?_) (fun cB => ?_)
      · have hB : TAGR g = SEALR (cl (r.1 4)) g := by rw [hTG, hSR]; exact cB
        have hDg := hDg hB
        have hcl : cl (g 4) < 40 := by have := cl_eq hDg.1.1; have := hDg.1.2; omega
        have hBw : (0 : Int64).toInt ≤ (g 4).toInt ∧ (g 4).toInt ≤ (39 : Int64).toInt := by
          have h0 : (0 : Int64).toInt = 0 := by decide
          have h9 : (39 : Int64).toInt = 39 := by decide
          rw [h0, h9]
          exact ⟨hDg.1.1, by have := hDg.1.2; omega⟩
        refine h_iload_w C dX9_gotData_194 rfl ?_
        refine h_i2l C dX9_gotData_196 ?_
        refine h_lconst (v := 0) C dX9_gotData_197 (by decide) ?_
        refine h_ldc2 C kc_X9_194 dX9_gotData_198 ?_
        refine h_callS3 C (k_X9_isBetween Z.l Z.G _ _ _ _) cw_X9_91 st_X9_isBetween dX9_gotData_201 (by first | decide | exact Nat.le_of_ble_eq_true rfl) (by decide) (by decide) (by omega) (by omega) (kB (fun μ3 hp3 => ?_) (fun μ3 hp3 => ?_)) kN
        · obtain ⟨rfl, hBt⟩ := hp3
          refine h_if_eq (tgt := 225) C dX9_gotData_204 (by decide) (fun c4 => absurd c4 (by decide)) (fun c4 => ?_)
          refine h_al_g C dX9_gotData_207 rfl rfl rfv_r ?_
          refine gs_X9_77 C dX9_gotData_208 hM.kX (hM.fA (i := 19) (by decide)) ?_
          refine h_iload_g C dX9_gotData_211 rfl rfl ?_
          refine h_aald (r := some _) C dX9_gotData_212 (hM.kr (by decide)) (inb (hM.ln3 (by decide)) (vp_in_nI he (by decide))) (atI (cl_of (n := e) (by have h9 := he; omega)) (hM.d1 (i := 2) (by decide) he)) ?_
          refine h_iload_w C dX9_gotData_213 rfl ?_
          refine h_aald (r := some _) C dX9_gotData_215 (hM.kr (by have h0_ := he; omega)) (inb (hM.ln3 (by have h0_ := he; omega)) (vp_in_nI hb (by decide))) (atI (cl_of (n := b) (by have h9 := hb; omega)) (hM.d2 (i := 2) (by decide) he hb)) ?_
          refine h_iload_w C dX9_gotData_216 rfl ?_
          obtain ⟨u, hu1, hu2, hu3, hu4⟩ := hM.tk he hb (w := w) hw (fun z => z)
          rw [TKE hr] at hu4
          refine h_aald (r := some _) C dX9_gotData_218 (hM.kr (by omega)) (inb (hM.ln3 (by omega)) (vp_in_nI hw (by decide))) (atI (cl_of (by omega)) hu1) ?_
          refine h_iload_w C dX9_gotData_219 rfl ?_
          refine h_zald C dX9_gotData_221 (by rw [hu2]; exact KTK_m _ _ _) (inb hu3 (vp_isE hDg.1.1 hDg.1.2 (by decide))) (hu4 (cl (g 4)) hcl) ?_
          refine h_if_ne (tgt := 246) C dX9_gotData_222 (by decide) (fun cT => ?_) (fun cT => ?_)
          · have hBT : BIT r.2 (g 4) := (BITn_iff hDg.1.1).mp ((BITn_01 r.2 (cl (g 4))).resolve_left cT)
            refine h_bipush (v := (-3)) C dX9_gotData_246 (by decide) ?_
            refine h_iret C E dX9_gotData_248 (by omega) (by omega) ?_
            exact hP _ _ ⟨S, Or.inr ⟨b, w, r, hLW, hSW, hr, Or.inr (Or.inr (Or.inl ⟨hAge, hB, fun z => z.1.2.2 hBT, rfl, rfl⟩))⟩, hT⟩
          · have hBT : ¬ BIT r.2 (g 4) := fun z => by have h9 := (BITn_iff hDg.1.1).mpr z; rw [h9] at cT; exact absurd cT (by decide)
            refine h_al_w (j := 0) C dX9_gotData_225 rfl rfv_r ?_
            refine h_bipush (v := 8) C dX9_gotData_227 (by decide) ?_
            refine h_iald C dX9_gotData_229 (by rw [hR_s.1]; first | decide | exact KSE_m _ _ _) (inb hR_s.2.1 (vp_in_nI (n := 8) (by decide) (by decide))) (hR_s.2.2 8 (by decide)) ?_
            refine h_if_le (tgt := 249) C dX9_gotData_230 (by decide) (fun c8 => ?_) (fun c8 => ?_)
            · have s1 : m7.er (Q (72 + 3 * e + b)) w = some s := by rw [((hN (Q (72 + 3 * e + b))).1 (by rw [hM0.kd (by omega)]; exact KM_nz _)).2.2.2.2.2.2.1]; exact s1
              have hCT : CTK r (g 4) := ⟨⟨hDg.1.1, hDg.1.2, hBT⟩, Or.inl (hKt.resolve_right (fun q => q.1 c8)).2⟩
              exact lp_X9_tk C he hb hw (by omega) (by omega) hr hDg.1 (s4.1) hK3 hT s1 hR_s hR_z (fun m9 h9 z11 z12 => lp_X9_bo C E he hb (by rw [TDP_ou]; exact hou) hDg (by rw [TDP_rt]; exact hRt) rfl rfl (by omega) (by omega) (fun v m8 hv hm8 => hP v m8 ⟨_, Or.inr ⟨b, w, r, hLW, hSW, hr, Or.inr (Or.inr (Or.inr ⟨hAge, hB, hCT, hv, rfl⟩))⟩, hm8⟩) h9 z11 z12) _ _
            · refine h_iload_w C dX9_gotData_233 rfl ?_
              refine h_al_w (j := 0) C dX9_gotData_235 rfl rfv_r ?_
              refine h_bipush (v := 7) C dX9_gotData_237 (by decide) ?_
              refine h_iald C dX9_gotData_239 (by rw [hR_s.1]; first | decide | exact KSE_m _ _ _) (inb hR_s.2.1 (vp_in_nI (n := 7) (by decide) (by decide))) (hR_s.2.2 7 (by decide)) ?_
              refine h_bipush (v := 16) C dX9_gotData_240 (by decide) ?_
              refine h_isub C dX9_gotData_242 ?_
              refine h_icmp_gt (tgt := 249) C dX9_gotData_243 (by decide) (fun c7 => ?_) (fun c7 => ?_)
              · have s1 : m7.er (Q (72 + 3 * e + b)) w = some s := by rw [((hN (Q (72 + 3 * e + b))).1 (by rw [hM0.kd (by omega)]; exact KM_nz _)).2.2.2.2.2.2.1]; exact s1
                have hCT : CTK r (g 4) := ⟨⟨hDg.1.1, hDg.1.2, hBT⟩, Or.inr c7⟩
                exact lp_X9_tk C he hb hw (by omega) (by omega) hr hDg.1 (s4.1) hK3 hT s1 hR_s hR_z (fun m9 h9 z11 z12 => lp_X9_bo C E he hb (by rw [TDP_ou]; exact hou) hDg (by rw [TDP_rt]; exact hRt) rfl rfl (by omega) (by omega) (fun v m8 hv hm8 => hP v m8 ⟨_, Or.inr ⟨b, w, r, hLW, hSW, hr, Or.inr (Or.inr (Or.inr ⟨hAge, hB, hCT, hv, rfl⟩))⟩, hm8⟩) h9 z11 z12) _ _
              · refine h_bipush (v := (-3)) C dX9_gotData_246 (by decide) ?_
                refine h_iret C E dX9_gotData_248 (by omega) (by omega) ?_
                exact hP _ _ ⟨S, Or.inr ⟨b, w, r, hLW, hSW, hr, Or.inr (Or.inr (Or.inl ⟨hAge, hB, fun z => z.2.elim (fun h => (hKt.resolve_left (fun q => c8 q.1)).2 h) (fun h => c7 h), rfl, rfl⟩))⟩, hT⟩
        · obtain ⟨rfl, hBt⟩ := hp3
          rw [btw_i] at hBt
          exact absurd hBw hBt
      · have hB : ¬ TAGR g = SEALR (cl (r.1 4)) g := fun z => cB (by rw [hTG, hSR] at z; exact z)
        refine h_bipush (v := (-2)) C dX9_gotData_191 (by decide) ?_
        refine h_iret C E dX9_gotData_193 (by omega) (by omega) ?_
        exact hP _ _ ⟨S, Or.inr ⟨b, w, r, hLW, hSW, hr, Or.inr (Or.inl ⟨hAge, hB, rfl, rfl⟩)⟩, hT⟩
    · have hAge : 30 ≤ S.sc 0 - r.1 2 := Int32.not_lt.mp cA
      refine h_bipush (v := (-4)) C dX9_gotData_142 (by decide) ?_
      refine h_iret C E dX9_gotData_144 (by omega) (by omega) ?_
      exact hP _ _ ⟨S, Or.inr ⟨b, w, r, hLW, hSW, hr, Or.inl ⟨hAge, rfl, rfl⟩⟩, hT⟩
  · have hno : ∀ b, b < 3 → ∀ w, w < 3 → ¬ sIs S e b w (g 3) := fun b hb w hw h9 => by
      rcases hI with ⟨-, h8⟩ | ⟨b', w', h1, h2, h3, h4, h5, h6⟩
      · exact h8 b w hb hw (by omega) ⟨fun z => (by subst z; obtain ⟨r9, q1, q2⟩ := h9; rw [hself w hw] at q1; cases q1), h9⟩
      · have h7 : (nI b').toInt = -1 := by rw [← h5, cI]; rfl
        rw [nI_toInt (by omega)] at h7
        omega
    refine h_iconst (v := (-1)) C dX9_gotData_112 (by decide) ?_
    refine h_iret C E dX9_gotData_113 (by omega) (by omega) ?_
    exact hP _ _ ⟨S, Or.inl ⟨hno, rfl, rfl⟩, hT⟩

set_option maxRecDepth 100000 in
set_option maxHeartbeats 1000000 in
theorem k_X9_gotData (l : Launch) (G : Gx) (Q : Nat → Nat) (S : Sx) (t : Int32) (μ : Mem) (hM : MRq Q S (LXo S t) μ) (e : Nat) (he : e < 3) (xe : Int32) (hxe : xe = nI e) (z : Nat) (g : Row) (hR_z : RowAt μ KLR z 16 g) (hk4 : g 2 = 4) (hou : S.ou.length < 512) (hRt : ∀ r ∈ S.rt e, okRw r) (hself : ∀ w, w < 3 → S.ses e e w = none) (hU : ∀ b b' w w' r r', b < 3 → b' < 3 → w < 3 → w' < 3 → S.ses e b w = some r → S.ses e b' w' = some r' → r.1 0 = r'.1 0 → b = b' ∧ w = w') (hoS : ∀ b w r, b < 3 → w < 3 → S.ses e b w = some r → (r.1 3 = nI (cl (r.1 3)) ∧ cl (r.1 3) < 65521) ∧ (r.1 4 = nI (cl (r.1 4)) ∧ cl (r.1 4) < 65521) ∧ okTk r) (hD : ∀ b w r, b < 3 → w < 3 → S.ses e b w = some r → r.1 0 = g 3 → TAGR g = SEALR (cl (r.1 4)) g → okD g) : Kon l yX9_gotData cX9_gotData 13 (some .int) 4 17 687 101 G [.ref (Q 0), .int xe, .ref z] μ (pI fun v μ' => ∃ S9, TDc S e g v S9 ∧ MTo Q WAll μ S9 (LXo S9 t) μ') noX := by
  refine Kon.ofG (by decide +kernel) (Nat.le_of_ble_eq_true rfl) (Nat.le_of_ble_eq_true rfl) (fun Z hZG C E NT MT => ?_)
  subst hZG
  have C : Cx Z RX9 cX9_gotData 4 17 687 101 := C
  show HW Z 0 0 0 [some (.ref (Q 0)), some (.int xe), some (.ref z), none, none, none, none, none, none, none, none, none, none] [] μ
  subst hxe
  refine h_al_g C dX9_gotData_0 rfl rfl rfv_r ?_
  refine h_iconst (v := 3) C dX9_gotData_1 (by decide) ?_
  refine h_iald C dX9_gotData_2 (by rw [hR_z.1]; first | decide | exact KSE_m _ _ _) (inb hR_z.2.1 (vp_in_nI (n := 3) (by decide) (by decide))) (hR_z.2.2 3 (by decide)) ?_
  refine h_ist_3 C dX9_gotData_3 ct_r ?_
  refine h_al_g C dX9_gotData_4 rfl rfl rfv_r ?_
  refine h_iconst (v := 4) C dX9_gotData_5 (by decide) ?_
  refine h_iald C dX9_gotData_6 (by rw [hR_z.1]; first | decide | exact KSE_m _ _ _) (inb hR_z.2.1 (vp_in_nI (n := 4) (by decide) (by decide))) (hR_z.2.2 4 (by decide)) ?_
  refine h_ist_4 C dX9_gotData_7 ct_i ?_
  refine h_al_g C dX9_gotData_9 rfl rfl rfv_r ?_
  refine h_iconst (v := 5) C dX9_gotData_10 (by decide) ?_
  refine h_iald C dX9_gotData_11 (by rw [hR_z.1]; first | decide | exact KSE_m _ _ _) (inb hR_z.2.1 (vp_in_nI (n := 5) (by decide) (by decide))) (hR_z.2.2 5 (by decide)) ?_
  refine h_ist_5 C dX9_gotData_12 ct_i ?_
  refine h_al_g C dX9_gotData_14 rfl rfl rfv_r ?_
  refine h_bipush (v := 6) C dX9_gotData_15 (by decide) ?_
  refine h_iald C dX9_gotData_17 (by rw [hR_z.1]; first | decide | exact KSE_m _ _ _) (inb hR_z.2.1 (vp_in_nI (n := 6) (by decide) (by decide))) (hR_z.2.2 6 (by decide)) ?_
  refine h_ist_6 C dX9_gotData_18 ct_i ?_
  refine h_al_g C dX9_gotData_20 rfl rfl rfv_r ?_
  refine h_bipush (v := 7) C dX9_gotData_21 (by decide) ?_
  refine h_iald C dX9_gotData_23 (by rw [hR_z.1]; first | decide | exact KSE_m _ _ _) (inb hR_z.2.1 (vp_in_nI (n := 7) (by decide) (by decide))) (hR_z.2.2 7 (by decide)) ?_
  refine h_ist_7 C dX9_gotData_24 ct_i ?_
  refine h_iconst (v := (-1)) C dX9_gotData_26 (by decide) ?_
  refine h_ist_8 C dX9_gotData_27 ct_i ?_
  refine h_iconst (v := (-1)) C dX9_gotData_29 (by decide) ?_
  refine h_ist_9 C dX9_gotData_30 ct_i ?_
  refine h_iconst (v := 0) C dX9_gotData_32 (by decide) ?_
  refine h_ist_10 C dX9_gotData_33 ct_i ?_
  refine h_iload_w C dX9_gotData_35 rfl ?_
  refine h_iconst (v := 3) C dX9_gotData_37 (by decide) ?_
  refine h_icmp_ge (tgt := 106) C dX9_gotData_38 (by decide) (fun c1 => absurd c1 (by decide)) (fun c1 => ?_)
  refine h_iconst (v := 0) C dX9_gotData_41 (by decide) ?_
  refine h_ist_11 C dX9_gotData_42 ct_i ?_
  exact lp_X9_gd hM he C (by omega) (by omega) (fun x y hI z10 z11 z12 => lp_X9_g3 C E he hk4 hou hRt hself hU hoS hD (by omega) (by omega) (fun v m h => ⟨v, rfl, h⟩) (MTo.rf hM) hR_z x y hI z10 z11 z12) 8 0 0 (-1) (-1) (by decide) (by decide) (by decide) (Or.inl ⟨rfl, fun b w hb hw h => absurd h (Nat.not_lt_zero _)⟩) _

end
