section
set_option maxRecDepth 100000 in
set_option maxHeartbeats 4000000 in
theorem k_X8_sendData (l : Launch) (G : Gx) (P : Nat → Nat) (S : Sx) (μ : Mem) (hC : CRep G P S μ) (a b : Nat) (ha : a < 3) (hb : b < 3) (s : Nat) (r : Ses) (hsc : SesCur P μ a b 1 s r) (hr : S.ses a b 1 = some r) (K : Nat) (hK3 : r.1 3 = nI K) (hK : K < 65521) (x y z : Int32) : Kon l yX8_sendData cX8_sendData 8 none 9 3 1014 212 G [.ref (P 0), .ref (P (4 + a)), .ref (P (16 + 3 * a + b)), .ref s, .int x, .int y, .int z] μ (pV fun μ' => CKo G P μ (DATS S a b r x y z) μ' ∧ SesCur P μ' a b 1 s (u1 r.1 5 (r.1 5 + 1), r.2)) noX := by
  refine Kon.ofG (by decide +kernel) (Nat.le_of_ble_eq_true rfl) (Nat.le_of_ble_eq_true rfl) (fun Z hZG C E NT MT => ?_)
  subst hZG
  have C : Cx Z RX8 cX8_sendData 9 3 1014 212 := C
  show HW Z 0 0 0 [some (.ref (P 0)), some (.ref (P (4 + a))), some (.ref (P (16 + 3 * a + b))), some (.ref s), some (.int x), some (.int y), some (.int z), none] [] μ
  refine nw_X8_166 (4 + 32 * 40) C dX8_sendData_0 (by first | decide | omega) (by decide) (by decide) (fun q hq => ?_)
  have hC0 := hC
  have hC := CRep.newO hC0 hq
  have hsc := hsc.kept (FrK.newO (W := fun k => k = KFLO) hq rfl) nKFLO_S (nKFLO_K (by omega))
  refine h_dup C dX8_sendData_3 rfl ?_
  refine h_iconst (v := 4) C dX8_sendData_4 (by decide) ?_
  refine h_al_g C dX8_sendData_5 rfl rfl rfv_r ?_
  refine gf_X8_65 C dX8_sendData_6 (CRep.kE hC (by assumption)) (CRep.f37 hC (by assumption)) ?_
  refine h_al_g C dX8_sendData_9 rfl rfl rfv_r ?_
  refine gf_X8_221 C dX8_sendData_10 (CRep.kL hC (by assumption) (by assumption)) (CRep.f132 hC (by assumption) (by assumption)) ?_
  refine h_callI3 C (k_X2_init Z.l Z.G q 4 (S.ef 0 a) (S.lf 0 a b) _ (by rw [kd_newO])) cw_X8_379 im_X2_init rfl dX8_sendData_13 (by first | decide | exact Nat.le_of_ble_eq_true rfl) (by decide) (by decide) (by decide) (by decide) (kV fun μ1 hp1 => ?_) kN
  obtain ⟨hlq, hfq⟩ := hp1
  obtain ⟨fa, hFl⟩ := Flo.new (CKo.rf hC0) hq hlq hfq
  have hsc := hsc.kept hfq (nLeW_S (by rw [kd_newO])) (nLeW_K (by omega) (by rw [kd_newO]))
  refine h_ast_7 C dX8_sendData_16 ct_i rfv_r ?_
  refine h_al_w (j := 0) C dX8_sendData_18 rfl rfv_r ?_
  refine h_iconst (v := 0) C dX8_sendData_20 (by decide) ?_
  refine h_al_g C dX8_sendData_21 rfl rfl rfv_r ?_
  refine gf_X8_419 C dX8_sendData_22 (SesIn.k hsc.1) (SesIn.f225 hsc.1) ?_
  refine h_callV2 (ci := 3) C (k_X2_put Z.l Z.G _ q _ 0 0 _ rfl (by decide) hFl.k hFl.f99 hFl.kf hFl.ln) cw_X8_380 im_X2_put sl_X2_put rfl (by decide) hFl.k dX8_sendData_25 (by first | decide | exact Nat.le_of_ble_eq_true rfl) (by decide) (by decide) (by decide) (by decide) (kV fun μ2 hp2 => ?_) kN
  have ePut := hp2
  obtain ⟨hFl2, hsm⟩ := hFl.putE (i := 0) (by decide) ePut
  have hsc := hsc.keptS hsm hFl.kf ha hb
  have hFl := hFl2
  refine h_al_w (j := 0) C dX8_sendData_28 rfl rfv_r ?_
  refine h_iconst (v := 1) C dX8_sendData_30 (by decide) ?_
  refine h_al_g C dX8_sendData_31 rfl rfl rfv_r ?_
  refine gf_X8_350 C dX8_sendData_32 (SesIn.k hsc.1) (SesIn.f230 hsc.1) ?_
  refine h_callV2 (ci := 3) C (k_X2_put Z.l Z.G _ q _ 1 1 _ rfl (by decide) hFl.k hFl.f99 hFl.kf hFl.ln) cw_X8_380 im_X2_put sl_X2_put rfl (by decide) hFl.k dX8_sendData_35 (by first | decide | exact Nat.le_of_ble_eq_true rfl) (by decide) (by decide) (by decide) (by decide) (kV fun μ3 hp3 => ?_) kN
  have ePut := hp3
  obtain ⟨hFl2, hsm⟩ := hFl.putE (i := 1) (by decide) ePut
  have hsc := hsc.keptS hsm hFl.kf ha hb
  have hFl := hFl2
  refine h_al_w (j := 0) C dX8_sendData_38 rfl rfv_r ?_
  refine h_iconst (v := 2) C dX8_sendData_40 (by decide) ?_
  refine h_iload_w C dX8_sendData_41 rfl ?_
  refine h_callV2 (ci := 3) C (k_X2_put Z.l Z.G _ q _ 2 2 _ rfl (by decide) hFl.k hFl.f99 hFl.kf hFl.ln) cw_X8_380 im_X2_put sl_X2_put rfl (by decide) hFl.k dX8_sendData_43 (by first | decide | exact Nat.le_of_ble_eq_true rfl) (by decide) (by decide) (by decide) (by decide) (kV fun μ4 hp4 => ?_) kN
  have ePut := hp4
  obtain ⟨hFl2, hsm⟩ := hFl.putE (i := 2) (by decide) ePut
  have hsc := hsc.keptS hsm hFl.kf ha hb
  have hFl := hFl2
  refine h_al_w (j := 0) C dX8_sendData_46 rfl rfv_r ?_
  refine h_iconst (v := 3) C dX8_sendData_48 (by decide) ?_
  refine h_iload_w C dX8_sendData_49 rfl ?_
  refine h_callV2 (ci := 3) C (k_X2_put Z.l Z.G _ q _ 3 3 _ rfl (by decide) hFl.k hFl.f99 hFl.kf hFl.ln) cw_X8_380 im_X2_put sl_X2_put rfl (by decide) hFl.k dX8_sendData_51 (by first | decide | exact Nat.le_of_ble_eq_true rfl) (by decide) (by decide) (by decide) (by decide) (kV fun μ5 hp5 => ?_) kN
  have ePut := hp5
  obtain ⟨hFl2, hsm⟩ := hFl.putE (i := 3) (by decide) ePut
  have hsc := hsc.keptS hsm hFl.kf ha hb
  have hFl := hFl2
  refine h_al_w (j := 0) C dX8_sendData_54 rfl rfv_r ?_
  refine h_iconst (v := 4) C dX8_sendData_56 (by decide) ?_
  refine h_iload_w C dX8_sendData_57 rfl ?_
  refine h_callV2 (ci := 3) C (k_X2_put Z.l Z.G _ q _ 4 4 _ rfl (by decide) hFl.k hFl.f99 hFl.kf hFl.ln) cw_X8_380 im_X2_put sl_X2_put rfl (by decide) hFl.k dX8_sendData_59 (by first | decide | exact Nat.le_of_ble_eq_true rfl) (by decide) (by decide) (by decide) (by decide) (kV fun μ6 hp6 => ?_) kN
  have ePut := hp6
  obtain ⟨hFl2, hsm⟩ := hFl.putE (i := 4) (by decide) ePut
  have hsc := hsc.keptS hsm hFl.kf ha hb
  have hFl := hFl2
  refine h_al_w (j := 0) C dX8_sendData_62 rfl rfv_r ?_
  refine h_al_g C dX8_sendData_64 rfl rfl rfv_r ?_
  refine gf_X8_422 C dX8_sendData_65 (SesIn.k hsc.1) (SesIn.f228 hsc.1) ?_
  refine h_callV1 (ci := 3) C (k_X2_sealWith Z.l Z.G _ KFLO q _ hFl.L (by decide) rfl (r.1 3) K hK3 hK) cw_X8_391 im_X2_sealWith sl_X2_sealWith rfl (by decide) hFl.k dX8_sendData_68 (by first | decide | exact Nat.le_of_ble_eq_true rfl) (by decide) (by decide) (by decide) (by decide) (kI fun r7 μ7 hp7 => ?_) kN
  obtain ⟨rfl, hlS, hfS⟩ := hp7
  have hsc := hsc.kept hfS (nLeW_S (by rw [hFl.L.1]; decide)) (nLeW_K (by omega) (by rw [hFl.L.1]; decide))
  obtain ⟨fa2, hFl⟩ := hFl.work hlS hfS
  refine h_pop C dX8_sendData_71 rfl ?_
  refine h_al_g C dX8_sendData_72 rfl rfl rfv_r ?_
  refine h_dup C dX8_sendData_73 rfl ?_
  refine gf_X8_350 C dX8_sendData_74 (SesIn.k hsc.1) (SesIn.f230 hsc.1) ?_
  refine h_iconst (v := 1) C dX8_sendData_77 (by decide) ?_
  refine h_iadd C dX8_sendData_78 ?_
  refine pf_X8_350 C dX8_sendData_79 (SesIn.k hsc.1) ?_
  have hqs : q ≠ s := fun e => by have h1 := hFl.k; rw [e, hsc.1.k] at h1; omega
  have hfs : fa2 ≠ s := fun e => by have h1 := hFl.kf; rw [e, hsc.1.k] at h1; omega
  have hTs : CTo Z.G P μ7 (S.sSes a b 1 (some (u1 r.1 5 (r.1 5 + 1), r.2))) (μ7.sfi 230 s (r.1 5 + 1)) := ⟨CRep.s230 hFl.C ha hb (by decide) hsc.2.1 hr (r.1 5 + 1), FrS.sfi (by rw [hsc.1.1]; exact isC_SES ha hb (by decide))⟩
  have hscE : SesCur P (μ7.sfi 230 s (r.1 5 + 1)) a b 1 s (u1 r.1 5 (r.1 5 + 1), r.2) := ⟨SesAt.in (SesAt.s230 hsc.1.at (r.1 5 + 1)), hsc.2.1, hsc.2.2⟩
  have hFl := hFl.put (CKo.put hTs (fun z hz => same_sfi hz) (by rw [hsc.1.k]; decide)) (same_sfi hqs) (same_sfi hfs)
  have eS : SEALR K (u1 (u1 (u1 (u1 (u1 (row0 4 (S.ef 0 a) (S.lf 0 a b)) (3 + 0) (r.1 1)) (3 + 1) (r.1 5)) (3 + 2) x) (3 + 3) y) (3 + 4) z) = SEALN K 4 [r.1 1, r.1 5, x, y, z] := SEALR_N rfl rfl (fun i hi => by
      have h9 : i = 0 ∨ i = 1 ∨ i = 2 ∨ i = 3 ∨ i = 4 := by have : i < 5 := hi; omega
      rcases h9 with rfl | rfl | rfl | rfl | rfl <;> rfl)
  have eK : cl (r.1 3) = K := by rw [hK3]; exact cl_of (by omega)
  have hFl := hFl.ext (r' := DATR S a b r x y z) rfl (fun j hj => by
        have h9 : j = 0 ∨ j = 1 ∨ j = 2 ∨ j = 3 ∨ j = 4 ∨ j = 5 ∨ j = 6 ∨ j = 7 ∨ j = 8 ∨ j = 15 ∨ j = 16 := by omega
        rcases h9 with rfl | rfl | rfl | rfl | rfl | rfl | rfl | rfl | rfl | rfl | rfl
        · first | rfl | exact hK3
        · first | rfl | exact hK3
        · first | rfl | exact hK3
        · first | rfl | exact hK3
        · first | rfl | exact hK3
        · first | rfl | exact hK3
        · first | rfl | exact hK3
        · first | rfl | exact hK3
        · (show SEALN (cl (r.1 3)) 4 [r.1 1, r.1 5, x, y, z] = _; rw [eK]; exact eS.symm)
        · first | rfl | exact hK3
        · first | rfl | exact hK3)
  refine h_al_g C dX8_sendData_82 rfl rfl rfv_r ?_
  refine h_al_w (j := 0) C dX8_sendData_83 rfl rfv_r ?_
  refine h_callV1 (ci := 8) C (k_X8_post Z.l Z.G P _ _ q _ _ hFl.re) cw_X8_399 im_X8_post sl_X8_post rfl (by decide) (CRep.kX hFl.C) dX8_sendData_85 (by first | decide | exact Nat.le_of_ble_eq_true rfl) (by decide) (by decide) (by decide) (by decide) (kV fun μ1 hp8 => ?_) kN
  obtain ⟨hPo, hPn⟩ := hp8
  refine h_ret C E dX8_sendData_88 (by decide) (by decide) ?_
  exact ⟨rfl, hFl.T.tr hPo, hscE.same (hPn s (Or.inl hscE.1.k)) (hPn _ (Or.inr (by rw [hscE.2.2, show 16 + 3 * a + b = 16 + (3 * a + b) by omega, KS_LK (by omega)])))⟩

set_option maxRecDepth 100000 in
set_option maxHeartbeats 4000000 in
theorem k_X8_sendCookie (l : Launch) (G : Gx) (P : Nat → Nat) (S : Sx) (μ : Mem) (hC : CRep G P S μ) (e : Nat) (he : e < 3) (p fp : Nat) (g : Row) (hg : Got μ p fp g) (c : Int32) : Kon l yX8_sendCookie cX8_sendCookie 5 none 9 3 1014 212 G [.ref (P 0), .ref (P (4 + e)), .ref p, .int c] μ (pV fun μ' => CKo G P μ (COOS S e g c) μ') noX := by
  refine Kon.ofG (by decide +kernel) (Nat.le_of_ble_eq_true rfl) (Nat.le_of_ble_eq_true rfl) (fun Z hZG C E NT MT => ?_)
  subst hZG
  have C : Cx Z RX8 cX8_sendCookie 9 3 1014 212 := C
  show HW Z 0 0 0 [some (.ref (P 0)), some (.ref (P (4 + e))), some (.ref p), some (.int c), none] [] μ
  refine nw_X8_166 (4 + 32 * 40) C dX8_sendCookie_0 (by first | decide | omega) (by decide) (by decide) (fun q hq => ?_)
  have hC0 := hC
  have hC := CRep.newO hC0 hq
  have hpq := hg.ne hq
  have hg := hg.kept (FrK.newO (W := fun k => k = KFLO) hq rfl) nKFLO_LET nKFLO_FM
  refine h_dup C dX8_sendCookie_3 rfl ?_
  refine h_iconst (v := 3) C dX8_sendCookie_4 (by decide) ?_
  refine h_al_g C dX8_sendCookie_5 rfl rfl rfv_r ?_
  refine gf_X8_65 C dX8_sendCookie_6 (CRep.kE hC (by assumption)) (CRep.f37 hC (by assumption)) ?_
  refine h_al_g C dX8_sendCookie_9 rfl rfl rfv_r ?_
  refine gf_X8_214 C dX8_sendCookie_10 hg.k hg.L.f100 ?_
  refine h_callI3 C (k_X2_init Z.l Z.G q 3 (S.ef 0 e) (g 0) _ (by rw [kd_newO])) cw_X8_379 im_X2_init rfl dX8_sendCookie_13 (by first | decide | exact Nat.le_of_ble_eq_true rfl) (by decide) (by decide) (by decide) (by decide) (kV fun μ1 hp1 => ?_) kN
  obtain ⟨hlq, hfq⟩ := hp1
  obtain ⟨fa, hFl⟩ := Flo.new (CKo.rf hC0) hq hlq hfq
  have hC := hFl.C
  have hg := hg.kept hfq (nLeW_LET (by rw [kd_newO])) (nLeW_FM (by rw [kd_newO]) hpq)
  refine h_ast_4 C dX8_sendCookie_16 ct_i rfv_r ?_
  refine h_al_w (j := 0) C dX8_sendCookie_18 rfl rfv_r ?_
  refine h_iconst (v := 0) C dX8_sendCookie_20 (by decide) ?_
  refine h_al_g C dX8_sendCookie_21 rfl rfl rfv_r ?_
  refine h_iconst (v := 0) C dX8_sendCookie_22 (by decide) ?_
  refine h_callV1 (ci := 3) C (k_X2_fld Z.l Z.G _ p fp 0 0 (g 3) rfl (by decide) hg.k hg.f99 hg.kf hg.ln (hg.at (i := 0) (by decide))) cw_X8_203 im_X2_fieldAt sl_X2_fieldAt rfl (by decide) hg.k dX8_sendCookie_23 (by first | decide | exact Nat.le_of_ble_eq_true rfl) (by decide) (by decide) (by decide) (by decide) (kI fun r2 μ1 hp2 => ?_) kN
  obtain ⟨rfl, rfl⟩ := hp2
  refine h_callV2 (ci := 3) C (k_X2_put Z.l Z.G _ q _ 0 0 _ rfl (by decide) hFl.k hFl.f99 hFl.kf hFl.ln) cw_X8_380 im_X2_put sl_X2_put rfl (by decide) hFl.k dX8_sendCookie_26 (by first | decide | exact Nat.le_of_ble_eq_true rfl) (by decide) (by decide) (by decide) (by decide) (kV fun μ2 hp3 => ?_) kN
  have ePut := hp3
  obtain ⟨hFl2, hsm⟩ := hFl.putE (i := 0) (by decide) ePut
  have hg := hg.keptS hFl hsm hpq
  have hFl := hFl2
  have hC := hFl.C
  refine h_al_w (j := 0) C dX8_sendCookie_29 rfl rfv_r ?_
  refine h_iconst (v := 1) C dX8_sendCookie_31 (by decide) ?_
  refine h_iload_g C dX8_sendCookie_32 rfl rfl ?_
  refine h_callV2 (ci := 3) C (k_X2_put Z.l Z.G _ q _ 1 1 _ rfl (by decide) hFl.k hFl.f99 hFl.kf hFl.ln) cw_X8_380 im_X2_put sl_X2_put rfl (by decide) hFl.k dX8_sendCookie_33 (by first | decide | exact Nat.le_of_ble_eq_true rfl) (by decide) (by decide) (by decide) (by decide) (kV fun μ3 hp4 => ?_) kN
  have ePut := hp4
  obtain ⟨hFl2, hsm⟩ := hFl.putE (i := 1) (by decide) ePut
  have hg := hg.keptS hFl hsm hpq
  have hFl := hFl2
  have hC := hFl.C
  refine h_al_w (j := 0) C dX8_sendCookie_36 rfl rfv_r ?_
  refine h_iconst (v := 3) C dX8_sendCookie_38 (by decide) ?_
  refine h_al_g C dX8_sendCookie_39 rfl rfl rfv_r ?_
  refine gf_X8_413 C dX8_sendCookie_40 (CRep.kE hC (by assumption)) (CRep.f33 hC (by assumption)) ?_
  refine h_callS1 C (k_X4_publicNumber Z.l Z.G _ (211 + 307 * e) rfl (by omega) _) cw_X8_269 st_X4_publicNumber dX8_sendCookie_43 (by first | decide | exact Nat.le_of_ble_eq_true rfl) (by decide) (by decide) (by decide) (by decide) (kI fun r5 μ2 hp5 => ?_) kN
  obtain ⟨rfl, rfl⟩ := hp5
  rw [show PW 7 (211 + 307 * e) = NAME e from rfl]
  refine h_al_g C dX8_sendCookie_46 rfl rfl rfv_r ?_
  refine h_callV0 (ci := 3) (a_ := .null) C (k_X2_tag Z.l Z.G _ KLET p g hg.L (by decide)) cw_X8_416 im_X2_tag sl_X2_tag rfl (by decide) hg.k dX8_sendCookie_47 (by first | decide | exact Nat.le_of_ble_eq_true rfl) (by decide) (by decide) (by decide) (by decide) (kI fun r6 μ3 hp6 => ?_) kN
  obtain ⟨rfl, rfl⟩ := hp6
  refine h_callS3 C (k_X4_mix Z.l Z.G _ _ _ _) cw_X8_394 st_X4_mix dX8_sendCookie_50 (by first | decide | exact Nat.le_of_ble_eq_true rfl) (by decide) (by decide) (by decide) (by decide) (kI fun r7 μ4 hp7 => ?_) kN
  obtain ⟨rfl, rfl⟩ := hp7
  rw [show MIX [(3 : Int32).toInt, (nI (NAME e)).toInt, (TAGR g).toInt] = CKEY e (TAGR g) from by rw [NAME_i]; rfl]
  refine h_callV1 (ci := 3) C (k_X2_sealWith Z.l Z.G _ KFLO q _ hFl.L (by decide) rfl _ (CKEY e (TAGR g)) rfl (MIX_lt _)) cw_X8_391 im_X2_sealWith sl_X2_sealWith rfl (by decide) hFl.k dX8_sendCookie_53 (by first | decide | exact Nat.le_of_ble_eq_true rfl) (by decide) (by decide) (by decide) (by decide) (kI fun r8 μ7 hp8 => ?_) kN
  obtain ⟨rfl, hlS, hfS⟩ := hp8
  obtain ⟨fa2, hFl⟩ := hFl.work hlS hfS
  have eS : SEALR (CKEY e (TAGR g)) (u1 (u1 (row0 3 (S.ef 0 e) (g 0)) (3 + 0) (g 3)) (3 + 1) c) = SEALN (CKEY e (TAGR g)) 3 [g 3, c] := SEALR_N rfl rfl (fun i hi => by
      have h9 : i = 0 ∨ i = 1 := by have : i < 2 := hi; omega
      rcases h9 with rfl | rfl <;> rfl)
  have hFl := hFl.ext (r' := COOR S e g c) rfl (fun j hj => by
        have h9 : j = 0 ∨ j = 1 ∨ j = 2 ∨ j = 3 ∨ j = 4 ∨ j = 5 ∨ j = 6 ∨ j = 7 ∨ j = 8 ∨ j = 15 ∨ j = 16 := by omega
        rcases h9 with rfl | rfl | rfl | rfl | rfl | rfl | rfl | rfl | rfl | rfl | rfl
        · rfl
        · rfl
        · rfl
        · rfl
        · rfl
        · exact eS.symm
        · rfl
        · rfl
        · rfl
        · rfl
        · rfl)
  refine h_pop C dX8_sendCookie_56 rfl ?_
  refine h_al_g C dX8_sendCookie_57 rfl rfl rfv_r ?_
  refine h_al_w (j := 0) C dX8_sendCookie_58 rfl rfv_r ?_
  refine h_callV1 (ci := 8) C (k_X8_post Z.l Z.G P _ _ q _ _ hFl.re) cw_X8_399 im_X8_post sl_X8_post rfl (by decide) (CRep.kX hFl.C) dX8_sendCookie_60 (by first | decide | exact Nat.le_of_ble_eq_true rfl) (by decide) (by decide) (by decide) (by decide) (kV fun μ5 hp9 => ?_) kN
  obtain ⟨hPo, hPn⟩ := hp9
  refine h_ret C E dX8_sendCookie_63 (by decide) (by decide) ?_
  exact ⟨rfl, hFl.T.tr hPo⟩

set_option maxRecDepth 100000 in
set_option maxHeartbeats 4000000 in
theorem k_X8_sendHello (l : Launch) (G : Gx) (P : Nat → Nat) (S : Sx) (μ : Mem) (hC : CRep G P S μ) (a b : Nat) (ha : a < 3) (hb : b < 3) (hN : 0 ≤ (HNUM S).toInt ∧ (HNUM S).toInt < 1000000) : Kon l yX8_sendHello cX8_sendHello 7 (some .int) 9 4 1018 212 G [.ref (P 0), .ref (P (4 + a)), .ref (P (16 + 3 * a + b))] μ (pI fun v μ' => v = HNUM S ∧ CKo G P μ (HELS S a b) μ') noX := by
  refine Kon.ofG (by decide +kernel) (Nat.le_of_ble_eq_true rfl) (Nat.le_of_ble_eq_true rfl) (fun Z hZG C E NT MT => ?_)
  subst hZG
  have C : Cx Z RX8 cX8_sendHello 9 4 1018 212 := C
  show HW Z 0 0 0 [some (.ref (P 0)), some (.ref (P (4 + a))), some (.ref (P (16 + 3 * a + b))), none, none, none, none] [] μ
  refine h_al_g C dX8_sendHello_0 rfl rfl rfv_r ?_
  refine h_dup C dX8_sendHello_1 rfl ?_
  refine gf_X8_30 C dX8_sendHello_2 (CRep.kX hC) (CRep.f260 hC) ?_
  refine h_iconst (v := 1) C dX8_sendHello_5 (by decide) ?_
  refine h_iadd C dX8_sendHello_6 ?_
  refine pf_X8_30 C dX8_sendHello_7 (CRep.kX hC) ?_
  have hT1 : CKo Z.G P μ (S.sSc 1 (HNUM S)) _ := CKo.s260 hC (HNUM S)
  refine h_abs (fun ma ea => ?_)
  rw [show S.sc 1 + 1 = HNUM S from rfl] at ea
  rw [← ea] at hT1
  have hC0 := hC
  have hC := hT1.C
  refine h_al_g C dX8_sendHello_10 rfl rfl rfv_r ?_
  refine gf_X8_30 C dX8_sendHello_11 (CRep.kX hC) ((CRep.f260 hC).trans (show _ = HNUM S from rfl)) ?_
  refine h_callS1 C (k_X4_secretOf Z.l Z.G _ (cl (HNUM S)) (cl_nI hN.1) (by have := cl_eq hN.1; omega) _) cw_X8_371 st_X4_secretOf dX8_sendHello_14 (by first | decide | exact Nat.le_of_ble_eq_true rfl) (by decide) (by decide) (by decide) (by decide) (kI fun r1 μ1 hp1 => ?_) kN
  obtain ⟨rfl, rfl⟩ := hp1
  rw [show SEC (cl (HNUM S)) = HSEC S from rfl]
  refine h_ist_3 C dX8_sendHello_17 ct_r ?_
  refine h_al_g C dX8_sendHello_18 rfl rfl rfv_r ?_
  refine h_iconst (v := 4) C dX8_sendHello_19 (by decide) ?_
  refine h_al_g C dX8_sendHello_20 rfl rfl rfv_r ?_
  refine gf_X8_26 C dX8_sendHello_21 (CRep.kX hC) (CRep.f259 hC) ?_
  refine h_imul C dX8_sendHello_24 ?_
  refine h_al_g C dX8_sendHello_25 rfl rfl rfv_r ?_
  refine gf_X8_244 C dX8_sendHello_26 (CRep.kL hC (by assumption) (by assumption)) (CRep.f138 hC (by assumption) (by assumption)) ?_
  refine h_iconst (v := 1) C dX8_sendHello_29 (by decide) ?_
  refine h_iadd C dX8_sendHello_30 ?_
  refine h_callS2 C (k_J9_max_7cf53 Z.l Z.G _ _ _) cw_X8_374 st_J9_max_7cf53 dX8_sendHello_31 (by first | decide | exact Nat.le_of_ble_eq_true rfl) (by decide) (by decide) (by decide) (by decide) (kI fun r2 μ2 hp2 => ?_) kN
  obtain ⟨rfl, rfl⟩ := hp2
  refine pf_X8_244 C dX8_sendHello_34 (CRep.kL hC (by assumption) (by assumption)) ?_
  have hT2 : CKo Z.G P μ ((S.sSc 1 (HNUM S)).sLf 2 a b (HSTA S a b)) _ := hT1.tr (CKo.s138 hC ha hb (HSTA S a b))
  refine h_abs (fun mb eb => ?_)
  have eb2 : mb = ma.sfi 138 (P (16 + 3 * a + b)) (HSTA S a b) := eb
  rw [← eb2] at hT2
  have hC := hT2.C
  refine nw_X8_166 (4 + 32 * 40) C dX8_sendHello_37 (by first | decide | omega) (by decide) (by decide) (fun q hq => ?_)
  have hC0 := hC
  have hC := CRep.newO hC0 hq
  refine h_dup C dX8_sendHello_40 rfl ?_
  refine h_iconst (v := 1) C dX8_sendHello_41 (by decide) ?_
  refine h_al_g C dX8_sendHello_42 rfl rfl rfv_r ?_
  refine gf_X8_65 C dX8_sendHello_43 (CRep.kE hC (by assumption)) (CRep.f37 hC (by assumption)) ?_
  refine h_al_g C dX8_sendHello_46 rfl rfl rfv_r ?_
  refine gf_X8_221 C dX8_sendHello_47 (CRep.kL hC (by assumption) (by assumption)) (CRep.f132 hC (by assumption) (by assumption)) ?_
  refine h_callI3 C (k_X2_init Z.l Z.G q 1 (S.ef 0 a) (S.lf 0 a b) _ (by rw [kd_newO])) cw_X8_379 im_X2_init rfl dX8_sendHello_50 (by first | decide | exact Nat.le_of_ble_eq_true rfl) (by decide) (by decide) (by decide) (by decide) (kV fun μ1 hp3 => ?_) kN
  obtain ⟨hlq, hfq⟩ := hp3
  obtain ⟨fa, hFl⟩ := Flo.new hT2 hq hlq hfq
  have hC := hFl.C
  refine h_ast_4 C dX8_sendHello_53 ct_i rfv_r ?_
  refine h_al_w (j := 0) C dX8_sendHello_55 rfl rfv_r ?_
  refine h_iconst (v := 0) C dX8_sendHello_57 (by decide) ?_
  refine h_al_g C dX8_sendHello_58 rfl rfl rfv_r ?_
  refine gf_X8_30 C dX8_sendHello_59 (CRep.kX hC) ((CRep.f260 hC).trans (show _ = HNUM S from rfl)) ?_
  refine h_callV2 (ci := 3) C (k_X2_put Z.l Z.G _ q _ 0 0 _ rfl (by decide) hFl.k hFl.f99 hFl.kf hFl.ln) cw_X8_380 im_X2_put sl_X2_put rfl (by decide) hFl.k dX8_sendHello_62 (by first | decide | exact Nat.le_of_ble_eq_true rfl) (by decide) (by decide) (by decide) (by decide) (kV fun μ2 hp4 => ?_) kN
  have ePut := hp4
  obtain ⟨hFl2, hsm⟩ := hFl.putE (i := 0) (by decide) ePut
  have hFl := hFl2
  have hC := hFl.C
  refine h_al_w (j := 0) C dX8_sendHello_65 rfl rfv_r ?_
  refine h_iconst (v := 1) C dX8_sendHello_67 (by decide) ?_
  refine h_iload_g C dX8_sendHello_68 rfl rfl ?_
  refine h_callS1 C (k_X4_publicNumber Z.l Z.G _ (HSEC S) rfl (by have := SEC_lt (cl (HNUM S)); unfold HSEC; omega) _) cw_X8_269 st_X4_publicNumber dX8_sendHello_69 (by first | decide | exact Nat.le_of_ble_eq_true rfl) (by decide) (by decide) (by decide) (by decide) (kI fun r5 μ3 hp5 => ?_) kN
  obtain ⟨rfl, rfl⟩ := hp5
  refine h_callV2 (ci := 3) C (k_X2_put Z.l Z.G _ q _ 1 1 _ rfl (by decide) hFl.k hFl.f99 hFl.kf hFl.ln) cw_X8_380 im_X2_put sl_X2_put rfl (by decide) hFl.k dX8_sendHello_72 (by first | decide | exact Nat.le_of_ble_eq_true rfl) (by decide) (by decide) (by decide) (by decide) (kV fun μ3 hp6 => ?_) kN
  have ePut := hp6
  obtain ⟨hFl2, hsm⟩ := hFl.putE (i := 1) (by decide) ePut
  have hFl := hFl2
  have hC := hFl.C
  refine h_al_w (j := 0) C dX8_sendHello_75 rfl rfv_r ?_
  refine h_iconst (v := 2) C dX8_sendHello_77 (by decide) ?_
  refine h_bipush (v := 10) C dX8_sendHello_78 (by decide) ?_
  refine h_al_g C dX8_sendHello_80 rfl rfl rfv_r ?_
  refine gf_X8_319 C dX8_sendHello_81 (CRep.kE hC (by assumption)) (CRep.f32 hC (by assumption)) ?_
  refine h_imul C dX8_sendHello_84 ?_
  refine h_al_g C dX8_sendHello_85 rfl rfl rfv_r ?_
  refine gf_X8_129 C dX8_sendHello_86 (CRep.kL hC (by assumption) (by assumption)) (CRep.f128 hC (by assumption) (by assumption)) ?_
  refine h_iadd C dX8_sendHello_89 ?_
  rw [show (10 * nI a + nI b : Int32) = nI (10 * a + b) from by rw [show (10 : Int32) = nI 10 from rfl, pk_mul, nI_add]]
  refine h_callV2 (ci := 3) C (k_X2_put Z.l Z.G _ q _ 2 2 _ rfl (by decide) hFl.k hFl.f99 hFl.kf hFl.ln) cw_X8_380 im_X2_put sl_X2_put rfl (by decide) hFl.k dX8_sendHello_90 (by first | decide | exact Nat.le_of_ble_eq_true rfl) (by decide) (by decide) (by decide) (by decide) (kV fun μ4 hp7 => ?_) kN
  have ePut := hp7
  obtain ⟨hFl2, hsm⟩ := hFl.putE (i := 2) (by decide) ePut
  have hFl := hFl2
  have hC := hFl.C
  refine h_al_w (j := 0) C dX8_sendHello_93 rfl rfv_r ?_
  refine h_iconst (v := 3) C dX8_sendHello_95 (by decide) ?_
  refine h_al_g C dX8_sendHello_96 rfl rfl rfv_r ?_
  refine gf_X8_244 C dX8_sendHello_97 (CRep.kL hC ha hb) ((CRep.f138 hC ha hb).trans (show _ = HSTA S a b from lf_at)) ?_
  refine h_callV2 (ci := 3) C (k_X2_put Z.l Z.G _ q _ 3 3 _ rfl (by decide) hFl.k hFl.f99 hFl.kf hFl.ln) cw_X8_380 im_X2_put sl_X2_put rfl (by decide) hFl.k dX8_sendHello_100 (by first | decide | exact Nat.le_of_ble_eq_true rfl) (by decide) (by decide) (by decide) (by decide) (kV fun μ5 hp8 => ?_) kN
  have ePut := hp8
  obtain ⟨hFl2, hsm⟩ := hFl.putE (i := 3) (by decide) ePut
  have hFl := hFl2
  have hC := hFl.C
  refine h_al_w (j := 0) C dX8_sendHello_103 rfl rfv_r ?_
  refine h_al_g C dX8_sendHello_105 rfl rfl rfv_r ?_
  refine h_al_g C dX8_sendHello_106 rfl rfl rfv_r ?_
  refine gf_X8_384 C dX8_sendHello_107 (CRep.kL hC (by assumption) (by assumption)) (CRep.f129 hC (by assumption) (by assumption)) ?_
  refine h_iload_g C dX8_sendHello_110 rfl rfl ?_
  refine h_callS2 C (k_X4_power Z.l Z.G _ _ (NAME b) (HSEC S) rfl (NAME_lt b) rfl (by have := SEC_lt (cl (HNUM S)); unfold HSEC; omega) _) cw_X8_274 st_X4_power dX8_sendHello_111 (by first | decide | exact Nat.le_of_ble_eq_true rfl) (by decide) (by decide) (by decide) (by decide) (kI fun r9 μ4 hp9 => ?_) kN
  obtain ⟨rfl, rfl⟩ := hp9
  refine h_callS2 C (k_X8_helloKey Z.l Z.G P _ _ hC _ _ (by assumption) (by assumption) _) cw_X8_387 st_X8_helloKey dX8_sendHello_114 (by first | decide | exact Nat.le_of_ble_eq_true rfl) (by decide) (by decide) (by decide) (by decide) (kI fun r10 μ5 hp10 => ?_) kN
  obtain ⟨rfl, rfl⟩ := hp10
  rw [show MIX [1, (nI (PW (NAME b) (HSEC S))).toInt, (PW (NAME b) (211 + 307 * a) : Nat)] = HKY a b (HSEC S) from by rw [PW_i]; rfl]
  refine h_callV1 (ci := 3) C (k_X2_sealWith Z.l Z.G _ KFLO q _ hFl.L (by decide) rfl _ (HKY a b (HSEC S)) rfl (MIX_lt _)) cw_X8_391 im_X2_sealWith sl_X2_sealWith rfl (by decide) hFl.k dX8_sendHello_117 (by first | decide | exact Nat.le_of_ble_eq_true rfl) (by decide) (by decide) (by decide) (by decide) (kI fun r11 μ7 hp11 => ?_) kN
  obtain ⟨rfl, hlS, hfS⟩ := hp11
  have eS : SEALR (HKY a b (HSEC S)) (u1 (u1 (u1 (u1 (row0 1 (S.ef 0 a) (S.lf 0 a b)) (3 + 0) (HNUM S)) (3 + 1) (nI (PW 7 (HSEC S)))) (3 + 2) (nI (10 * a + b))) (3 + 3) (HSTA S a b)) = HTAG S a b := SEALR_N rfl rfl (fun i hi => by
      have h9 : i = 0 ∨ i = 1 ∨ i = 2 ∨ i = 3 := by have : i < 4 := hi; omega
      rcases h9 with rfl | rfl | rfl | rfl <;> rfl)
  rw [eS]
  obtain ⟨fa2, hFl⟩ := hFl.work hlS hfS
  have hC := hFl.C
  refine h_ist_5 C dX8_sendHello_120 ct_r ?_
  refine h_al_g C dX8_sendHello_122 rfl rfl rfv_r ?_
  refine h_al_g C dX8_sendHello_123 rfl rfl rfv_r ?_
  refine h_callV1 (ci := 8) C (k_X8_youngCookie Z.l Z.G P _ _ hC _ _ (by assumption) (by assumption)) cw_X8_240 im_X8_youngCookie sl_X8_youngCookie rfl (by decide) (CRep.kX hC) dX8_sendHello_124 (by first | decide | exact Nat.le_of_ble_eq_true rfl) (by decide) (by decide) (by decide) (by decide) (kI fun r12 μ6 hp12 => ?_) kN
  obtain ⟨rfl, rfl⟩ := hp12
  rw [show YCK ((S.sSc 1 (HNUM S)).sLf 2 a b (HSTA S a b)) a b = YCK S a b from rfl]
  refine h_ist_6 C dX8_sendHello_127 ct_i ?_
  refine h_al_w (j := 0) C dX8_sendHello_129 rfl rfv_r ?_
  refine h_iconst (v := 5) C dX8_sendHello_131 (by decide) ?_
  refine h_iload_w C dX8_sendHello_132 rfl ?_
  refine h_iconst (v := (-1)) C dX8_sendHello_134 (by decide) ?_
  refine h_icmp_ne (tgt := 142) C dX8_sendHello_135 (by decide) (fun cY => ?_) (fun cY => ?_)
  · have eP : nI (MIX [2, (YCK S a b).toInt, (HTAG S a b).toInt]) = HPRO S a b (HTAG S a b) := (if_neg cY).symm
    refine h_iconst (v := 2) C dX8_sendHello_142 (by decide) ?_
    refine h_iload_w C dX8_sendHello_143 rfl ?_
    refine h_iload_w C dX8_sendHello_145 rfl ?_
    refine h_callS3 C (k_X4_mix Z.l Z.G _ _ _ _) cw_X8_394 st_X4_mix dX8_sendHello_147 (by first | decide | exact Nat.le_of_ble_eq_true rfl) (by decide) (by decide) (by decide) (by decide) (kI fun r13 μ7 hp13 => ?_) kN
    obtain ⟨rfl, rfl⟩ := hp13
    refine h_callV2 (ci := 3) C (k_X2_put Z.l Z.G _ q _ 5 5 _ rfl (by decide) hFl.k hFl.f99 hFl.kf hFl.ln) cw_X8_380 im_X2_put sl_X2_put rfl (by decide) hFl.k dX8_sendHello_150 (by first | decide | exact Nat.le_of_ble_eq_true rfl) (by decide) (by decide) (by decide) (by decide) (kV fun μ8 hp14 => ?_) kN
    have ePut := hp14
    obtain ⟨hFl2, hsm⟩ := hFl.putE (i := 5) (by decide) ePut
    have hFl := hFl2
    have hFl := hFl.ext (r' := HELR S a b) rfl (fun j hj => by
          have h9 : j = 0 ∨ j = 1 ∨ j = 2 ∨ j = 3 ∨ j = 4 ∨ j = 5 ∨ j = 6 ∨ j = 7 ∨ j = 8 ∨ j = 15 ∨ j = 16 := by omega
          rcases h9 with rfl | rfl | rfl | rfl | rfl | rfl | rfl | rfl | rfl | rfl | rfl
          · first | rfl | exact eP.symm
          · first | rfl | exact eP.symm
          · first | rfl | exact eP.symm
          · first | rfl | exact eP.symm
          · first | rfl | exact eP.symm
          · first | rfl | exact eP.symm
          · first | rfl | exact eP.symm
          · exact eS.symm
          · first | rfl | exact eP.symm
          · first | rfl | exact eP.symm
          · first | rfl | exact eP.symm)
    have hC := hFl.C
    refine h_al_g C dX8_sendHello_153 rfl rfl rfv_r ?_
    refine nw_X8_361 (3 + 32 * 40) C dX8_sendHello_154 (by decide) (by decide) (by decide) (fun q2 hq2 => ?_)
    have hqq : q ≠ q2 := ne_of_new hq2 (by rw [hFl.L.1]; decide)
    have hfq : fa2 ≠ q2 := ne_of_new hq2 (by rw [hFl.2.2.2.1]; unfold FM; omega)
    have hT5 : CKo Z.G P _ ((S.sSc 1 (HNUM S)).sLf 2 a b (HSTA S a b)) _ := CKo.float (W := fun k => k = 3 + 32 * 40) hC (FrK.newO hq2 rfl) (fun k e => Or.inl (by rw [e])) (fun k e => by rw [e]; decide)
    have hFl := hFl.put hT5 (same_newO hqq) (same_newO hfq)
    have hC := hFl.C
    refine h_dup C dX8_sendHello_157 rfl ?_
    refine h_al_g C dX8_sendHello_158 rfl rfl rfv_r ?_
    refine gf_X8_30 C dX8_sendHello_159 (CRep.kX hC) ((CRep.f260 hC).trans (show _ = HNUM S from rfl)) ?_
    refine h_iload_g C dX8_sendHello_162 rfl rfl ?_
    refine h_iload_w C dX8_sendHello_163 rfl ?_
    refine h_al_g C dX8_sendHello_165 rfl rfl rfv_r ?_
    refine gf_X8_26 C dX8_sendHello_166 (CRep.kX hC) (CRep.f259 hC) ?_
    refine h_callI4 C (k_X1_init Z.l Z.G q2 _ _ _ _ _ (by rw [kd_newO])) cw_X8_398 im_X1_init rfl dX8_sendHello_169 (by first | decide | exact Nat.le_of_ble_eq_true rfl) (by decide) (by decide) (by decide) (by decide) (kV fun μ9 hp15 => ?_) kN
    obtain ⟨hk2, hf2, h64, h65, h66, h67⟩ := hp15
    rw [kd_newO] at hk2 hf2
    have hkF := hFl.L.1
    have hkA := hFl.2.2.2.1
    have hT6 : CKo Z.G P _ ((S.sSc 1 (HNUM S)).sLf 2 a b (HSTA S a b)) μ9 := CKo.float hC hf2 (fun k e => Or.inl (by rw [e])) (fun k e => by rw [e]; decide)
    have hFl := hFl.put hT6 (hf2.st hkF (by decide) (by decide)) (hf2.st hkA (by unfold FM; omega) (fun e => by have e9 : 11 + 32 * (1000 + q) = 3 + 32 * 40 := e; omega))
    refine h_skd q2 KFL (by rw [hk2]; decide) (by rw [hk2]; decide) ?_
    have hT7 : CKo Z.G P μ9 ((S.sSc 1 (HNUM S)).sLf 2 a b (HSTA S a b)) (μ9.skd q2 KFL) := CKo.put ⟨CRep.skd hFl.C (by rw [hk2]) (by rw [hk2]; decide) (by rw [hk2]; decide) (by rw [hk2]; decide), FrS.skd (by rw [hk2]; decide) (by rw [hk2]; exact isC_fl (by decide)) ⟨by decide, Or.inl (by decide)⟩⟩ (fun z hz => same_skd hz) (by rw [hk2]; decide)
    have hFl := hFl.put hT7 (same_skd hqq) (same_skd hfq)
    have hC := hFl.C
    have hfl9 : FlIn (μ9.skd q2 KFL) q2 (mkF (HNUM S) (nI (HSEC S)) (HTAG S a b) (S.sc 0)) := ⟨kd_skd, h64, h65, h66, h67⟩
    refine pf_X8_356 (some _) C dX8_sendHello_172 (CRep.kL hC ha hb) rfl ?_
    have hT8 := CKo.s136 hC ha hb (some q2) (some (mkF (HNUM S) (nI (HSEC S)) (HTAG S a b) (S.sc 0))) hfl9.at
    have hkL := hC.1 (16 + 3 * a + b) (by omega)
    have hFl := hFl.put hT8 (same_sfr (fun e => by have h1 := hFl.L.1; rw [e, hkL] at h1; exact nKFLO_K (by omega) h1)) (same_sfr (fun e => by have h1 := hFl.kf; rw [e, hkL, show 16 + 3 * a + b = 16 + (3 * a + b) by omega, KS_LK (by omega)] at h1; exact absurd h1 (by decide)))
    refine h_al_g C dX8_sendHello_175 rfl rfl rfv_r ?_
    refine h_al_w (j := 0) C dX8_sendHello_176 rfl rfv_r ?_
    refine h_callV1 (ci := 8) C (k_X8_post Z.l Z.G P _ _ q _ _ hFl.re) cw_X8_399 im_X8_post sl_X8_post rfl (by decide) (CRep.kX hFl.C) dX8_sendHello_178 (by first | decide | exact Nat.le_of_ble_eq_true rfl) (by decide) (by decide) (by decide) (by decide) (kV fun μ8 hp16 => ?_) kN
    obtain ⟨hPo, hPn⟩ := hp16
    have hTT := hFl.T.tr hPo
    have hC := hTT.C
    refine h_al_g C dX8_sendHello_181 rfl rfl rfv_r ?_
    refine gf_X8_30 C dX8_sendHello_182 (CRep.kX hC) ((CRep.f260 hC).trans (show _ = HNUM S from rfl)) ?_
    refine h_iret C E dX8_sendHello_185 (by decide) (by decide) ?_
    exact ⟨_, rfl, rfl, hTT⟩
  · have eP : (0 : Int32) = HPRO S a b (HTAG S a b) := (if_pos (cY)).symm
    refine h_iconst (v := 0) C dX8_sendHello_138 (by decide) ?_
    refine h_goto (tgt := 150) C dX8_sendHello_139 (by decide) ?_
    refine h_callV2 (ci := 3) C (k_X2_put Z.l Z.G _ q _ 5 5 _ rfl (by decide) hFl.k hFl.f99 hFl.kf hFl.ln) cw_X8_380 im_X2_put sl_X2_put rfl (by decide) hFl.k dX8_sendHello_150 (by first | decide | exact Nat.le_of_ble_eq_true rfl) (by decide) (by decide) (by decide) (by decide) (kV fun μ8 hp17 => ?_) kN
    have ePut := hp17
    obtain ⟨hFl2, hsm⟩ := hFl.putE (i := 5) (by decide) ePut
    have hFl := hFl2
    have hFl := hFl.ext (r' := HELR S a b) rfl (fun j hj => by
          have h9 : j = 0 ∨ j = 1 ∨ j = 2 ∨ j = 3 ∨ j = 4 ∨ j = 5 ∨ j = 6 ∨ j = 7 ∨ j = 8 ∨ j = 15 ∨ j = 16 := by omega
          rcases h9 with rfl | rfl | rfl | rfl | rfl | rfl | rfl | rfl | rfl | rfl | rfl
          · first | rfl | exact eP.symm
          · first | rfl | exact eP.symm
          · first | rfl | exact eP.symm
          · first | rfl | exact eP.symm
          · first | rfl | exact eP.symm
          · first | rfl | exact eP.symm
          · first | rfl | exact eP.symm
          · exact eS.symm
          · first | rfl | exact eP.symm
          · first | rfl | exact eP.symm
          · first | rfl | exact eP.symm)
    have hC := hFl.C
    refine h_al_g C dX8_sendHello_153 rfl rfl rfv_r ?_
    refine nw_X8_361 (3 + 32 * 40) C dX8_sendHello_154 (by decide) (by decide) (by decide) (fun q2 hq2 => ?_)
    have hqq : q ≠ q2 := ne_of_new hq2 (by rw [hFl.L.1]; decide)
    have hfq : fa2 ≠ q2 := ne_of_new hq2 (by rw [hFl.2.2.2.1]; unfold FM; omega)
    have hT5 : CKo Z.G P _ ((S.sSc 1 (HNUM S)).sLf 2 a b (HSTA S a b)) _ := CKo.float (W := fun k => k = 3 + 32 * 40) hC (FrK.newO hq2 rfl) (fun k e => Or.inl (by rw [e])) (fun k e => by rw [e]; decide)
    have hFl := hFl.put hT5 (same_newO hqq) (same_newO hfq)
    have hC := hFl.C
    refine h_dup C dX8_sendHello_157 rfl ?_
    refine h_al_g C dX8_sendHello_158 rfl rfl rfv_r ?_
    refine gf_X8_30 C dX8_sendHello_159 (CRep.kX hC) ((CRep.f260 hC).trans (show _ = HNUM S from rfl)) ?_
    refine h_iload_g C dX8_sendHello_162 rfl rfl ?_
    refine h_iload_w C dX8_sendHello_163 rfl ?_
    refine h_al_g C dX8_sendHello_165 rfl rfl rfv_r ?_
    refine gf_X8_26 C dX8_sendHello_166 (CRep.kX hC) (CRep.f259 hC) ?_
    refine h_callI4 C (k_X1_init Z.l Z.G q2 _ _ _ _ _ (by rw [kd_newO])) cw_X8_398 im_X1_init rfl dX8_sendHello_169 (by first | decide | exact Nat.le_of_ble_eq_true rfl) (by decide) (by decide) (by decide) (by decide) (kV fun μ9 hp18 => ?_) kN
    obtain ⟨hk2, hf2, h64, h65, h66, h67⟩ := hp18
    rw [kd_newO] at hk2 hf2
    have hkF := hFl.L.1
    have hkA := hFl.2.2.2.1
    have hT6 : CKo Z.G P _ ((S.sSc 1 (HNUM S)).sLf 2 a b (HSTA S a b)) μ9 := CKo.float hC hf2 (fun k e => Or.inl (by rw [e])) (fun k e => by rw [e]; decide)
    have hFl := hFl.put hT6 (hf2.st hkF (by decide) (by decide)) (hf2.st hkA (by unfold FM; omega) (fun e => by have e9 : 11 + 32 * (1000 + q) = 3 + 32 * 40 := e; omega))
    refine h_skd q2 KFL (by rw [hk2]; decide) (by rw [hk2]; decide) ?_
    have hT7 : CKo Z.G P μ9 ((S.sSc 1 (HNUM S)).sLf 2 a b (HSTA S a b)) (μ9.skd q2 KFL) := CKo.put ⟨CRep.skd hFl.C (by rw [hk2]) (by rw [hk2]; decide) (by rw [hk2]; decide) (by rw [hk2]; decide), FrS.skd (by rw [hk2]; decide) (by rw [hk2]; exact isC_fl (by decide)) ⟨by decide, Or.inl (by decide)⟩⟩ (fun z hz => same_skd hz) (by rw [hk2]; decide)
    have hFl := hFl.put hT7 (same_skd hqq) (same_skd hfq)
    have hC := hFl.C
    have hfl9 : FlIn (μ9.skd q2 KFL) q2 (mkF (HNUM S) (nI (HSEC S)) (HTAG S a b) (S.sc 0)) := ⟨kd_skd, h64, h65, h66, h67⟩
    refine pf_X8_356 (some _) C dX8_sendHello_172 (CRep.kL hC ha hb) rfl ?_
    have hT8 := CKo.s136 hC ha hb (some q2) (some (mkF (HNUM S) (nI (HSEC S)) (HTAG S a b) (S.sc 0))) hfl9.at
    have hkL := hC.1 (16 + 3 * a + b) (by omega)
    have hFl := hFl.put hT8 (same_sfr (fun e => by have h1 := hFl.L.1; rw [e, hkL] at h1; exact nKFLO_K (by omega) h1)) (same_sfr (fun e => by have h1 := hFl.kf; rw [e, hkL, show 16 + 3 * a + b = 16 + (3 * a + b) by omega, KS_LK (by omega)] at h1; exact absurd h1 (by decide)))
    refine h_al_g C dX8_sendHello_175 rfl rfl rfv_r ?_
    refine h_al_w (j := 0) C dX8_sendHello_176 rfl rfv_r ?_
    refine h_callV1 (ci := 8) C (k_X8_post Z.l Z.G P _ _ q _ _ hFl.re) cw_X8_399 im_X8_post sl_X8_post rfl (by decide) (CRep.kX hFl.C) dX8_sendHello_178 (by first | decide | exact Nat.le_of_ble_eq_true rfl) (by decide) (by decide) (by decide) (by decide) (kV fun μ9 hp19 => ?_) kN
    obtain ⟨hPo, hPn⟩ := hp19
    have hTT := hFl.T.tr hPo
    have hC := hTT.C
    refine h_al_g C dX8_sendHello_181 rfl rfl rfv_r ?_
    refine gf_X8_30 C dX8_sendHello_182 (CRep.kX hC) ((CRep.f260 hC).trans (show _ = HNUM S from rfl)) ?_
    refine h_iret C E dX8_sendHello_185 (by decide) (by decide) ?_
    exact ⟨_, rfl, rfl, hTT⟩

def GUFS (S : Sx) (a b : Nat) (S9 : Sx) : Prop := (FRE S a b ∧ S9 = S) ∨ (¬ FRE S a b ∧ S9 = HELS S a b)
set_option maxRecDepth 100000 in
set_option maxHeartbeats 4000000 in
theorem k_X8_greetUnlessFresh (l : Launch) (G : Gx) (P : Nat → Nat) (S : Sx) (μ : Mem) (hC : CRep G P S μ) (a b : Nat) (ha : a < 3) (hb : b < 3) (hN : 0 ≤ (HNUM S).toInt ∧ (HNUM S).toInt < 1000000) : Kon l yX8_greetUnlessFresh cX8_greetUnlessFresh 3 none 10 4 1018 238 G [.ref (P 0), .ref (P (4 + a)), .ref (P (16 + 3 * a + b))] μ (pV fun μ' => ∃ S9, GUFS S a b S9 ∧ CKo G P μ S9 μ') noX := by
  refine Kon.ofG (by decide +kernel) (Nat.le_of_ble_eq_true rfl) (Nat.le_of_ble_eq_true rfl) (fun Z hZG C E NT MT => ?_)
  subst hZG
  have C : Cx Z RX8 cX8_greetUnlessFresh 10 4 1018 238 := C
  show HW Z 0 0 0 [some (.ref (P 0)), some (.ref (P (4 + a))), some (.ref (P (16 + 3 * a + b)))] [] μ
  refine h_al_g C dX8_greetUnlessFresh_0 rfl rfl rfv_r ?_
  refine h_al_g C dX8_greetUnlessFresh_1 rfl rfl rfv_r ?_
  refine h_callV1 (ci := 8) C (k_X8_hasFreshHello Z.l Z.G P S _ hC _ _ (by assumption) (by assumption)) cw_X8_151 im_X8_hasFreshHello sl_X8_hasFreshHello rfl (by decide) (CRep.kX hC) dX8_greetUnlessFresh_2 (by first | decide | exact Nat.le_of_ble_eq_true rfl) (by decide) (by decide) (by decide) (by decide) (kB (fun μ1 hp1 => ?_) (fun μ1 hp1 => ?_)) kN
  · obtain ⟨rfl, hFr⟩ := hp1
    refine h_if_ne (tgt := 15) C dX8_greetUnlessFresh_5 (by decide) (fun c1 => ?_) (fun c1 => absurd c1 (by decide))
    refine h_ret C E dX8_greetUnlessFresh_15 (by decide) (by decide) ?_
    exact ⟨rfl, S, Or.inl ⟨hFr, rfl⟩, CKo.rf hC⟩
  · obtain ⟨rfl, hFr⟩ := hp1
    refine h_if_ne (tgt := 15) C dX8_greetUnlessFresh_5 (by decide) (fun c2 => absurd c2 (by decide)) (fun c2 => ?_)
    refine h_al_g C dX8_greetUnlessFresh_8 rfl rfl rfv_r ?_
    refine h_al_g C dX8_greetUnlessFresh_9 rfl rfl rfv_r ?_
    refine h_al_g C dX8_greetUnlessFresh_10 rfl rfl rfv_r ?_
    refine h_callV2 (ci := 8) C (k_X8_sendHello Z.l Z.G P S _ hC _ _ (by assumption) (by assumption) hN) cw_X8_157 im_X8_sendHello sl_X8_sendHello rfl (by decide) (CRep.kX hC) dX8_greetUnlessFresh_11 (by first | decide | exact Nat.le_of_ble_eq_true rfl) (by decide) (by decide) (by decide) (by decide) (kI fun r2 μ2 hp2 => ?_) kN
    obtain ⟨rfl, hTh⟩ := hp2
    refine h_pop C dX8_greetUnlessFresh_14 rfl ?_
    refine h_ret C E dX8_greetUnlessFresh_15 (by decide) (by decide) ?_
    exact ⟨rfl, _, Or.inr ⟨hFr, rfl⟩, hTh⟩

set_option maxRecDepth 100000 in
set_option maxHeartbeats 4000000 in
theorem k_X8_sendReply (l : Launch) (G : Gx) (P : Nat → Nat) (S : Sx) (μ : Mem) (hC : CRep G P S μ) (e b : Nat) (he : e < 3) (hb : b < 3) (hN : 0 ≤ (HNUM S).toInt ∧ (HNUM S).toInt < 1000000) (p fp : Nat) (g : Row) (hg : Got μ p fp g) (k : Nat) (hk9 : k < 65521) (hX : g 4 = nI (cl (g 4))) (hX2 : cl (g 4) < 2039) : Kon l yX8_sendReply cX8_sendReply 10 none 9 4 1024 212 G [.ref (P 0), .ref (P (4 + e)), .ref (P (16 + 3 * e + b)), .ref p, .int (nI k)] μ (pV fun μ' => CKo G P μ (REPS S e b k g) μ') noX := by
  refine Kon.ofG (by decide +kernel) (Nat.le_of_ble_eq_true rfl) (Nat.le_of_ble_eq_true rfl) (fun Z hZG C E NT MT => ?_)
  subst hZG
  have C : Cx Z RX8 cX8_sendReply 9 4 1024 212 := C
  show HW Z 0 0 0 [some (.ref (P 0)), some (.ref (P (4 + e))), some (.ref (P (16 + 3 * e + b))), some (.ref p), some (.int (nI k)), none, none, none, none, none] [] μ
  have hg0 := hg
  refine h_al_g C dX8_sendReply_0 rfl rfl rfv_r ?_
  refine h_dup C dX8_sendReply_1 rfl ?_
  refine gf_X8_30 C dX8_sendReply_2 (CRep.kX hC) (CRep.f260 hC) ?_
  refine h_iconst (v := 1) C dX8_sendReply_5 (by decide) ?_
  refine h_iadd C dX8_sendReply_6 ?_
  refine pf_X8_30 C dX8_sendReply_7 (CRep.kX hC) ?_
  have hT1 : CKo Z.G P μ (S.sSc 1 (HNUM S)) _ := CKo.s260 hC (HNUM S)
  refine h_abs (fun ma ea => ?_)
  rw [show S.sc 1 + 1 = HNUM S from rfl] at ea
  rw [← ea] at hT1
  have hC := hT1.C
  have hg := hg0.kl hT1.2
  refine h_al_g C dX8_sendReply_10 rfl rfl rfv_r ?_
  refine gf_X8_30 C dX8_sendReply_11 (CRep.kX hC) ((CRep.f260 hC).trans (show _ = HNUM S from rfl)) ?_
  refine h_callS1 C (k_X4_secretOf Z.l Z.G _ (cl (HNUM S)) (cl_nI hN.1) (by have := cl_eq hN.1; omega) _) cw_X8_371 st_X4_secretOf dX8_sendReply_14 (by first | decide | exact Nat.le_of_ble_eq_true rfl) (by decide) (by decide) (by decide) (by decide) (kI fun r1 μ1 hp1 => ?_) kN
  obtain ⟨rfl, rfl⟩ := hp1
  rw [show SEC (cl (HNUM S)) = HSEC S from rfl]
  refine h_ist_5 C dX8_sendReply_17 ct_i ?_
  refine nw_X8_166 (4 + 32 * 40) C dX8_sendReply_19 (by first | decide | omega) (by decide) (by decide) (fun q hq => ?_)
  have hC0 := hC
  have hC := CRep.newO hC0 hq
  refine h_dup C dX8_sendReply_22 rfl ?_
  refine h_iconst (v := 2) C dX8_sendReply_23 (by decide) ?_
  refine h_al_g C dX8_sendReply_24 rfl rfl rfv_r ?_
  refine gf_X8_65 C dX8_sendReply_25 (CRep.kE hC (by assumption)) (CRep.f37 hC (by assumption)) ?_
  refine h_al_g C dX8_sendReply_28 rfl rfl rfv_r ?_
  refine gf_X8_221 C dX8_sendReply_29 (CRep.kL hC (by assumption) (by assumption)) (CRep.f132 hC (by assumption) (by assumption)) ?_
  refine h_callI3 C (k_X2_init Z.l Z.G q 2 (S.ef 0 e) (S.lf 0 e b) _ (by rw [kd_newO])) cw_X8_379 im_X2_init rfl dX8_sendReply_32 (by first | decide | exact Nat.le_of_ble_eq_true rfl) (by decide) (by decide) (by decide) (by decide) (kV fun μ1 hp2 => ?_) kN
  obtain ⟨hlq, hfq⟩ := hp2
  obtain ⟨fa, hFl⟩ := Flo.new hT1 hq hlq hfq
  have hC := hFl.C
  refine h_ast_6 C dX8_sendReply_35 ct_i rfv_r ?_
  refine h_al_w (j := 0) C dX8_sendReply_37 rfl rfv_r ?_
  refine h_iconst (v := 0) C dX8_sendReply_39 (by decide) ?_
  refine h_al_g C dX8_sendReply_40 rfl rfl rfv_r ?_
  refine gf_X8_30 C dX8_sendReply_41 (CRep.kX hC) ((CRep.f260 hC).trans (show _ = HNUM S from rfl)) ?_
  refine h_callV2 (ci := 3) C (k_X2_put Z.l Z.G _ q _ 0 0 _ rfl (by decide) hFl.k hFl.f99 hFl.kf hFl.ln) cw_X8_380 im_X2_put sl_X2_put rfl (by decide) hFl.k dX8_sendReply_44 (by first | decide | exact Nat.le_of_ble_eq_true rfl) (by decide) (by decide) (by decide) (by decide) (kV fun μ2 hp3 => ?_) kN
  have ePut := hp3
  obtain ⟨hFl2, hsm⟩ := hFl.putE (i := 0) (by decide) ePut
  have hFl := hFl2
  have hC := hFl.C
  refine h_al_w (j := 0) C dX8_sendReply_47 rfl rfv_r ?_
  refine h_iconst (v := 1) C dX8_sendReply_49 (by decide) ?_
  have hg := hg0.kl hFl.T.2
  refine h_al_g C dX8_sendReply_50 rfl rfl rfv_r ?_
  refine h_iconst (v := 0) C dX8_sendReply_51 (by decide) ?_
  refine h_callV1 (ci := 3) C (k_X2_fld Z.l Z.G _ p fp 0 0 (g 3) rfl (by decide) hg.k hg.f99 hg.kf hg.ln (hg.at (i := 0) (by decide))) cw_X8_203 im_X2_fieldAt sl_X2_fieldAt rfl (by decide) hg.k dX8_sendReply_52 (by first | decide | exact Nat.le_of_ble_eq_true rfl) (by decide) (by decide) (by decide) (by decide) (kI fun r4 μ2 hp4 => ?_) kN
  obtain ⟨rfl, rfl⟩ := hp4
  refine h_callV2 (ci := 3) C (k_X2_put Z.l Z.G _ q _ 1 1 _ rfl (by decide) hFl.k hFl.f99 hFl.kf hFl.ln) cw_X8_380 im_X2_put sl_X2_put rfl (by decide) hFl.k dX8_sendReply_55 (by first | decide | exact Nat.le_of_ble_eq_true rfl) (by decide) (by decide) (by decide) (by decide) (kV fun μ3 hp5 => ?_) kN
  have ePut := hp5
  obtain ⟨hFl2, hsm⟩ := hFl.putE (i := 1) (by decide) ePut
  have hFl := hFl2
  have hC := hFl.C
  refine h_al_w (j := 0) C dX8_sendReply_58 rfl rfv_r ?_
  refine h_iconst (v := 2) C dX8_sendReply_60 (by decide) ?_
  refine h_iload_w C dX8_sendReply_61 rfl ?_
  refine h_callS1 C (k_X4_publicNumber Z.l Z.G _ (HSEC S) rfl (by have := SEC_lt (cl (HNUM S)); unfold HSEC; omega) _) cw_X8_269 st_X4_publicNumber dX8_sendReply_63 (by first | decide | exact Nat.le_of_ble_eq_true rfl) (by decide) (by decide) (by decide) (by decide) (kI fun r6 μ3 hp6 => ?_) kN
  obtain ⟨rfl, rfl⟩ := hp6
  refine h_callV2 (ci := 3) C (k_X2_put Z.l Z.G _ q _ 2 2 _ rfl (by decide) hFl.k hFl.f99 hFl.kf hFl.ln) cw_X8_380 im_X2_put sl_X2_put rfl (by decide) hFl.k dX8_sendReply_66 (by first | decide | exact Nat.le_of_ble_eq_true rfl) (by decide) (by decide) (by decide) (by decide) (kV fun μ4 hp7 => ?_) kN
  have ePut := hp7
  obtain ⟨hFl2, hsm⟩ := hFl.putE (i := 2) (by decide) ePut
  have hFl := hFl2
  have hC := hFl.C
  have hg := hg0.kl hFl.T.2
  refine h_al_g C dX8_sendReply_69 rfl rfl rfv_r ?_
  refine h_iconst (v := 1) C dX8_sendReply_70 (by decide) ?_
  refine h_callV1 (ci := 3) C (k_X2_fld Z.l Z.G _ p fp 1 1 (g 4) rfl (by decide) hg.k hg.f99 hg.kf hg.ln (hg.at (i := 1) (by decide))) cw_X8_203 im_X2_fieldAt sl_X2_fieldAt rfl (by decide) hg.k dX8_sendReply_71 (by first | decide | exact Nat.le_of_ble_eq_true rfl) (by decide) (by decide) (by decide) (by decide) (kI fun r8 μ4 hp8 => ?_) kN
  obtain ⟨rfl, rfl⟩ := hp8
  refine h_iload_w C dX8_sendReply_74 rfl ?_
  refine h_callS2 C (k_X4_power Z.l Z.G _ _ (cl (g 4)) (HSEC S) hX hX2 rfl (by have := SEC_lt (cl (HNUM S)); unfold HSEC; omega) _) cw_X8_274 st_X4_power dX8_sendReply_76 (by first | decide | exact Nat.le_of_ble_eq_true rfl) (by decide) (by decide) (by decide) (by decide) (kI fun r9 μ5 hp9 => ?_) kN
  obtain ⟨rfl, rfl⟩ := hp9
  refine h_ist_7 C dX8_sendReply_79 ct_r ?_
  refine h_al_g C dX8_sendReply_81 rfl rfl rfv_r ?_
  refine gf_X8_384 C dX8_sendReply_82 (CRep.kL hC (by assumption) (by assumption)) (CRep.f129 hC (by assumption) (by assumption)) ?_
  refine h_iload_w C dX8_sendReply_85 rfl ?_
  refine h_callS2 C (k_X4_power Z.l Z.G _ _ (NAME b) (HSEC S) rfl (NAME_lt b) rfl (by have := SEC_lt (cl (HNUM S)); unfold HSEC; omega) _) cw_X8_274 st_X4_power dX8_sendReply_87 (by first | decide | exact Nat.le_of_ble_eq_true rfl) (by decide) (by decide) (by decide) (by decide) (kI fun r10 μ6 hp10 => ?_) kN
  obtain ⟨rfl, rfl⟩ := hp10
  refine h_ist_8 C dX8_sendReply_90 ct_i ?_
  refine h_iconst (v := 4) C dX8_sendReply_92 (by decide) ?_
  refine h_iload_w C dX8_sendReply_93 rfl ?_
  refine h_iload_w C dX8_sendReply_95 rfl ?_
  refine h_iload_w C dX8_sendReply_97 rfl ?_
  refine h_callS4 C (k_X4_mixOfFour Z.l Z.G _ _ _ _ _) cw_X8_403 st_X4_mixOfFour dX8_sendReply_99 (by first | decide | exact Nat.le_of_ble_eq_true rfl) (by decide) (by decide) (by decide) (by decide) (kI fun r11 μ7 hp11 => ?_) kN
  obtain ⟨rfl, rfl⟩ := hp11
  rw [show MIX [(4 : Int32).toInt, (nI k).toInt, (nI (PW (cl (g 4)) (HSEC S))).toInt, (nI (PW (NAME b) (HSEC S))).toInt] = RKY S b k g from by rw [PW_i, PW_i, nI_toInt (n := k) (by omega)]; rfl]
  refine h_ist_9 C dX8_sendReply_102 ct_i ?_
  refine h_al_w (j := 0) C dX8_sendReply_104 rfl rfv_r ?_
  refine h_iload_w C dX8_sendReply_106 rfl ?_
  refine h_callV1 (ci := 3) C (k_X2_sealWith Z.l Z.G _ KFLO q _ hFl.L (by decide) rfl _ (RKY S b k g) rfl (MIX_lt _)) cw_X8_391 im_X2_sealWith sl_X2_sealWith rfl (by decide) hFl.k dX8_sendReply_108 (by first | decide | exact Nat.le_of_ble_eq_true rfl) (by decide) (by decide) (by decide) (by decide) (kI fun r12 μ7 hp12 => ?_) kN
  obtain ⟨rfl, hlS, hfS⟩ := hp12
  obtain ⟨fa2, hFl⟩ := hFl.work hlS hfS
  have eS : SEALR (RKY S b k g) (u1 (u1 (u1 (row0 2 (S.ef 0 e) (S.lf 0 e b)) (3 + 0) (HNUM S)) (3 + 1) (g 3)) (3 + 2) (nI (PW 7 (HSEC S)))) = SEALN (RKY S b k g) 2 [HNUM S, g 3, nI (PW 7 (HSEC S))] := SEALR_N rfl rfl (fun i hi => by
      have h9 : i = 0 ∨ i = 1 ∨ i = 2 := by have : i < 3 := hi; omega
      rcases h9 with rfl | rfl | rfl <;> rfl)
  have hFl := hFl.ext (r' := REPR S e b k g) rfl (fun j hj => by
        have h9 : j = 0 ∨ j = 1 ∨ j = 2 ∨ j = 3 ∨ j = 4 ∨ j = 5 ∨ j = 6 ∨ j = 7 ∨ j = 8 ∨ j = 15 ∨ j = 16 := by omega
        rcases h9 with rfl | rfl | rfl | rfl | rfl | rfl | rfl | rfl | rfl | rfl | rfl
        · rfl
        · rfl
        · rfl
        · rfl
        · rfl
        · rfl
        · exact eS.symm
        · rfl
        · rfl
        · rfl
        · rfl)
  refine h_pop C dX8_sendReply_111 rfl ?_
  refine h_al_g C dX8_sendReply_112 rfl rfl rfv_r ?_
  refine h_al_w (j := 0) C dX8_sendReply_113 rfl rfv_r ?_
  refine h_callV1 (ci := 8) C (k_X8_post Z.l Z.G P _ _ q _ _ hFl.re) cw_X8_399 im_X8_post sl_X8_post rfl (by decide) (CRep.kX hFl.C) dX8_sendReply_115 (by first | decide | exact Nat.le_of_ble_eq_true rfl) (by decide) (by decide) (by decide) (by decide) (kV fun μ8 hp13 => ?_) kN
  obtain ⟨hPo, hPn⟩ := hp13
  have hT2 : CKo Z.G P μ (POSTS (S.sSc 1 (HNUM S)) (REPR S e b k g)) _ := hFl.T.tr hPo
  have hC := hT2.C
  refine h_al_g C dX8_sendReply_118 rfl rfl rfv_r ?_
  refine nw_X8_346 (8 + 32 * 40) C dX8_sendReply_119 (by decide) (by decide) (by decide) (fun q2 hq2 => ?_)
  have hT3 : CKo Z.G P μ (POSTS (S.sSc 1 (HNUM S)) (REPR S e b k g)) _ := hT2.tr (CKo.float (W := fun k => k = 8 + 32 * 40) hC (FrK.newO hq2 rfl) (fun k9 e9 => Or.inl (by rw [e9])) (fun k9 e9 => by rw [e9]; decide))
  have hC := hT3.C
  have hg := hg0.kl hT3.2
  refine h_dup C dX8_sendReply_122 rfl ?_
  refine h_al_g C dX8_sendReply_123 rfl rfl rfv_r ?_
  refine gf_X8_30 C dX8_sendReply_124 (CRep.kX hC) ((CRep.f260 hC).trans (show _ = HNUM S from rfl)) ?_
  refine h_al_g C dX8_sendReply_127 rfl rfl rfv_r ?_
  refine h_iconst (v := 0) C dX8_sendReply_128 (by decide) ?_
  refine h_callV1 (ci := 3) C (k_X2_fld Z.l Z.G _ p fp 0 0 (g 3) rfl (by decide) hg.k hg.f99 hg.kf hg.ln (hg.at (i := 0) (by decide))) cw_X8_203 im_X2_fieldAt sl_X2_fieldAt rfl (by decide) hg.k dX8_sendReply_129 (by first | decide | exact Nat.le_of_ble_eq_true rfl) (by decide) (by decide) (by decide) (by decide) (kI fun r14 μ9 hp14 => ?_) kN
  obtain ⟨rfl, rfl⟩ := hp14
  refine h_al_g C dX8_sendReply_132 rfl rfl rfv_r ?_
  refine gf_X8_26 C dX8_sendReply_133 (CRep.kX hC) ((CRep.f259 hC).trans (show _ = S.sc 0 from rfl)) ?_
  refine h_iconst (v := 0) C dX8_sendReply_136 (by decide) ?_
  refine h_iload_w C dX8_sendReply_137 rfl ?_
  refine h_callI5 C (k_X7_init0 Z.l Z.G q2 _ _ _ (RKY S b k g) _ (by rw [kd_newO]) (MIX_lt _)) cw_X8_407 im_X7_init rfl dX8_sendReply_139 (by first | decide | exact Nat.le_of_ble_eq_true rfl) (by decide) (by decide) (by decide) (by decide) (kV fun mb2 hp15 => ?_) kN
  obtain ⟨k2, hf2, s4, s5, s6, s7, s8, s9, s0, t1, t2, t3⟩ := hp15
  rw [kd_newO] at k2 hf2
  have hT6 := hT3.tr (CKo.float hT3.C hf2 (fun k9 e9 => Or.inl (by rw [e9])) (fun k9 e9 => by rw [e9]; decide))
  have hC := hT6.C
  have kB : mb2.kd q2 = 8 + 32 * 40 := k2
  have hQ : SesAt mb2 (8 + 32 * 40) (some q2) (some (mkS (HNUM S) (g 3) (S.sc 0) (nI (MIX [5, (RKY S b k g : Int), 1])) (nI (MIX [5, (RKY S b k g : Int), 0])) 0, 0)) := Or.inr ⟨q2, _, rfl, rfl, kB, s4, s5, s6, s7, s8, s9, s0, t1, t2, t3⟩
  refine h_skd q2 (KSES e b 2) (by rw [kB]; unfold KSES; omega) (by rw [kB]; decide) ?_
  have kL9 : (mb2.skd q2 (KSES e b 2)).kd (P (16 + 3 * e + b)) % 32 = 5 := by rw [(same_skd (fun z => by have h1 := hC.kL he hb; rw [z, kB] at h1; exact absurd h1 (by decide))).1]; exact hC.kL he hb
  refine pf_X8_410 (some _) C dX8_sendReply_142 kL9 rfl ?_
  have hO := CRep.offer hC he hb hQ
  have hF9 : FrS isC mb2 ((mb2.skd q2 (KSES e b 2)).sfr 135 (P (16 + 3 * e + b)) (some q2)) := (FrS.skd (by rw [kB]; decide) (by rw [kB]; exact isC_fl (by decide)) (isC_SES he hb (by decide))).tr (FrS.sfr (by rw [(same_skd (fun z => by have h1 := hC.kL he hb; rw [z, kB] at h1; exact absurd h1 (by decide))).1]; exact isC_P hC.1 (by omega)))
  have hK9 : KL mb2 ((mb2.skd q2 (KSES e b 2)).sfr 135 (P (16 + 3 * e + b)) (some q2)) := (KL.m (fun z hz => same_skd hz) (by rw [kB]; decide)).tr (KL.m (fun z hz => same_sfr hz) (by rw [kL9]; decide))
  refine h_ret C E dX8_sendReply_145 (by decide) (by decide) ?_
  exact ⟨rfl, hT6.tr ⟨⟨hO, hF9⟩, hK9⟩⟩

set_option maxRecDepth 100000 in
set_option maxHeartbeats 4000000 in
theorem k_X8_putToWait (l : Launch) (G : Gx) (P : Nat → Nat) (S : Sx) (μ : Mem) (hC : CRep G P S μ) (a b : Nat) (ha : a < 3) (hb : b < 3) (q : Nat) (x y z : Int32) (hq : PkAt μ q (nI b) x y z) : Kon l yX8_putToWait cX8_putToWait 3 none 8 1 1000 191 G [.ref (P 0), .ref (P (16 + 3 * a + b)), .ref q] μ (pV fun μ' => CKo G P μ (S.sWt a b (PTW (S.wt a b) (mkP x y z))) μ') noX := by
  refine Kon.ofG (by decide +kernel) (Nat.le_of_ble_eq_true rfl) (Nat.le_of_ble_eq_true rfl) (fun Z hZG C E NT MT => ?_)
  subst hZG
  have C : Cx Z RX8 cX8_putToWait 8 1 1000 191 := C
  show HW Z 0 0 0 [some (.ref (P 0)), some (.ref (P (16 + 3 * a + b))), some (.ref q)] [] μ
  obtain ⟨xs, hxs, hLR⟩ := hC.wt a b ha hb
  have hlen := hLR.1
  have hmx := hxs.2.1
  have hkq : μ.kd q % 32 = 6 := by rw [hq.1]; decide
  refine h_al_g C dX8_putToWait_0 rfl rfl rfv_r ?_
  refine gs_X8_237 C dX8_putToWait_1 (CRep.kL hC (by assumption) (by assumption)) (CRep.f131 hC (by assumption) (by assumption)) ?_
  refine h_callV0 (ci := 0) (a_ := .null) C (k_Jx4a65c_size_8abf5 Z.l Z.G _ xs _ hxs) cw_X8_86 im_Jx4a65c_size_8abf5 sl_Jx4a65c_size_8abf5 rfl (by decide) hxs.1 dX8_putToWait_4 (by first | decide | exact Nat.le_of_ble_eq_true rfl) (by decide) (by decide) (by decide) (by decide) (kI fun r1 μ1 hp1 => ?_) kN
  obtain ⟨rfl, rfl⟩ := hp1
  refine h_iconst (v := 4) C dX8_putToWait_7 (by decide) ?_
  refine h_icmp_lt (tgt := 20) C dX8_putToWait_8 (by decide) (fun c1 => ?_) (fun c1 => ?_)
  · have h4 : ¬ 4 ≤ (S.wt a b).length := fun h => by rw [Int32.lt_iff_toInt_lt, tl_4, nI_toInt (by omega)] at c1; omega
    refine h_al_g C dX8_putToWait_20 rfl rfl rfv_r ?_
    refine gs_X8_237 C dX8_putToWait_21 (CRep.kL hC (by assumption) (by assumption)) (CRep.f131 hC (by assumption) (by assumption)) ?_
    refine h_al_g C dX8_putToWait_24 rfl rfl rfv_r ?_
    refine h_callV1 (ci := 0) C (k_Jx4a65c_add_9ea2d Z.l Z.G _ _ _ _ hxs (by omega) (Or.inr (Or.inl hkq))) cw_X8_103 im_Jx4a65c_add_9ea2d sl_Jx4a65c_add_9ea2d rfl (by decide) hxs.1 dX8_putToWait_25 (by first | decide | exact Nat.le_of_ble_eq_true rfl) (by decide) (by decide) (by decide) (by decide) (kI fun r2 μ2 hp2 => ?_) kN
    obtain ⟨hl4, hf4⟩ := hp2
    refine h_pop C dX8_putToWait_28 rfl ?_
    refine h_ret C E dX8_putToWait_29 (by decide) (by decide) ?_
    have hC2 := CRep.addWt (r := mkP x y z) hC ha hb hLR hq hl4 hf4
    exact ⟨rfl, by unfold PTW; rw [if_neg h4]; exact ⟨⟨hC2, hf4.S (LW_isC hC (by omega))⟩, KL.fr hf4 (nLW_hi hC (by omega) _ (by decide) (by decide) (by decide)) (fun p _ => nLW_FM hC (by omega) p)⟩⟩
  · have h4 : 4 ≤ (S.wt a b).length := by rw [Int32.lt_iff_toInt_lt, tl_4, nI_toInt (by omega)] at c1; omega
    have hi0 : xs[0]? = some xs[0] := List.getElem?_eq_getElem (by omega)
    refine h_al_g C dX8_putToWait_11 rfl rfl rfv_r ?_
    refine gs_X8_237 C dX8_putToWait_12 (CRep.kL hC (by assumption) (by assumption)) (CRep.f131 hC (by assumption) (by assumption)) ?_
    refine h_iconst (v := 0) C dX8_putToWait_15 (by decide) ?_
    refine h_callV1 (ci := 0) C (k_Jx4a65c_remove_915e3 Z.l Z.G _ xs 0 0 _ _ hxs rfl hi0) cw_X8_112 im_Jx4a65c_remove_915e3 sl_Jx4a65c_remove_915e3 rfl (by decide) hxs.1 dX8_putToWait_16 (by first | decide | exact Nat.le_of_ble_eq_true rfl) (by decide) (by decide) (by decide) (by decide) (kA fun r3 μ1 hp3 => ?_) kN
    obtain ⟨rfl, hl2, hf2⟩ := hp3
    have hC1 := CRep.rmWt hC ha hb hLR 0 hl2 hf2
    have hT1 : CKo Z.G P μ (S.sWt a b ((S.wt a b).eraseIdx 0)) μ1 := ⟨⟨hC1, hf2.S (LW_isC hC (by omega))⟩, KL.fr hf2 (nLW_hi hC (by omega) _ (by decide) (by decide) (by decide)) (fun p _ => nLW_FM hC (by omega) p)⟩
    have hq1 := hq.kept hf2 (nLW_hi hC (by omega) _ (by decide) (by decide) (by decide))
    have hLR1 : LR (fun p r => PkAt μ1 p (nI b) (r 0) (r 1) (r 2)) (xs.eraseIdx 0) ((S.wt a b).eraseIdx 0) := (hLR.imp fun p _ r hp => hp.kept hf2 (nLW_hi hC (by omega) _ (by decide) (by decide) (by decide))).erase 0
    have hl3 : (xs.eraseIdx 0).length < 600 := by rw [List.length_eraseIdx]; split <;> omega
    refine h_pop C dX8_putToWait_19 rfl ?_
    refine h_al_g C dX8_putToWait_20 rfl rfl rfv_r ?_
    refine gs_X8_237 C dX8_putToWait_21 (CRep.kL hC1 ha hb) (CRep.f131 hC1 ha hb) ?_
    refine h_al_g C dX8_putToWait_24 rfl rfl rfv_r ?_
    refine h_callV1 (ci := 0) C (k_Jx4a65c_add_9ea2d Z.l Z.G _ _ _ _ hl2 hl3 (Or.inr (Or.inl (by rw [hq1.1]; decide)))) cw_X8_103 im_Jx4a65c_add_9ea2d sl_Jx4a65c_add_9ea2d rfl (by decide) hl2.1 dX8_putToWait_25 (by first | decide | exact Nat.le_of_ble_eq_true rfl) (by decide) (by decide) (by decide) (by decide) (kI fun r4 μ2 hp4 => ?_) kN
    obtain ⟨hl4, hf4⟩ := hp4
    refine h_pop C dX8_putToWait_28 rfl ?_
    refine h_ret C E dX8_putToWait_29 (by decide) (by decide) ?_
    have hLR1b : LR (fun p r => PkAt μ1 p (nI b) (r 0) (r 1) (r 2)) (xs.eraseIdx 0) ((S.sWt a b ((S.wt a b).eraseIdx 0)).wt a b) := by rw [show (S.sWt a b ((S.wt a b).eraseIdx 0)).wt a b = (S.wt a b).eraseIdx 0 from w2_eq]; exact hLR1
    have hC2 := CRep.addWt (r := mkP x y z) hC1 ha hb hLR1b hq1 hl4 hf4
    rw [show (S.sWt a b ((S.wt a b).eraseIdx 0)).wt a b = (S.wt a b).eraseIdx 0 from w2_eq, sWt_sWt] at hC2
    exact ⟨rfl, by unfold PTW; rw [if_pos h4]; exact hT1.tr ⟨⟨hC2, hf4.S (LW_isC hC1 (by omega))⟩, KL.fr hf4 (nLW_hi hC1 (by omega) _ (by decide) (by decide) (by decide)) (fun p _ => nLW_FM hC1 (by omega) p)⟩⟩

set_option maxRecDepth 100000 in
set_option maxHeartbeats 4000000 in
theorem lp_X8_sendWaiting {Z : Zx} {Post : Option Value → Mem → Prop} {PostX : String → Mem → Prop} {rc rs mc ms : Nat} {P : Nat → Nat} {μ0 : Mem} {a b : Nat} (ha : a < 3) (hb : b < 3) (C : Cx Z RX8 cX8_sendWaiting 10 rc rs 239) (E : Rt Z mc ms none Post PostX) (h1 : rc = mc) (h2 : rs = ms) :
    ∀ (m : Nat) (S : Sx) (μ : Mem) (k n : Nat), CKo Z.G P μ0 S μ → (S.wt a b).length = m → okK S a b → k + 3 * m ≤ mc → n + 1014 * m ≤ ms → (∀ μ', CKo Z.G P μ0 (SWT a b m S) μ' → Post none μ') → ∀ z4 z5 : Option Value, HW Z k n 8 [some (.ref (P 0)), some (.ref (P (4 + a))), some (.ref (P (16 + 3 * a + b))), some (.int (nI m)), z4, z5] [] μ := by
  intro m
  induction m with
  | zero =>
    intro S μ k n hT hm hoK hk hn hP z4 z5
    refine h_iload_g C dX8_sendWaiting_8 rfl rfl ?_
    refine h_if_le (tgt := 77) C dX8_sendWaiting_9 (by decide) (fun c1 => ?_) (fun c1 => absurd ((by decide)) c1)
    refine h_ret C E dX8_sendWaiting_77 (by omega) (by omega) ?_
    exact hP _ hT
  | succ m ih =>
    intro S μ k n hT hm hoK hk hn hP z4 z5
    have hC := hT.C
    have hmx9 : m + 1 ≤ 600 := by obtain ⟨xs, hxs, hLR⟩ := hC.wt a b ha hb; have := hLR.1; have := hxs.2.1; omega
    refine h_iload_g C dX8_sendWaiting_8 rfl rfl ?_
    refine h_if_le (tgt := 77) C dX8_sendWaiting_9 (by decide) (fun c1 => absurd c1 ((fun h => by rw [Int32.le_iff_toInt_le, tl_0, nI_toInt (by omega)] at h; omega))) (fun c1 => ?_)
    refine h_al_g C dX8_sendWaiting_12 rfl rfl rfv_r ?_
    refine h_al_g C dX8_sendWaiting_13 rfl rfl rfv_r ?_
    refine h_callV1 (ci := 8) C (k_X8_usableOf Z.l Z.G P S _ hC a b ha hb) cw_X8_123 im_X8_usableOf sl_X8_usableOf rfl (by decide) (CRep.kX hC) dX8_sendWaiting_14 (by first | decide | exact Nat.le_of_ble_eq_true rfl) (by decide) (by decide) (by omega) (by omega) (kO (fun μu hp1 => ?_) (fun s μu hp1 => ?_)) kN
    · obtain ⟨rfl, hU⟩ := hp1
      refine h_ast_4 C dX8_sendWaiting_17 ct_i rfv_n ?_
      refine h_al_w (j := 0) C dX8_sendWaiting_19 rfl rfv_n ?_
      refine h_ifnull_n (tgt := 34) C dX8_sendWaiting_21 (by decide) ?_
      refine h_ret C E dX8_sendWaiting_34 (by omega) (by omega) ?_
      rw [show SWT a b (m + 1) S = S from by unfold SWT; rw [hU]] at hP
      exact hP _ hT
    · obtain ⟨rfl, r, hU, hsl, hs⟩ := hp1
      have hr := USE_some hU
      obtain ⟨K, hK, hK3⟩ := hoK r hr
      obtain ⟨xs, hxs, hLR⟩ := hC.wt a b ha hb
      have hlen := hLR.1
      have hmx := hxs.2.1
      obtain ⟨pk, ps, hps⟩ : ∃ pk ps, S.wt a b = pk :: ps := by
        cases h9 : S.wt a b with
        | nil => rw [h9] at hm; cases hm
        | cons pk ps => exact ⟨pk, ps, rfl⟩
      have hi0 : xs[0]? = some xs[0] := List.getElem?_eq_getElem (by omega)
      have hp0 := hLR.2 0 xs[0] pk hi0 (by rw [hps]; rfl)
      have hsc : SesCur P _ a b 1 s r := ⟨hs, hsl, hC.1 _ (by omega)⟩
      refine h_ast_4 C dX8_sendWaiting_17 ct_i rfv_r ?_
      refine h_al_w (j := 0) C dX8_sendWaiting_19 rfl rfv_r ?_
      refine h_ifnull_r C dX8_sendWaiting_21 ?_
      refine h_al_g C dX8_sendWaiting_24 rfl rfl rfv_r ?_
      refine gs_X8_237 C dX8_sendWaiting_25 (CRep.kL hC (by assumption) (by assumption)) (CRep.f131 hC (by assumption) (by assumption)) ?_
      refine h_callV0 (ci := 0) (a_ := .null) C (k_Jx4a65c_isEmpty_aae02 Z.l Z.G _ xs _ hxs) cw_X8_425 im_Jx4a65c_isEmpty_aae02 sl_Jx4a65c_isEmpty_aae02 rfl (by decide) hxs.1 dX8_sendWaiting_28 (by first | decide | exact Nat.le_of_ble_eq_true rfl) (by decide) (by decide) (by omega) (by omega) (kI fun r1 μ1 hp2 => ?_) kN
      obtain ⟨rfl, rfl⟩ := hp2
      rw [if_neg (show ¬ xs.length = 0 by omega)]
      refine h_if_eq (tgt := 35) C dX8_sendWaiting_31 (by decide) (fun c2 => ?_) (fun c2 => absurd (rfl) c2)
      refine h_al_g C dX8_sendWaiting_35 rfl rfl rfv_r ?_
      refine gs_X8_237 C dX8_sendWaiting_36 (CRep.kL hC (by assumption) (by assumption)) (CRep.f131 hC (by assumption) (by assumption)) ?_
      refine h_iconst (v := 0) C dX8_sendWaiting_39 (by decide) ?_
      refine h_callV1 (ci := 0) C (k_Jx4a65c_remove_915e3 Z.l Z.G _ xs 0 0 _ _ hxs rfl hi0) cw_X8_112 im_Jx4a65c_remove_915e3 sl_Jx4a65c_remove_915e3 rfl (by decide) hxs.1 dX8_sendWaiting_40 (by first | decide | exact Nat.le_of_ble_eq_true rfl) (by decide) (by decide) (by omega) (by omega) (kA fun r2 μ1 hp3 => ?_) kN
      obtain ⟨rfl, hl2, hf2⟩ := hp3
      have hj9 : 25 + 3 * a + b < 34 := by omega
      have hC1 := CRep.rmWt hC ha hb hLR 0 hl2 hf2
      rw [show (S.wt a b).eraseIdx 0 = ps from by rw [hps]; rfl] at hC1
      have hT1 : CKo Z.G P μ0 (S.sWt a b ps) μ1 := hT.tr ⟨⟨hC1, hf2.S (LW_isC hC hj9)⟩, KL.fr hf2 (nLW_hi hC hj9 _ (by decide) (by decide) (by decide)) (fun p _ => nLW_FM hC hj9 p)⟩
      have hpk1 := hp0.kept hf2 (nLW_hi hC hj9 _ (by decide) (by decide) (by decide))
      obtain ⟨hpk, hq1, hq2, hq3, hq4⟩ := hpk1
      have hpk6 : μ1.kd xs[0] % 32 = 6 := by rw [hpk]; decide
      have hsc1 := hsc.kept hf2 (nLW_hi hC hj9 _ (by unfold KSES; omega) (by unfold KSES; omega) (by unfold KSES; omega)) (nLW_K hC (by omega) hj9 (by omega))
      have hC := hC1
      refine h_castO (ci := 5) C kl_X8_127 rfl (by decide) dX8_sendWaiting_43 hpk6 ?_
      refine h_ast_5 C dX8_sendWaiting_46 ct_r rfv_r ?_
      refine h_al_g C dX8_sendWaiting_48 rfl rfl rfv_r ?_
      refine h_al_g C dX8_sendWaiting_49 rfl rfl rfv_r ?_
      refine h_al_g C dX8_sendWaiting_50 rfl rfl rfv_r ?_
      refine h_al_w (j := 0) C dX8_sendWaiting_51 rfl rfv_r ?_
      refine h_al_w (j := 0) C dX8_sendWaiting_53 rfl rfv_r ?_
      refine gf_X8_259 C dX8_sendWaiting_55 hpk6 hq2 ?_
      refine h_al_w (j := 0) C dX8_sendWaiting_58 rfl rfv_r ?_
      refine gf_X8_262 C dX8_sendWaiting_60 hpk6 hq3 ?_
      refine h_al_w (j := 0) C dX8_sendWaiting_63 rfl rfv_r ?_
      refine gf_X8_265 C dX8_sendWaiting_65 hpk6 hq4 ?_
      refine h_callV6 (ci := 8) C (k_X8_sendData Z.l Z.G P (S.sWt a b ps) _ hC1 a b ha hb s r hsc1 hr K hK3 hK _ _ _) cw_X8_143 im_X8_sendData sl_X8_sendData rfl (by decide) (CRep.kX hC1) dX8_sendWaiting_68 (by first | decide | exact Nat.le_of_ble_eq_true rfl) (by decide) (by decide) (by omega) (by omega) (kV fun μ2 hp4 => ?_) kN
      obtain ⟨hTd, _⟩ := hp4
      have hT2 := hT1.tr hTd
      refine h_iinc_3 (q := (-1)) C dX8_sendWaiting_71 (by decide) ct_r ?_
      refine h_goto (tgt := 8) C dX8_sendWaiting_74 (by decide) ?_
      rw [pk_m1]
      exact ih _ _ _ _ hT2 (by rw [DATS_wt, show (S.sWt a b ps).wt a b = ps from w2_eq]; rw [hps] at hm; exact Nat.succ.inj hm) (hoK.dats hr) (by omega) (by omega) (fun μ' h9 => hP μ' (by rw [show SWT a b (m + 1) S = SWT a b m (DATS (S.sWt a b ps) a b r (pk 0) (pk 1) (pk 2)) from by show (match USE S a b with | none => S | some r => match S.wt a b with | [] => S | p :: ps => SWT a b m (DATS (S.sWt a b ps) a b r (p 0) (p 1) (p 2))) = _; rw [hU, hps]]; exact h9)) _ _

set_option maxRecDepth 100000 in
set_option maxHeartbeats 4000000 in
theorem k_X8_sendWaiting (l : Launch) (G : Gx) (P : Nat → Nat) (S : Sx) (μ : Mem) (hC : CRep G P S μ) (a b : Nat) (ha : a < 3) (hb : b < 3) (h4 : (S.wt a b).length ≤ 4) (hoK : okK S a b) : Kon l yX8_sendWaiting cX8_sendWaiting 6 none 10 12 4056 239 G [.ref (P 0), .ref (P (4 + a)), .ref (P (16 + 3 * a + b))] μ (pV fun μ' => CKo G P μ (SWT a b (S.wt a b).length S) μ') noX := by
  refine Kon.ofG (by decide +kernel) (Nat.le_of_ble_eq_true rfl) (Nat.le_of_ble_eq_true rfl) (fun Z hZG C E NT MT => ?_)
  subst hZG
  have C : Cx Z RX8 cX8_sendWaiting 10 12 4056 239 := C
  show HW Z 0 0 0 [some (.ref (P 0)), some (.ref (P (4 + a))), some (.ref (P (16 + 3 * a + b))), none, none, none] [] μ
  obtain ⟨xs, hxs, hLR⟩ := hC.wt a b ha hb
  have hlen := hLR.1
  refine h_al_g C dX8_sendWaiting_0 rfl rfl rfv_r ?_
  refine gs_X8_237 C dX8_sendWaiting_1 (CRep.kL hC (by assumption) (by assumption)) (CRep.f131 hC (by assumption) (by assumption)) ?_
  refine h_callV0 (ci := 0) (a_ := .null) C (k_Jx4a65c_size_8abf5 Z.l Z.G _ xs _ hxs) cw_X8_86 im_Jx4a65c_size_8abf5 sl_Jx4a65c_size_8abf5 rfl (by decide) hxs.1 dX8_sendWaiting_4 (by first | decide | exact Nat.le_of_ble_eq_true rfl) (by decide) (by decide) (by decide) (by decide) (kI fun r1 μ1 hp1 => ?_) kN
  obtain ⟨rfl, rfl⟩ := hp1
  rw [hlen]
  refine h_ist_3 C dX8_sendWaiting_7 ct_r ?_
  exact lp_X8_sendWaiting ha hb C E rfl rfl _ S _ _ _ (CKo.rf hC) rfl hoK (by omega) (by omega) (fun μ' h => ⟨rfl, h⟩) _ _

end
