section
/-- what the model's own walk needs of a state -/
def okW (S : Sx) : Prop := (∀ i j, i < 3 → j < 3 → S.ef 0 i = S.ef 0 j → i = j) ∧ (0 < (HNUM S).toInt ∧ (HNUM S).toInt < 1000000) ∧ (∀ e, e < 3 → S.fl e e = none) ∧ (∀ e b f, e < 3 → b < 3 → S.fl e b = some f → 0 < (f 0).toInt ∧ f 1 = nI (cl (f 1))) ∧ S.ou.length < 512 ∧ (∀ e, e < 3 → ∀ r ∈ S.rt e, okRw r) ∧ (∀ e w, e < 3 → w < 3 → S.ses e e w = none) ∧ (∀ e b b' w w' r r', e < 3 → b < 3 → b' < 3 → w < 3 → w' < 3 → S.ses e b w = some r → S.ses e b' w' = some r' → r.1 0 = r'.1 0 → b = b' ∧ w = w') ∧ (∀ e b w r, e < 3 → b < 3 → w < 3 → S.ses e b w = some r → (r.1 3 = nI (cl (r.1 3)) ∧ cl (r.1 3) < 65521) ∧ (r.1 4 = nI (cl (r.1 4)) ∧ cl (r.1 4) < 65521) ∧ okTk r)
theorem okW.km {S : Sx} (h : okW S) {e b : Nat} (he : e < 3) (hb : b < 3) : okKm S e b := fun r hr => (h.2.2.2.2.2.2.2.2 e b 1 r he hb (by decide) hr).1
/-- what it needs of a letter -/
def okLM (S : Sx) (g : Row) : Prop := (g 2 = 1 ∧ (∃ a b, a < 3 ∧ b < 3 ∧ g 5 = nI (10 * a + b)) ∧ g 4 = nI (cl (g 4))) ∨ (g 2 = 2 ∧ 0 < (g 4).toInt ∧ g 5 = nI (cl (g 5))) ∨ (g 2 = 3 ∧ 0 < (g 3).toInt) ∨ (g 2 = 4 ∧ ∀ e b w r, e < 3 → b < 3 → w < 3 → S.ses e b w = some r → r.1 0 = g 3 → TAGR g = SEALR (cl (r.1 4)) g → okD g)
theorem vOK_GOT {S S9 : Sx} {g : Row} {v : Int32} (h : GOT S g v S9) : vOK v := by
  rcases h with ⟨-, h, -⟩ | ⟨e, he, -, h⟩
  · rw [h]; exact vOK_l.1
  · rcases h with ⟨-, a, b, -, -, -, h, -⟩ | ⟨-, h⟩ | ⟨-, h⟩ | ⟨-, -, -, h⟩
    · rw [h]; exact vOK_TH
    · exact vOK_TR h
    · exact vOK_TC h
    · exact vOK_TD h
set_option maxRecDepth 100000 in
set_option maxHeartbeats 1000000 in
theorem lp_X9_got {Z : Zx} {Post : Option Value → Mem → Prop} {PostX : String → Mem → Prop} {mc ms : Nat} {Q : Nat → Nat} {S : Sx} {t : Int32} {μ : Mem} {z : Nat} {g : Row} (C : Cx Z RX9 cX9_got 5 mc ms 133) (E : Rt Z mc ms (some .int) Post PostX) {k0 n0 : Nat} (hk2 : k0 + 19 ≤ mc) (hn2 : n0 + 687 ≤ ms) (hM : MRq Q S (LXo S t) μ) (hR_z : RowAt μ KLR z 16 g) (hW : okW S) (hLM : okLM S g) (hP : ∀ v m, (∃ S9, GOT S g v S9 ∧ MTo Q WAll μ S9 (LXo S9 t) m) → Post (some (.int v)) m) (x : Int32) (hE : (x = -1 ∧ FWA S (g 1) = none) ∨ ∃ e, e < 3 ∧ x = nI e ∧ FWA S (g 1) = some e) (z3 : Option Value) : HW Z k0 n0 29 [some (.ref (Q 0)), some (.ref z), some (.int x), z3] [] μ := by
  refine h_iload_g C dX9_got_29 rfl rfl ?_
  refine h_iconst (v := (-1)) C dX9_got_30 (by decide) ?_
  refine h_icmp_ne (tgt := 36) C dX9_got_31 (by decide) (fun cI => ?_) (fun cI => ?_)
  · have hne : ∀ {p q : Int32}, g 2 = p → ¬ p = q → ¬ g 2 = q := fun h1 h2 h3 => h2 (h1.symm.trans h3)
    obtain ⟨e, he, rfl, hF⟩ := hE.resolve_left (fun z => cI z.1)
    obtain ⟨w1, w2, w3_, w4, w5, w6, w7, w8, w9⟩ := hW
    refine h_al_g C dX9_got_36 rfl rfl rfv_r ?_
    refine h_iconst (v := 2) C dX9_got_37 (by decide) ?_
    refine h_iald C dX9_got_38 (by rw [hR_z.1]; first | decide | exact KSE_m _ _ _) (inb hR_z.2.1 (vp_in_nI (n := 2) (by decide) (by decide))) (hR_z.2.2 2 (by decide)) ?_
    by_cases hv1 : g 2 = 1
    · refine h_tableIn (off := 25) (tgt := 64) C dX9_got_39 (by rw [hv1]; decide) (by rw [hv1]; decide) (by rw [hv1]; rfl) (by decide) ?_
      obtain ⟨-, ⟨a, b, ha, hb, hw9⟩, hX⟩ := hLM.resolve_right (fun h => h.elim (fun q => hne q.1 (by decide) hv1) (fun h => h.elim (fun q => hne q.1 (by decide) hv1) (fun q => hne q.1 (by decide) hv1)))
      refine h_al_g C dX9_got_64 rfl rfl rfv_r ?_
      refine h_iload_g C dX9_got_65 rfl rfl ?_
      refine h_al_g C dX9_got_66 rfl rfl rfv_r ?_
      refine h_callV2 (ci := 9) C (k_X9_gotHello Z.l Z.G Q S t _ hM e he _ rfl z g hR_z a b ha hb hv1 hw9 hX w2) cw_X9_200 im_X9_gotHello sl_X9_gotHello rfl (by decide) hM.kX dX9_got_67 (by first | decide | exact Nat.le_of_ble_eq_true rfl) (by decide) (by decide) (by omega) (by omega) (kI fun r1 μ1 hp1 => ?_) kN
      obtain ⟨h1_, hT9⟩ := hp1
      subst h1_
      refine h_iret C E dX9_got_70 (by omega) (by omega) ?_
      exact hP _ _ ⟨_, Or.inr ⟨e, he, hF, Or.inl ⟨hv1, a, b, ha, hb, hw9, rfl, rfl⟩⟩, hT9⟩
    by_cases hv2 : g 2 = 2
    · refine h_tableIn (off := 32) (tgt := 71) C dX9_got_39 (by rw [hv2]; decide) (by rw [hv2]; decide) (by rw [hv2]; rfl) (by decide) ?_
      obtain ⟨-, hn, hY⟩ := (hLM.resolve_left (fun q => hv1 q.1)).resolve_right (fun h => h.elim (fun q => hne q.1 (by decide) hv2) (fun q => hne q.1 (by decide) hv2))
      refine h_al_g C dX9_got_71 rfl rfl rfv_r ?_
      refine h_iload_g C dX9_got_72 rfl rfl ?_
      refine h_al_g C dX9_got_73 rfl rfl rfv_r ?_
      refine h_callV2 (ci := 9) C (k_X9_gotReply Z.l Z.G Q S t _ hM e he _ rfl z g hR_z hv2 hn hY (w3_ e he) (fun b f hb hf => (w4 e b f he hb hf).2) (fun b hb => okW.km ⟨w1, w2, w3_, w4, w5, w6, w7, w8, w9⟩ he hb)) cw_X9_203 im_X9_gotReply sl_X9_gotReply rfl (by decide) hM.kX dX9_got_74 (by first | decide | exact Nat.le_of_ble_eq_true rfl) (by decide) (by decide) (by omega) (by omega) (kI fun r2 μ2 hp2 => ?_) kN
      obtain ⟨S9, hG9, hT9⟩ := hp2
      refine h_iret C E dX9_got_77 (by omega) (by omega) ?_
      exact hP _ _ ⟨S9, Or.inr ⟨e, he, hF, Or.inr (Or.inl ⟨hv2, hG9⟩)⟩, hT9⟩
    by_cases hv3 : g 2 = 3
    · refine h_tableIn (off := 39) (tgt := 78) C dX9_got_39 (by rw [hv3]; decide) (by rw [hv3]; decide) (by rw [hv3]; rfl) (by decide) ?_
      obtain ⟨-, hn⟩ := ((hLM.resolve_left (fun q => hv1 q.1)).resolve_left (fun q => hv2 q.1)).resolve_right (fun q => hne q.1 (by decide) hv3)
      refine h_al_g C dX9_got_78 rfl rfl rfv_r ?_
      refine h_iload_g C dX9_got_79 rfl rfl ?_
      refine h_al_g C dX9_got_80 rfl rfl rfv_r ?_
      refine h_callV2 (ci := 9) C (k_X9_gotCookie Z.l Z.G Q S t _ hM e he _ rfl z g hR_z hv3 hn (w3_ e he) (fun b f hb hf => (w4 e b f he hb hf).2)) cw_X9_206 im_X9_gotCookie sl_X9_gotCookie rfl (by decide) hM.kX dX9_got_81 (by first | decide | exact Nat.le_of_ble_eq_true rfl) (by decide) (by decide) (by omega) (by omega) (kI fun r3 μ3 hp3 => ?_) kN
      obtain ⟨S9, hG9, hT9⟩ := hp3
      refine h_iret C E dX9_got_84 (by omega) (by omega) ?_
      exact hP _ _ ⟨S9, Or.inr ⟨e, he, hF, Or.inr (Or.inr (Or.inl ⟨hv3, hG9⟩))⟩, hT9⟩
    refine h_tableOut (tgt := 85) C dX9_got_39 (by have z0 := ne_ti 1 1 (by decide) hv1; have z1 := ne_ti 2 2 (by decide) hv2; have z2 := ne_ti 3 3 (by decide) hv3; omega) (by decide) ?_
    obtain ⟨hk4, hD⟩ := ((hLM.resolve_left (fun q => hv1 q.1)).resolve_left (fun q => hv2 q.1)).resolve_left (fun q => hv3 q.1)
    refine h_al_g C dX9_got_85 rfl rfl rfv_r ?_
    refine h_iload_g C dX9_got_86 rfl rfl ?_
    refine h_al_g C dX9_got_87 rfl rfl rfv_r ?_
    refine h_callV2 (ci := 9) C (k_X9_gotData Z.l Z.G Q S t _ hM e he _ rfl z g hR_z hk4 w5 (w6 e he) (fun w hw => w7 e w he hw) (fun b b' w w' r r' => w8 e b b' w w' r r' he) (fun b w r => w9 e b w r he) (fun b w r => hD e b w r he)) cw_X9_209 im_X9_gotData sl_X9_gotData rfl (by decide) hM.kX dX9_got_88 (by first | decide | exact Nat.le_of_ble_eq_true rfl) (by decide) (by decide) (by omega) (by omega) (kI fun r4 μ4 hp4 => ?_) kN
    obtain ⟨S9, hG9, hT9⟩ := hp4
    refine h_iret C E dX9_got_91 (by omega) (by omega) ?_
    exact hP _ _ ⟨S9, Or.inr ⟨e, he, hF, Or.inr (Or.inr (Or.inr ⟨hv1, hv2, hv3, hG9⟩))⟩, hT9⟩
  · have hF : FWA S (g 1) = none := hE.elim (fun z => z.2) (fun ⟨e, he, h1, h2⟩ => by
      have h3 : (nI e).toInt = -1 := by rw [← h1, cI]; rfl
      rw [nI_toInt (by omega)] at h3
      omega)
    refine h_iconst (v := 0) C dX9_got_34 (by decide) ?_
    refine h_iret C E dX9_got_35 (by omega) (by omega) ?_
    exact hP _ _ ⟨S, Or.inl ⟨hF, rfl, rfl⟩, MTo.rf hM⟩

set_option maxRecDepth 100000 in
set_option maxHeartbeats 1000000 in
theorem k_X9_got (l : Launch) (G : Gx) (Q : Nat → Nat) (S : Sx) (t : Int32) (μ : Mem) (hM : MRq Q S (LXo S t) μ) (z : Nat) (g : Row) (hR_z : RowAt μ KLR z 16 g) (hW : okW S) (hLM : okLM S g) : Kon l yX9_got cX9_got 4 (some .int) 5 19 687 133 G [.ref (Q 0), .ref z] μ (pI fun v μ' => ∃ S9, GOT S g v S9 ∧ MTo Q WAll μ S9 (LXo S9 t) μ') noX := by
  refine Kon.ofG (by decide +kernel) (Nat.le_of_ble_eq_true rfl) (Nat.le_of_ble_eq_true rfl) (fun Z hZG C E NT MT => ?_)
  subst hZG
  have C : Cx Z RX9 cX9_got 5 19 687 133 := C
  show HW Z 0 0 0 [some (.ref (Q 0)), some (.ref z), none, none] [] μ
  refine h_iconst (v := (-1)) C dX9_got_0 (by decide) ?_
  refine h_ist_2 C dX9_got_1 ct_r ?_
  refine h_iconst (v := 0) C dX9_got_2 (by decide) ?_
  refine h_ist_3 C dX9_got_3 ct_i ?_
  refine h_iload_g C dX9_got_4 rfl rfl ?_
  refine h_iconst (v := 3) C dX9_got_5 (by decide) ?_
  refine h_icmp_ge (tgt := 29) C dX9_got_6 (by decide) (fun c1 => absurd c1 (by decide)) (fun c1 => ?_)
  refine h_al_g C dX9_got_9 rfl rfl rfv_r ?_
  refine gs_X9_13 C dX9_got_10 hM.kX (hM.fA (i := 1) (by decide)) ?_
  refine h_iload_g C dX9_got_13 rfl rfl ?_
  refine h_iald C dX9_got_14 (hM.k11 (by decide)) (inb (hM.ln3 (by decide)) (vp_in_nI (n := 0) (by decide) (by decide))) (atI (show Int32.toNatClampNeg 0 = 0 from rfl) (hM.a1 (by decide))) ?_
  refine h_al_g C dX9_got_15 rfl rfl rfv_r ?_
  refine h_iconst (v := 1) C dX9_got_16 (by decide) ?_
  refine h_iald C dX9_got_17 (by rw [hR_z.1]; first | decide | exact KSE_m _ _ _) (inb hR_z.2.1 (vp_in_nI (n := 1) (by decide) (by decide))) (hR_z.2.2 1 (by decide)) ?_
  refine h_icmp_ne (tgt := 23) C dX9_got_18 (by decide) (fun c2 => ?_) (fun c2 => ?_)
  · refine h_iinc_3 (q := 1) C dX9_got_23 (by decide) ct_i ?_
    rw [show (0 + 1 : Int32) = 1 from by decide]
    refine h_goto (tgt := 4) C dX9_got_26 (by decide) ?_
    refine h_iload_g C dX9_got_4 rfl rfl ?_
    refine h_iconst (v := 3) C dX9_got_5 (by decide) ?_
    refine h_icmp_ge (tgt := 29) C dX9_got_6 (by decide) (fun c3 => absurd c3 (by decide)) (fun c3 => ?_)
    refine h_al_g C dX9_got_9 rfl rfl rfv_r ?_
    refine gs_X9_13 C dX9_got_10 hM.kX (hM.fA (i := 1) (by decide)) ?_
    refine h_iload_g C dX9_got_13 rfl rfl ?_
    refine h_iald C dX9_got_14 (hM.k11 (by decide)) (inb (hM.ln3 (by decide)) (vp_in_nI (n := 1) (by decide) (by decide))) (atI (show Int32.toNatClampNeg 1 = 1 from rfl) (hM.a1 (by decide))) ?_
    refine h_al_g C dX9_got_15 rfl rfl rfv_r ?_
    refine h_iconst (v := 1) C dX9_got_16 (by decide) ?_
    refine h_iald C dX9_got_17 (by rw [hR_z.1]; first | decide | exact KSE_m _ _ _) (inb hR_z.2.1 (vp_in_nI (n := 1) (by decide) (by decide))) (hR_z.2.2 1 (by decide)) ?_
    refine h_icmp_ne (tgt := 23) C dX9_got_18 (by decide) (fun c4 => ?_) (fun c4 => ?_)
    · refine h_iinc_3 (q := 1) C dX9_got_23 (by decide) ct_i ?_
      rw [show (1 + 1 : Int32) = 2 from by decide]
      refine h_goto (tgt := 4) C dX9_got_26 (by decide) ?_
      refine h_iload_g C dX9_got_4 rfl rfl ?_
      refine h_iconst (v := 3) C dX9_got_5 (by decide) ?_
      refine h_icmp_ge (tgt := 29) C dX9_got_6 (by decide) (fun c5 => absurd c5 (by decide)) (fun c5 => ?_)
      refine h_al_g C dX9_got_9 rfl rfl rfv_r ?_
      refine gs_X9_13 C dX9_got_10 hM.kX (hM.fA (i := 1) (by decide)) ?_
      refine h_iload_g C dX9_got_13 rfl rfl ?_
      refine h_iald C dX9_got_14 (hM.k11 (by decide)) (inb (hM.ln3 (by decide)) (vp_in_nI (n := 2) (by decide) (by decide))) (atI (show Int32.toNatClampNeg 2 = 2 from rfl) (hM.a1 (by decide))) ?_
      refine h_al_g C dX9_got_15 rfl rfl rfv_r ?_
      refine h_iconst (v := 1) C dX9_got_16 (by decide) ?_
      refine h_iald C dX9_got_17 (by rw [hR_z.1]; first | decide | exact KSE_m _ _ _) (inb hR_z.2.1 (vp_in_nI (n := 1) (by decide) (by decide))) (hR_z.2.2 1 (by decide)) ?_
      refine h_icmp_ne (tgt := 23) C dX9_got_18 (by decide) (fun c6 => ?_) (fun c6 => ?_)
      · refine h_iinc_3 (q := 1) C dX9_got_23 (by decide) ct_i ?_
        rw [show (2 + 1 : Int32) = 3 from by decide]
        refine h_goto (tgt := 4) C dX9_got_26 (by decide) ?_
        refine h_iload_g C dX9_got_4 rfl rfl ?_
        refine h_iconst (v := 3) C dX9_got_5 (by decide) ?_
        refine h_icmp_ge (tgt := 29) C dX9_got_6 (by decide) (fun c7 => ?_) (fun c7 => absurd (by decide) c7)
        refine lp_X9_got C E (by omega) (by omega) hM hR_z hW hLM (fun v m h => ⟨v, rfl, h⟩) _ ?_ _
        first
        | exact absurd (hW.1 0 1 (by decide) (by decide) ((show S.ef 0 0 = g 1 by assumption).trans (show S.ef 0 1 = g 1 by assumption).symm)) (by decide)
        | exact absurd (hW.1 0 2 (by decide) (by decide) ((show S.ef 0 0 = g 1 by assumption).trans (show S.ef 0 2 = g 1 by assumption).symm)) (by decide)
        | exact absurd (hW.1 1 2 (by decide) (by decide) ((show S.ef 0 1 = g 1 by assumption).trans (show S.ef 0 2 = g 1 by assumption).symm)) (by decide)
        | exact Or.inl ⟨rfl, by unfold FWA; rw [if_neg (by assumption), if_neg (by assumption), if_neg (by assumption)]⟩
        | exact Or.inr ⟨0, by decide, rfl, by unfold FWA; rw [if_pos (by assumption)]⟩
        | exact Or.inr ⟨1, by decide, rfl, by unfold FWA; rw [if_neg (by assumption), if_pos (by assumption)]⟩
        | exact Or.inr ⟨2, by decide, rfl, by unfold FWA; rw [if_neg (by assumption), if_neg (by assumption), if_pos (by assumption)]⟩
      · refine h_iload_g C dX9_got_21 rfl rfl ?_
        refine h_ist_2 C dX9_got_22 ct_r ?_
        refine h_iinc_3 (q := 1) C dX9_got_23 (by decide) ct_i ?_
        rw [show (2 + 1 : Int32) = 3 from by decide]
        refine h_goto (tgt := 4) C dX9_got_26 (by decide) ?_
        refine h_iload_g C dX9_got_4 rfl rfl ?_
        refine h_iconst (v := 3) C dX9_got_5 (by decide) ?_
        refine h_icmp_ge (tgt := 29) C dX9_got_6 (by decide) (fun c8 => ?_) (fun c8 => absurd (by decide) c8)
        refine lp_X9_got C E (by omega) (by omega) hM hR_z hW hLM (fun v m h => ⟨v, rfl, h⟩) _ ?_ _
        first
        | exact absurd (hW.1 0 1 (by decide) (by decide) ((show S.ef 0 0 = g 1 by assumption).trans (show S.ef 0 1 = g 1 by assumption).symm)) (by decide)
        | exact absurd (hW.1 0 2 (by decide) (by decide) ((show S.ef 0 0 = g 1 by assumption).trans (show S.ef 0 2 = g 1 by assumption).symm)) (by decide)
        | exact absurd (hW.1 1 2 (by decide) (by decide) ((show S.ef 0 1 = g 1 by assumption).trans (show S.ef 0 2 = g 1 by assumption).symm)) (by decide)
        | exact Or.inl ⟨rfl, by unfold FWA; rw [if_neg (by assumption), if_neg (by assumption), if_neg (by assumption)]⟩
        | exact Or.inr ⟨0, by decide, rfl, by unfold FWA; rw [if_pos (by assumption)]⟩
        | exact Or.inr ⟨1, by decide, rfl, by unfold FWA; rw [if_neg (by assumption), if_pos (by assumption)]⟩
        | exact Or.inr ⟨2, by decide, rfl, by unfold FWA; rw [if_neg (by assumption), if_neg (by assumption), if_pos (by assumption)]⟩
    · refine h_iload_g C dX9_got_21 rfl rfl ?_
      refine h_ist_2 C dX9_got_22 ct_r ?_
      refine h_iinc_3 (q := 1) C dX9_got_23 (by decide) ct_i ?_
      rw [show (1 + 1 : Int32) = 2 from by decide]
      refine h_goto (tgt := 4) C dX9_got_26 (by decide) ?_
      refine h_iload_g C dX9_got_4 rfl rfl ?_
      refine h_iconst (v := 3) C dX9_got_5 (by decide) ?_
      refine h_icmp_ge (tgt := 29) C dX9_got_6 (by decide) (fun c9 => absurd c9 (by decide)) (fun c9 => ?_)
      refine h_al_g C dX9_got_9 rfl rfl rfv_r ?_
      refine gs_X9_13 C dX9_got_10 hM.kX (hM.fA (i := 1) (by decide)) ?_
      refine h_iload_g C dX9_got_13 rfl rfl ?_
      refine h_iald C dX9_got_14 (hM.k11 (by decide)) (inb (hM.ln3 (by decide)) (vp_in_nI (n := 2) (by decide) (by decide))) (atI (show Int32.toNatClampNeg 2 = 2 from rfl) (hM.a1 (by decide))) ?_
      refine h_al_g C dX9_got_15 rfl rfl rfv_r ?_
      refine h_iconst (v := 1) C dX9_got_16 (by decide) ?_
      refine h_iald C dX9_got_17 (by rw [hR_z.1]; first | decide | exact KSE_m _ _ _) (inb hR_z.2.1 (vp_in_nI (n := 1) (by decide) (by decide))) (hR_z.2.2 1 (by decide)) ?_
      refine h_icmp_ne (tgt := 23) C dX9_got_18 (by decide) (fun c10 => ?_) (fun c10 => ?_)
      · refine h_iinc_3 (q := 1) C dX9_got_23 (by decide) ct_i ?_
        rw [show (2 + 1 : Int32) = 3 from by decide]
        refine h_goto (tgt := 4) C dX9_got_26 (by decide) ?_
        refine h_iload_g C dX9_got_4 rfl rfl ?_
        refine h_iconst (v := 3) C dX9_got_5 (by decide) ?_
        refine h_icmp_ge (tgt := 29) C dX9_got_6 (by decide) (fun c11 => ?_) (fun c11 => absurd (by decide) c11)
        refine lp_X9_got C E (by omega) (by omega) hM hR_z hW hLM (fun v m h => ⟨v, rfl, h⟩) _ ?_ _
        first
        | exact absurd (hW.1 0 1 (by decide) (by decide) ((show S.ef 0 0 = g 1 by assumption).trans (show S.ef 0 1 = g 1 by assumption).symm)) (by decide)
        | exact absurd (hW.1 0 2 (by decide) (by decide) ((show S.ef 0 0 = g 1 by assumption).trans (show S.ef 0 2 = g 1 by assumption).symm)) (by decide)
        | exact absurd (hW.1 1 2 (by decide) (by decide) ((show S.ef 0 1 = g 1 by assumption).trans (show S.ef 0 2 = g 1 by assumption).symm)) (by decide)
        | exact Or.inl ⟨rfl, by unfold FWA; rw [if_neg (by assumption), if_neg (by assumption), if_neg (by assumption)]⟩
        | exact Or.inr ⟨0, by decide, rfl, by unfold FWA; rw [if_pos (by assumption)]⟩
        | exact Or.inr ⟨1, by decide, rfl, by unfold FWA; rw [if_neg (by assumption), if_pos (by assumption)]⟩
        | exact Or.inr ⟨2, by decide, rfl, by unfold FWA; rw [if_neg (by assumption), if_neg (by assumption), if_pos (by assumption)]⟩
      · refine h_iload_g C dX9_got_21 rfl rfl ?_
        refine h_ist_2 C dX9_got_22 ct_r ?_
        refine h_iinc_3 (q := 1) C dX9_got_23 (by decide) ct_i ?_
        rw [show (2 + 1 : Int32) = 3 from by decide]
        refine h_goto (tgt := 4) C dX9_got_26 (by decide) ?_
        refine h_iload_g C dX9_got_4 rfl rfl ?_
        refine h_iconst (v := 3) C dX9_got_5 (by decide) ?_
        refine h_icmp_ge (tgt := 29) C dX9_got_6 (by decide) (fun c12 => ?_) (fun c12 => absurd (by decide) c12)
        refine lp_X9_got C E (by omega) (by omega) hM hR_z hW hLM (fun v m h => ⟨v, rfl, h⟩) _ ?_ _
        first
        | exact absurd (hW.1 0 1 (by decide) (by decide) ((show S.ef 0 0 = g 1 by assumption).trans (show S.ef 0 1 = g 1 by assumption).symm)) (by decide)
        | exact absurd (hW.1 0 2 (by decide) (by decide) ((show S.ef 0 0 = g 1 by assumption).trans (show S.ef 0 2 = g 1 by assumption).symm)) (by decide)
        | exact absurd (hW.1 1 2 (by decide) (by decide) ((show S.ef 0 1 = g 1 by assumption).trans (show S.ef 0 2 = g 1 by assumption).symm)) (by decide)
        | exact Or.inl ⟨rfl, by unfold FWA; rw [if_neg (by assumption), if_neg (by assumption), if_neg (by assumption)]⟩
        | exact Or.inr ⟨0, by decide, rfl, by unfold FWA; rw [if_pos (by assumption)]⟩
        | exact Or.inr ⟨1, by decide, rfl, by unfold FWA; rw [if_neg (by assumption), if_pos (by assumption)]⟩
        | exact Or.inr ⟨2, by decide, rfl, by unfold FWA; rw [if_neg (by assumption), if_neg (by assumption), if_pos (by assumption)]⟩
  · refine h_iload_g C dX9_got_21 rfl rfl ?_
    refine h_ist_2 C dX9_got_22 ct_r ?_
    refine h_iinc_3 (q := 1) C dX9_got_23 (by decide) ct_i ?_
    rw [show (0 + 1 : Int32) = 1 from by decide]
    refine h_goto (tgt := 4) C dX9_got_26 (by decide) ?_
    refine h_iload_g C dX9_got_4 rfl rfl ?_
    refine h_iconst (v := 3) C dX9_got_5 (by decide) ?_
    refine h_icmp_ge (tgt := 29) C dX9_got_6 (by decide) (fun c13 => absurd c13 (by decide)) (fun c13 => ?_)
    refine h_al_g C dX9_got_9 rfl rfl rfv_r ?_
    refine gs_X9_13 C dX9_got_10 hM.kX (hM.fA (i := 1) (by decide)) ?_
    refine h_iload_g C dX9_got_13 rfl rfl ?_
    refine h_iald C dX9_got_14 (hM.k11 (by decide)) (inb (hM.ln3 (by decide)) (vp_in_nI (n := 1) (by decide) (by decide))) (atI (show Int32.toNatClampNeg 1 = 1 from rfl) (hM.a1 (by decide))) ?_
    refine h_al_g C dX9_got_15 rfl rfl rfv_r ?_
    refine h_iconst (v := 1) C dX9_got_16 (by decide) ?_
    refine h_iald C dX9_got_17 (by rw [hR_z.1]; first | decide | exact KSE_m _ _ _) (inb hR_z.2.1 (vp_in_nI (n := 1) (by decide) (by decide))) (hR_z.2.2 1 (by decide)) ?_
    refine h_icmp_ne (tgt := 23) C dX9_got_18 (by decide) (fun c14 => ?_) (fun c14 => ?_)
    · refine h_iinc_3 (q := 1) C dX9_got_23 (by decide) ct_i ?_
      rw [show (1 + 1 : Int32) = 2 from by decide]
      refine h_goto (tgt := 4) C dX9_got_26 (by decide) ?_
      refine h_iload_g C dX9_got_4 rfl rfl ?_
      refine h_iconst (v := 3) C dX9_got_5 (by decide) ?_
      refine h_icmp_ge (tgt := 29) C dX9_got_6 (by decide) (fun c15 => absurd c15 (by decide)) (fun c15 => ?_)
      refine h_al_g C dX9_got_9 rfl rfl rfv_r ?_
      refine gs_X9_13 C dX9_got_10 hM.kX (hM.fA (i := 1) (by decide)) ?_
      refine h_iload_g C dX9_got_13 rfl rfl ?_
      refine h_iald C dX9_got_14 (hM.k11 (by decide)) (inb (hM.ln3 (by decide)) (vp_in_nI (n := 2) (by decide) (by decide))) (atI (show Int32.toNatClampNeg 2 = 2 from rfl) (hM.a1 (by decide))) ?_
      refine h_al_g C dX9_got_15 rfl rfl rfv_r ?_
      refine h_iconst (v := 1) C dX9_got_16 (by decide) ?_
      refine h_iald C dX9_got_17 (by rw [hR_z.1]; first | decide | exact KSE_m _ _ _) (inb hR_z.2.1 (vp_in_nI (n := 1) (by decide) (by decide))) (hR_z.2.2 1 (by decide)) ?_
      refine h_icmp_ne (tgt := 23) C dX9_got_18 (by decide) (fun c16 => ?_) (fun c16 => ?_)
      · refine h_iinc_3 (q := 1) C dX9_got_23 (by decide) ct_i ?_
        rw [show (2 + 1 : Int32) = 3 from by decide]
        refine h_goto (tgt := 4) C dX9_got_26 (by decide) ?_
        refine h_iload_g C dX9_got_4 rfl rfl ?_
        refine h_iconst (v := 3) C dX9_got_5 (by decide) ?_
        refine h_icmp_ge (tgt := 29) C dX9_got_6 (by decide) (fun c17 => ?_) (fun c17 => absurd (by decide) c17)
        refine lp_X9_got C E (by omega) (by omega) hM hR_z hW hLM (fun v m h => ⟨v, rfl, h⟩) _ ?_ _
        first
        | exact absurd (hW.1 0 1 (by decide) (by decide) ((show S.ef 0 0 = g 1 by assumption).trans (show S.ef 0 1 = g 1 by assumption).symm)) (by decide)
        | exact absurd (hW.1 0 2 (by decide) (by decide) ((show S.ef 0 0 = g 1 by assumption).trans (show S.ef 0 2 = g 1 by assumption).symm)) (by decide)
        | exact absurd (hW.1 1 2 (by decide) (by decide) ((show S.ef 0 1 = g 1 by assumption).trans (show S.ef 0 2 = g 1 by assumption).symm)) (by decide)
        | exact Or.inl ⟨rfl, by unfold FWA; rw [if_neg (by assumption), if_neg (by assumption), if_neg (by assumption)]⟩
        | exact Or.inr ⟨0, by decide, rfl, by unfold FWA; rw [if_pos (by assumption)]⟩
        | exact Or.inr ⟨1, by decide, rfl, by unfold FWA; rw [if_neg (by assumption), if_pos (by assumption)]⟩
        | exact Or.inr ⟨2, by decide, rfl, by unfold FWA; rw [if_neg (by assumption), if_neg (by assumption), if_pos (by assumption)]⟩
      · refine h_iload_g C dX9_got_21 rfl rfl ?_
        refine h_ist_2 C dX9_got_22 ct_r ?_
        refine h_iinc_3 (q := 1) C dX9_got_23 (by decide) ct_i ?_
        rw [show (2 + 1 : Int32) = 3 from by decide]
        refine h_goto (tgt := 4) C dX9_got_26 (by decide) ?_
        refine h_iload_g C dX9_got_4 rfl rfl ?_
        refine h_iconst (v := 3) C dX9_got_5 (by decide) ?_
        refine h_icmp_ge (tgt := 29) C dX9_got_6 (by decide) (fun c18 => ?_) (fun c18 => absurd (by decide) c18)
        refine lp_X9_got C E (by omega) (by omega) hM hR_z hW hLM (fun v m h => ⟨v, rfl, h⟩) _ ?_ _
        first
        | exact absurd (hW.1 0 1 (by decide) (by decide) ((show S.ef 0 0 = g 1 by assumption).trans (show S.ef 0 1 = g 1 by assumption).symm)) (by decide)
        | exact absurd (hW.1 0 2 (by decide) (by decide) ((show S.ef 0 0 = g 1 by assumption).trans (show S.ef 0 2 = g 1 by assumption).symm)) (by decide)
        | exact absurd (hW.1 1 2 (by decide) (by decide) ((show S.ef 0 1 = g 1 by assumption).trans (show S.ef 0 2 = g 1 by assumption).symm)) (by decide)
        | exact Or.inl ⟨rfl, by unfold FWA; rw [if_neg (by assumption), if_neg (by assumption), if_neg (by assumption)]⟩
        | exact Or.inr ⟨0, by decide, rfl, by unfold FWA; rw [if_pos (by assumption)]⟩
        | exact Or.inr ⟨1, by decide, rfl, by unfold FWA; rw [if_neg (by assumption), if_pos (by assumption)]⟩
        | exact Or.inr ⟨2, by decide, rfl, by unfold FWA; rw [if_neg (by assumption), if_neg (by assumption), if_pos (by assumption)]⟩
    · refine h_iload_g C dX9_got_21 rfl rfl ?_
      refine h_ist_2 C dX9_got_22 ct_r ?_
      refine h_iinc_3 (q := 1) C dX9_got_23 (by decide) ct_i ?_
      rw [show (1 + 1 : Int32) = 2 from by decide]
      refine h_goto (tgt := 4) C dX9_got_26 (by decide) ?_
      refine h_iload_g C dX9_got_4 rfl rfl ?_
      refine h_iconst (v := 3) C dX9_got_5 (by decide) ?_
      refine h_icmp_ge (tgt := 29) C dX9_got_6 (by decide) (fun c19 => absurd c19 (by decide)) (fun c19 => ?_)
      refine h_al_g C dX9_got_9 rfl rfl rfv_r ?_
      refine gs_X9_13 C dX9_got_10 hM.kX (hM.fA (i := 1) (by decide)) ?_
      refine h_iload_g C dX9_got_13 rfl rfl ?_
      refine h_iald C dX9_got_14 (hM.k11 (by decide)) (inb (hM.ln3 (by decide)) (vp_in_nI (n := 2) (by decide) (by decide))) (atI (show Int32.toNatClampNeg 2 = 2 from rfl) (hM.a1 (by decide))) ?_
      refine h_al_g C dX9_got_15 rfl rfl rfv_r ?_
      refine h_iconst (v := 1) C dX9_got_16 (by decide) ?_
      refine h_iald C dX9_got_17 (by rw [hR_z.1]; first | decide | exact KSE_m _ _ _) (inb hR_z.2.1 (vp_in_nI (n := 1) (by decide) (by decide))) (hR_z.2.2 1 (by decide)) ?_
      refine h_icmp_ne (tgt := 23) C dX9_got_18 (by decide) (fun c20 => ?_) (fun c20 => ?_)
      · refine h_iinc_3 (q := 1) C dX9_got_23 (by decide) ct_i ?_
        rw [show (2 + 1 : Int32) = 3 from by decide]
        refine h_goto (tgt := 4) C dX9_got_26 (by decide) ?_
        refine h_iload_g C dX9_got_4 rfl rfl ?_
        refine h_iconst (v := 3) C dX9_got_5 (by decide) ?_
        refine h_icmp_ge (tgt := 29) C dX9_got_6 (by decide) (fun c21 => ?_) (fun c21 => absurd (by decide) c21)
        refine lp_X9_got C E (by omega) (by omega) hM hR_z hW hLM (fun v m h => ⟨v, rfl, h⟩) _ ?_ _
        first
        | exact absurd (hW.1 0 1 (by decide) (by decide) ((show S.ef 0 0 = g 1 by assumption).trans (show S.ef 0 1 = g 1 by assumption).symm)) (by decide)
        | exact absurd (hW.1 0 2 (by decide) (by decide) ((show S.ef 0 0 = g 1 by assumption).trans (show S.ef 0 2 = g 1 by assumption).symm)) (by decide)
        | exact absurd (hW.1 1 2 (by decide) (by decide) ((show S.ef 0 1 = g 1 by assumption).trans (show S.ef 0 2 = g 1 by assumption).symm)) (by decide)
        | exact Or.inl ⟨rfl, by unfold FWA; rw [if_neg (by assumption), if_neg (by assumption), if_neg (by assumption)]⟩
        | exact Or.inr ⟨0, by decide, rfl, by unfold FWA; rw [if_pos (by assumption)]⟩
        | exact Or.inr ⟨1, by decide, rfl, by unfold FWA; rw [if_neg (by assumption), if_pos (by assumption)]⟩
        | exact Or.inr ⟨2, by decide, rfl, by unfold FWA; rw [if_neg (by assumption), if_neg (by assumption), if_pos (by assumption)]⟩
      · refine h_iload_g C dX9_got_21 rfl rfl ?_
        refine h_ist_2 C dX9_got_22 ct_r ?_
        refine h_iinc_3 (q := 1) C dX9_got_23 (by decide) ct_i ?_
        rw [show (2 + 1 : Int32) = 3 from by decide]
        refine h_goto (tgt := 4) C dX9_got_26 (by decide) ?_
        refine h_iload_g C dX9_got_4 rfl rfl ?_
        refine h_iconst (v := 3) C dX9_got_5 (by decide) ?_
        refine h_icmp_ge (tgt := 29) C dX9_got_6 (by decide) (fun c22 => ?_) (fun c22 => absurd (by decide) c22)
        refine lp_X9_got C E (by omega) (by omega) hM hR_z hW hLM (fun v m h => ⟨v, rfl, h⟩) _ ?_ _
        first
        | exact absurd (hW.1 0 1 (by decide) (by decide) ((show S.ef 0 0 = g 1 by assumption).trans (show S.ef 0 1 = g 1 by assumption).symm)) (by decide)
        | exact absurd (hW.1 0 2 (by decide) (by decide) ((show S.ef 0 0 = g 1 by assumption).trans (show S.ef 0 2 = g 1 by assumption).symm)) (by decide)
        | exact absurd (hW.1 1 2 (by decide) (by decide) ((show S.ef 0 1 = g 1 by assumption).trans (show S.ef 0 2 = g 1 by assumption).symm)) (by decide)
        | exact Or.inl ⟨rfl, by unfold FWA; rw [if_neg (by assumption), if_neg (by assumption), if_neg (by assumption)]⟩
        | exact Or.inr ⟨0, by decide, rfl, by unfold FWA; rw [if_pos (by assumption)]⟩
        | exact Or.inr ⟨1, by decide, rfl, by unfold FWA; rw [if_neg (by assumption), if_pos (by assumption)]⟩
        | exact Or.inr ⟨2, by decide, rfl, by unfold FWA; rw [if_neg (by assumption), if_neg (by assumption), if_pos (by assumption)]⟩

theorem okW_nt {S : Sx} {l : List Row} (h : okW S) : okW (S.sNt l) := h
theorem okLM_nt {S : Sx} {l : List Row} {g : Row} (h : okLM S g) : okLM (S.sNt l) g := h
theorem p7e {v : Int32} : v + 7 = v - (-7) := by rw [Int32.sub_eq_add_neg]; rfl
set_option maxRecDepth 100000 in
set_option maxHeartbeats 1000000 in
theorem k_X9_deliver (l : Launch) (G : Gx) (Q : Nat → Nat) (S : Sx) (t : Int32) (μ : Mem) (hM : MRq Q S (LXo S t) μ) (x : Int32) (hW : okW S) (hLM : ∀ g ∈ S.nt, okLM S g) : Kon l yX9_deliver cX9_deliver 4 (some .int) 6 19 687 156 G [.ref (Q 0), .int x] μ (pI fun v μ' => (letC S x = 0 ∧ ∃ S9, GOT (S.sNt (S.nt.eraseIdx (cl x))) (LTR S (cl x)) v S9 ∧ MTo Q WAll μ (DLF S9 v) (LXo (DLF S9 v) 0) μ') ∨ (¬ letC S x = 0 ∧ MTo Q WAll μ S (LXo S (letC S x)) μ')) noX := by
  refine Kon.ofG (by decide +kernel) (Nat.le_of_ble_eq_true rfl) (Nat.le_of_ble_eq_true rfl) (fun Z hZG C E NT MT => ?_)
  subst hZG
  have C : Cx Z RX9 cX9_deliver 6 19 687 156 := C
  show HW Z 0 0 0 [some (.ref (Q 0)), some (.int x), none, none] [] μ
  have hT : MTo Q WAll μ S (LXo S t) μ := MTo.rf hM
  have h60_ := hM.nt.1
  refine h_al_g C dX9_deliver_0 rfl rfl rfv_r ?_
  refine h_al_g C dX9_deliver_1 rfl rfl rfv_r ?_
  refine h_iload_g C dX9_deliver_2 rfl rfl ?_
  refine h_callV1 (ci := 9) C (k_X9_isLetter Z.l Z.G (Q 0) _ hM.kX S.nt.length hM.f312 h60_ _) cw_X9_241 im_X9_isLetter sl_X9_isLetter rfl (by decide) hM.kX dX9_deliver_3 (by first | decide | exact Nat.le_of_ble_eq_true rfl) (by decide) (by decide) (by decide) (by decide) (kB (fun μ1 hp1 => ?_) (fun μ1 hp1 => ?_)) kN
  · obtain ⟨rfl, hL⟩ := hp1
    refine h_if_eq (tgt := 13) C dX9_deliver_6 (by decide) (fun c1 => absurd c1 (by decide)) (fun c1 => ?_)
    refine h_iconst (v := 0) C dX9_deliver_9 (by decide) ?_
    refine h_goto (tgt := 14) C dX9_deliver_10 (by decide) ?_
    refine h_callV1 (ci := 9) C (k_X9_isWrong Z.l Z.G (Q 0) _ hM.kX (0)) cw_X9_215 im_X9_isWrong sl_X9_isWrong rfl (by decide) hM.kX dX9_deliver_14 (by first | decide | exact Nat.le_of_ble_eq_true rfl) (by decide) (by decide) (by decide) (by decide) (kB (fun μ2 hp2 => ?_) (fun μ2 hp2 => ?_)) kN
    · obtain ⟨hc, e9⟩ := hp2
      exact absurd rfl hc
    · obtain ⟨hc, e9⟩ := hp2
      have hT := hT.sfi (Or.inr trivial) e9 (hT.1.w290 e9)
      have hM := hT.1
      refine h_if_eq (tgt := 22) C dX9_deliver_17 (by decide) (fun c2 => ?_) (fun c2 => absurd (by decide) c2)
      refine h_al_g C dX9_deliver_22 rfl rfl rfv_r ?_
      refine gs_X9_80 C dX9_deliver_23 hM.kX (hM.fA (i := 20) (by decide)) ?_
      refine h_iload_g C dX9_deliver_26 rfl rfl ?_
      obtain ⟨z, y1, hR_z⟩ := hM.row (List.getElem?_eq_getElem (show cl x < S.nt.length by have := cl_eq hL.1; have := hL.2; omega))
      have eL : LTR S (cl x) = S.nt[cl x]'(by have := cl_eq hL.1; have := hL.2; omega) := LTR_eq (List.getElem?_eq_getElem _)
      rw [← eL] at hR_z
      have hlm := hLM _ (List.getElem_mem (show cl x < S.nt.length by have := cl_eq hL.1; have := hL.2; omega))
      rw [← eL] at hlm
      refine h_aald (r := some _) C dX9_deliver_27 (hM.kr (by decide)) (inb hM.ln60 (vp_isE hL.1 (by have := hL.2; omega) (by decide))) y1 ?_
      refine h_ast_2 C dX9_deliver_28 ct_i rfv_r ?_
      refine h_al_g C dX9_deliver_29 rfl rfl rfv_r ?_
      refine h_iload_g C dX9_deliver_30 rfl rfl ?_
      refine h_callV1 (ci := 9) C (k_X9_take Z.l Z.G Q S _ _ hM (cl x) (by have := cl_eq hL.1; have := hL.2; omega) x (cl_nI hL.1)) cw_X9_244 im_X9_take sl_X9_take rfl (by decide) hM.kX dX9_deliver_31 (by first | decide | exact Nat.le_of_ble_eq_true rfl) (by decide) (by decide) (by decide) (by decide) (kV fun μ3 hp3 => ?_) kN
      obtain ⟨hTk, her⟩ := hp3
      have hR_z := hR_z.same (hTk.2.2 z (by rw [hR_z.1]; decide) (fun h => by
        rw [hR_z.1] at h
        exact h.elim (fun e => KM_hi (j := 0) (k := KLR) (by decide) (by decide) e.symm) (fun e => KM_hi (j := 20) (k := KLR) (by decide) (by decide) e.symm)))
      have hT := hT.tr hTk (fun _ _ => trivial)
      have hM := hT.1
      refine h_al_g C dX9_deliver_34 rfl rfl rfv_r ?_
      refine h_al_g C dX9_deliver_35 rfl rfl rfv_r ?_
      refine h_callV1 (ci := 9) C (k_X9_got Z.l Z.G Q _ 0 _ hM z (LTR S (cl x)) hR_z hW hlm) cw_X9_248 im_X9_got sl_X9_got rfl (by decide) hM.kX dX9_deliver_36 (by first | decide | exact Nat.le_of_ble_eq_true rfl) (by decide) (by decide) (by decide) (by decide) (kI fun v μ4 hp4 => ?_) kN
      obtain ⟨S9, hGo, hG9⟩ := hp4
      have hT := hT.tr hG9 (fun _ _ => trivial)
      have hM := hT.1
      have hvr := vOK_GOT hGo
      have h7 := p7 hvr
      have e7 := p7e (v := v)
      have hc11 : cl (v - (-7)) < 11 := by have := cl_eq h7.1; have := h7.2; omega
      refine h_ist_3 C dX9_deliver_39 ct_r ?_
      refine h_al_g C dX9_deliver_40 rfl rfl rfv_r ?_
      refine gs_X9_23 C dX9_deliver_41 hM.kX (hM.fA (i := 4) (by decide)) ?_
      refine h_iload_g C dX9_deliver_44 rfl rfl ?_
      refine h_bipush (v := 7) C dX9_deliver_45 (by decide) ?_
      refine h_iadd C dX9_deliver_47 ?_
      rw [e7]
      refine h_dup2 C dX9_deliver_48 rfl rfl ?_
      refine h_iald C dX9_deliver_49 (hM.k11 (by decide)) (inb hM.ln11 (vp_isE h7.1 h7.2 (by decide))) (hM.a4 hc11) ?_
      refine h_iconst (v := 1) C dX9_deliver_50 (by decide) ?_
      refine h_iadd C dX9_deliver_51 ?_
      refine h_iast C dX9_deliver_52 (hM.k11 (by decide)) (inb hM.ln11 (vp_isE h7.1 h7.2 (by decide))) ?_
      refine h_abs (fun m8 e8 => ?_)
      have hT := hT.sei (j := 4) (by decide) (Or.inr trivial) e8 (hT.1.wCd hc11 _ e8)
      have hM := hT.1
      refine h_al_g C dX9_deliver_53 rfl rfl rfv_r ?_
      refine h_dup C dX9_deliver_54 rfl ?_
      refine gf_X9_251 C dX9_deliver_55 hM.kX hM.f291 ?_
      refine h_iconst (v := 1) C dX9_deliver_58 (by decide) ?_
      refine h_iadd C dX9_deliver_59 ?_
      refine pf_X9_251 C dX9_deliver_60 hM.kX ?_
      refine h_abs (fun m1 em1 => ?_)
      have hT := hT.sfi (Or.inr trivial) em1 (hT.1.w291 em1)
      have hM := hT.1
      refine h_iload_g C dX9_deliver_63 rfl rfl ?_
      refine h_iret C E dX9_deliver_64 (by decide) (by decide) ?_
      exact ⟨_, rfl, Or.inl ⟨if_pos hL, S9, hGo, hT⟩⟩
  · obtain ⟨rfl, hL⟩ := hp1
    refine h_if_eq (tgt := 13) C dX9_deliver_6 (by decide) (fun c3 => ?_) (fun c3 => absurd (by decide) c3)
    refine h_iconst (v := 1) C dX9_deliver_13 (by decide) ?_
    refine h_callV1 (ci := 9) C (k_X9_isWrong Z.l Z.G (Q 0) _ hM.kX (1)) cw_X9_215 im_X9_isWrong sl_X9_isWrong rfl (by decide) hM.kX dX9_deliver_14 (by first | decide | exact Nat.le_of_ble_eq_true rfl) (by decide) (by decide) (by decide) (by decide) (kB (fun μ5 hp5 => ?_) (fun μ5 hp5 => ?_)) kN
    · obtain ⟨hc, e9⟩ := hp5
      have hT := hT.sfi (Or.inr trivial) e9 (hT.1.w290 e9)
      have hM := hT.1
      refine h_if_eq (tgt := 22) C dX9_deliver_17 (by decide) (fun c4 => absurd c4 (by decide)) (fun c4 => ?_)
      refine h_iconst (v := 0) C dX9_deliver_20 (by decide) ?_
      refine h_iret C E dX9_deliver_21 (by decide) (by decide) ?_
      exact ⟨_, rfl, Or.inr ⟨by rw [show letC S x = 1 from if_neg hL]; decide, by rw [show letC S x = 1 from if_neg hL]; exact hT⟩⟩
    · obtain ⟨hc, e9⟩ := hp5
      exact absurd hc (by decide)

set_option maxRecDepth 100000 in
set_option maxHeartbeats 1000000 in
theorem k_X9_lose (l : Launch) (G : Gx) (Q : Nat → Nat) (S : Sx) (t : Int32) (μ : Mem) (hM : MRq Q S (LXo S t) μ) (x : Int32) : Kon l yX9_lose cX9_lose 2 (some .int) 2 0 0 46 G [.ref (Q 0), .int x] μ (pI fun v μ' => (letC S x = 0 ∧ v = nI (S.nt.eraseIdx (cl x)).length ∧ MTo Q WAll μ (S.sNt (S.nt.eraseIdx (cl x))) (LXo (S.sNt (S.nt.eraseIdx (cl x))) 0) μ') ∨ (¬ letC S x = 0 ∧ MTo Q WAll μ S (LXo S (letC S x)) μ')) noX := by
  refine Kon.ofG (by decide +kernel) (Nat.le_of_ble_eq_true rfl) (Nat.le_of_ble_eq_true rfl) (fun Z hZG C E NT MT => ?_)
  subst hZG
  have C : Cx Z RX9 cX9_lose 2 0 0 46 := C
  show HW Z 0 0 0 [some (.ref (Q 0)), some (.int x)] [] μ
  have hT : MTo Q WAll μ S (LXo S t) μ := MTo.rf hM
  have h60_ := hM.nt.1
  refine h_al_g C dX9_lose_0 rfl rfl rfv_r ?_
  refine h_al_g C dX9_lose_1 rfl rfl rfv_r ?_
  refine h_iload_g C dX9_lose_2 rfl rfl ?_
  refine h_callV1 (ci := 9) C (k_X9_isLetter Z.l Z.G (Q 0) _ hM.kX S.nt.length hM.f312 h60_ _) cw_X9_241 im_X9_isLetter sl_X9_isLetter rfl (by decide) hM.kX dX9_lose_3 (by first | decide | exact Nat.le_of_ble_eq_true rfl) (by decide) (by decide) (by decide) (by decide) (kB (fun μ1 hp1 => ?_) (fun μ1 hp1 => ?_)) kN
  · obtain ⟨rfl, hL⟩ := hp1
    refine h_if_eq (tgt := 13) C dX9_lose_6 (by decide) (fun c1 => absurd c1 (by decide)) (fun c1 => ?_)
    refine h_iconst (v := 0) C dX9_lose_9 (by decide) ?_
    refine h_goto (tgt := 14) C dX9_lose_10 (by decide) ?_
    refine h_callV1 (ci := 9) C (k_X9_isWrong Z.l Z.G (Q 0) _ hM.kX (0)) cw_X9_215 im_X9_isWrong sl_X9_isWrong rfl (by decide) hM.kX dX9_lose_14 (by first | decide | exact Nat.le_of_ble_eq_true rfl) (by decide) (by decide) (by decide) (by decide) (kB (fun μ2 hp2 => ?_) (fun μ2 hp2 => ?_)) kN
    · obtain ⟨hc, e9⟩ := hp2
      exact absurd rfl hc
    · obtain ⟨hc, e9⟩ := hp2
      have hT := hT.sfi (Or.inr trivial) e9 (hT.1.w290 e9)
      have hM := hT.1
      refine h_if_eq (tgt := 22) C dX9_lose_17 (by decide) (fun c2 => ?_) (fun c2 => absurd (by decide) c2)
      refine h_al_g C dX9_lose_22 rfl rfl rfv_r ?_
      refine h_iload_g C dX9_lose_23 rfl rfl ?_
      refine h_callV1 (ci := 9) C (k_X9_take Z.l Z.G Q S _ _ hM (cl x) (by have := cl_eq hL.1; have := hL.2; omega) x (cl_nI hL.1)) cw_X9_244 im_X9_take sl_X9_take rfl (by decide) hM.kX dX9_lose_24 (by first | decide | exact Nat.le_of_ble_eq_true rfl) (by decide) (by decide) (by decide) (by decide) (kV fun μ3 hp3 => ?_) kN
      obtain ⟨hTk, her⟩ := hp3
      have hT := hT.tr hTk (fun _ _ => trivial)
      have hM := hT.1
      refine h_al_g C dX9_lose_27 rfl rfl rfv_r ?_
      refine gf_X9_95 C dX9_lose_28 hM.kX hM.f312 ?_
      refine h_iret C E dX9_lose_31 (by decide) (by decide) ?_
      exact ⟨_, rfl, Or.inl ⟨if_pos hL, rfl, hT⟩⟩
  · obtain ⟨rfl, hL⟩ := hp1
    refine h_if_eq (tgt := 13) C dX9_lose_6 (by decide) (fun c3 => ?_) (fun c3 => absurd (by decide) c3)
    refine h_iconst (v := 1) C dX9_lose_13 (by decide) ?_
    refine h_callV1 (ci := 9) C (k_X9_isWrong Z.l Z.G (Q 0) _ hM.kX (1)) cw_X9_215 im_X9_isWrong sl_X9_isWrong rfl (by decide) hM.kX dX9_lose_14 (by first | decide | exact Nat.le_of_ble_eq_true rfl) (by decide) (by decide) (by decide) (by decide) (kB (fun μ4 hp4 => ?_) (fun μ4 hp4 => ?_)) kN
    · obtain ⟨hc, e9⟩ := hp4
      have hT := hT.sfi (Or.inr trivial) e9 (hT.1.w290 e9)
      have hM := hT.1
      refine h_if_eq (tgt := 22) C dX9_lose_17 (by decide) (fun c4 => absurd c4 (by decide)) (fun c4 => ?_)
      refine h_iconst (v := 0) C dX9_lose_20 (by decide) ?_
      refine h_iret C E dX9_lose_21 (by decide) (by decide) ?_
      exact ⟨_, rfl, Or.inr ⟨by rw [show letC S x = 1 from if_neg hL]; decide, by rw [show letC S x = 1 from if_neg hL]; exact hT⟩⟩
    · obtain ⟨hc, e9⟩ := hp4
      exact absurd hc (by decide)

end
