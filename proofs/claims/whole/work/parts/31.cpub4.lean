section
set_option maxRecDepth 100000 in
set_option maxHeartbeats 4000000 in
theorem k_X8_allow (l : Launch) (G : Gx) (P : Nat → Nat) (S : Sx) (μ : Mem) (hC : CRep G P S μ) (x y p b : Int32) : Kon l yX8_allow cX8_allow 8 (some .int) 8 7 1033 191 G [.ref (P 0), .int x, .int y, .int p, .int b] μ (pI fun v μ' => allC S x y p b = 0 ∧ CTo G P μ (S.sRt (cl x) (ALR (S.rt (cl x)) (TOPB p b) b y)) μ' ∧ v = nI (ALR (S.rt (cl x)) (TOPB p b) b y).length) (PX3 xIOB xIAE xISE (allC S x y p b) μ) := by
  refine Kon.ofG (by decide +kernel) (Nat.le_of_ble_eq_true rfl) (Nat.le_of_ble_eq_true rfl) (fun Z hZG C E NT MT => ?_)
  subst hZG
  have C : Cx Z RX8 cX8_allow 8 7 1033 191 := C
  show HW Z 0 0 0 [some (.ref (P 0)), some (.int x), some (.int y), some (.int p), some (.int b), none, none, none] [] μ
  refine h_al_g C dX8_allow_0 rfl rfl rfv_r ?_
  refine h_iload_g C dX8_allow_1 rfl rfl ?_
  refine h_callV1 (ci := 8) C (k_X8_endAt Z.l Z.G P S _ hC x) cw_X8_52 im_X8_endAt sl_X8_endAt rfl (by decide) (CRep.kX hC) dX8_allow_2 (by first | decide | exact Nat.le_of_ble_eq_true rfl) (by decide) (by decide) (by decide) (by decide) (kA fun r1 μ1 hp1 => ?_) (fun X9 μ9 hx9 => ?_)
  · obtain ⟨rfl, hx, rfl⟩ := hp1
    have he := hx.lt
    refine h_ast_5 C dX8_allow_5 ct_i rfv_r ?_
    refine h_al_g C dX8_allow_7 rfl rfl rfv_r ?_
    refine h_iload_g C dX8_allow_8 rfl rfl ?_
    refine h_iload_g C dX8_allow_9 rfl rfl ?_
    refine h_callV2 (ci := 8) C (k_X8_linkAt Z.l Z.G P S _ hC x y) cw_X8_72 im_X8_linkAt sl_X8_linkAt rfl (by decide) (CRep.kX hC) dX8_allow_10 (by first | decide | exact Nat.le_of_ble_eq_true rfl) (by decide) (by decide) (by decide) (by decide) (kA fun r2 μ2 hp2 => ?_) (fun X9 μ9 hx9 => ?_)
    · obtain ⟨rfl, _, hy, hxy, _⟩ := hp2
      refine h_pop C dX8_allow_13 rfl ?_
      refine h_iload_g C dX8_allow_14 rfl rfl ?_
      refine h_iconst (v := 0) C dX8_allow_15 (by decide) ?_
      refine h_sipush (v := 255) C dX8_allow_16 (by decide) ?_
      refine h_callS3 C (k_X8_checkRange Z.l Z.G (p) (0) (255) _) cw_X8_56 st_X8_checkRange dX8_allow_19 (by first | decide | exact Nat.le_of_ble_eq_true rfl) (by decide) (by decide) (by decide) (by decide) (kV fun μ3 hp3 => ?_) (fun X9 μ9 hx9 => ?_)
      · obtain ⟨rfl, h1⟩ := hp3
        refine h_iload_w C dX8_allow_22 rfl ?_
        refine h_iconst (v := 0) C dX8_allow_24 (by decide) ?_
        refine h_bipush (v := 8) C dX8_allow_25 (by decide) ?_
        refine h_callS3 C (k_X8_checkRange Z.l Z.G (b) (0) (8) _) cw_X8_56 st_X8_checkRange dX8_allow_27 (by first | decide | exact Nat.le_of_ble_eq_true rfl) (by decide) (by decide) (by decide) (by decide) (kV fun μ4 hp4 => ?_) (fun X9 μ9 hx9 => ?_)
        · obtain ⟨rfl, h2⟩ := hp4
          refine h_iload_g C dX8_allow_30 rfl rfl ?_
          refine h_iload_w C dX8_allow_31 rfl ?_
          refine h_callS2 C (k_X8_topBits Z.l Z.G _ _ _) cw_X8_76 st_X8_topBits dX8_allow_33 (by first | decide | exact Nat.le_of_ble_eq_true rfl) (by decide) (by decide) (by decide) (by decide) (kI fun r5 μ5 hp5 => ?_) kN
          obtain ⟨rfl, rfl⟩ := hp5
          refine h_ist_6 C dX8_allow_36 ct_r ?_
          refine h_al_w (j := 0) C dX8_allow_38 rfl rfv_r ?_
          refine h_iload_w C dX8_allow_40 rfl ?_
          refine h_iload_w C dX8_allow_42 rfl ?_
          refine h_callV2 (ci := 1) C (k_X0_placeOfRoute Z.l Z.G P S _ hC _ he _ _) cw_X8_80 im_X0_placeOfRoute sl_X0_placeOfRoute rfl (by decide) (CRep.kE hC he) dX8_allow_44 (by first | decide | exact Nat.le_of_ble_eq_true rfl) (by decide) (by decide) (by decide) (by decide) (kI fun r6 μ6 hp6 => ?_) kN
          obtain ⟨rfl, rfl⟩ := hp6
          obtain ⟨xs, hxs, hnd, hLR⟩ := hC.rt (cl x) he
          have hlen := hLR.1
          have hmx := hxs.2.1
          have hsp := PRI_spec (TOPB p b) b (S.rt (cl x)) 0
          have hKe : KRT (cl x) = 7 + 32 * (42 + cl x) := rfl
          have hKc : isC (KRT (cl x)) := ⟨by omega, Or.inl (by omega)⟩
          refine h_ist_7 C dX8_allow_47 ct_i ?_
          refine h_iload_w C dX8_allow_49 rfl ?_
          refine h_iconst (v := (-1)) C dX8_allow_51 (by decide) ?_
          refine h_icmp_ne (tgt := 78) C dX8_allow_52 (by decide) (fun c1 => ?_) (fun c1 => ?_)
          · have hfull : ¬ ((PRI (TOPB p b) b (S.rt (cl x)) 0) = -1 ∧ 8 ≤ (S.rt (cl x)).length) := fun h => c1 h.1
            obtain ⟨i, rr, hri, hv, e0, e1⟩ := hsp.resolve_left c1
            rw [Nat.zero_add] at hv
            have hil : i < (S.rt (cl x)).length := (List.getElem?_eq_some_iff.mp hri).1
            have hqi : xs[i]? = some xs[i] := List.getElem?_eq_getElem (by omega)
            have hqr := hLR.2 i xs[i] rr hqi hri
            have hk7 : μ.kd xs[i] % 32 = 7 := hqr.k
            have hclv : cl (PRI (TOPB p b) b (S.rt (cl x)) 0) = i := by rw [hv]; exact cl_of (by omega)
            have hALR : ALR (S.rt (cl x)) (TOPB p b) b y = (S.rt (cl x)).set i (mkR (TOPB p b) b y) := by unfold ALR; rw [if_neg c1, hclv]
            rw [hv]
            refine h_iload_w C dX8_allow_78 rfl ?_
            refine h_if_lt (tgt := 116) C dX8_allow_80 (by decide) (fun c2 => absurd c2 ((fun h => by rw [Int32.lt_iff_toInt_lt, nI_toInt (by omega), tl_0] at h; omega))) (fun c2 => ?_)
            refine h_iload_w C dX8_allow_83 rfl ?_
            refine h_al_w (j := 0) C dX8_allow_85 rfl rfv_r ?_
            refine gs_X8_83 C dX8_allow_87 (CRep.kE hC (by assumption)) (CRep.f35 hC (by assumption)) ?_
            refine h_callV0 (ci := 0) (a_ := .null) C (k_Jx4a65c_size_8abf5 Z.l Z.G _ xs _ hxs) cw_X8_86 im_Jx4a65c_size_8abf5 sl_Jx4a65c_size_8abf5 rfl (by decide) hxs.1 dX8_allow_90 (by first | decide | exact Nat.le_of_ble_eq_true rfl) (by decide) (by decide) (by decide) (by decide) (kI fun r7 μ7 hp7 => ?_) kN
            obtain ⟨rfl, rfl⟩ := hp7
            refine h_icmp_ge (tgt := 116) C dX8_allow_93 (by decide) (fun c3 => absurd c3 ((nI_ge (by omega) (by omega)))) (fun c3 => ?_)
            refine h_al_w (j := 0) C dX8_allow_96 rfl rfv_r ?_
            refine gs_X8_83 C dX8_allow_98 (CRep.kE hC (by assumption)) (CRep.f35 hC (by assumption)) ?_
            refine h_iload_w C dX8_allow_101 rfl ?_
            refine h_callV1 (ci := 0) C (k_Jx4a65c_get_915e3 Z.l Z.G _ xs _ i _ _ hxs rfl hqi) cw_X8_92 im_Jx4a65c_get_915e3 sl_Jx4a65c_get_915e3 rfl (by decide) hxs.1 dX8_allow_103 (by first | decide | exact Nat.le_of_ble_eq_true rfl) (by decide) (by decide) (by decide) (by decide) (kA fun r8 μ8 hp8 => ?_) kN
            obtain ⟨rfl, rfl⟩ := hp8
            refine h_castO (ci := 6) C kl_X8_96 rfl (by decide) dX8_allow_106 hk7 ?_
            refine h_iload_g C dX8_allow_109 rfl rfl ?_
            refine pf_X8_98 C dX8_allow_110 hk7 ?_
            have hrt9 : RtAt (μ.sfi 194 xs[i] y) (KRT (cl x)) xs[i] (mkR (TOPB p b) b y) := ⟨hqr.1, (fi_ap rfl (Or.inl (by decide))).trans (hqr.2.1.trans e0), (fi_ap rfl (Or.inl (by decide))).trans (hqr.2.2.1.trans e1), fi_at rfl⟩
            have hTo : CTo Z.G P μ (S.sRt (cl x) (ALR (S.rt (cl x)) (TOPB p b) b y)) (μ.sfi 194 xs[i] y) := by rw [hALR]; exact ⟨CRep.setRt hC he hxs hnd hLR hqi (fun q h1 => same_sfi h1) rfl hrt9, FrS.sfi (by rw [hqr.1]; exact ⟨by omega, Or.inl (by omega)⟩)⟩
            refine h_abs (fun m9 em9 => ?_)
            rw [← em9] at hTo
            refine h_goto (tgt := 137) C dX8_allow_113 (by decide) ?_
            have hC9 := hTo.1
            have hxe : (S.sRt (cl x) (ALR (S.rt (cl x)) (TOPB p b) b y)).rt (cl x) = ALR (S.rt (cl x)) (TOPB p b) b y := u1_eq
            obtain ⟨ys, hys9, hnd9, hLR9⟩ := hC9.rt (cl x) he
            have hlen9 := hLR9.1
            rw [hxe] at hlen9
            refine h_al_w (j := 0) C dX8_allow_137 rfl rfv_r ?_
            refine gs_X8_83 C dX8_allow_139 (CRep.kE hC9 he) (CRep.f35 hC9 he) ?_
            refine h_callV0 (ci := 0) (a_ := .null) C (k_Jx4a65c_size_8abf5 Z.l Z.G _ ys _ hys9) cw_X8_86 im_Jx4a65c_size_8abf5 sl_Jx4a65c_size_8abf5 rfl (by decide) hys9.1 dX8_allow_142 (by first | decide | exact Nat.le_of_ble_eq_true rfl) (by decide) (by decide) (by decide) (by decide) (kI fun r9 μ9 hp9 => ?_) kN
            obtain ⟨rfl, rfl⟩ := hp9
            refine h_iret C E dX8_allow_145 (by decide) (by decide) ?_
            exact ⟨_, rfl, (if_pos ⟨hx, hy⟩).trans ((if_pos hxy).trans ((if_pos h1).trans ((if_pos h2).trans (if_neg hfull)))), hTo, by rw [hlen9]⟩
          · refine h_al_w (j := 0) C dX8_allow_55 rfl rfv_r ?_
            refine gs_X8_83 C dX8_allow_57 (CRep.kE hC (by assumption)) (CRep.f35 hC (by assumption)) ?_
            refine h_callV0 (ci := 0) (a_ := .null) C (k_Jx4a65c_size_8abf5 Z.l Z.G _ xs _ hxs) cw_X8_86 im_Jx4a65c_size_8abf5 sl_Jx4a65c_size_8abf5 rfl (by decide) hxs.1 dX8_allow_60 (by first | decide | exact Nat.le_of_ble_eq_true rfl) (by decide) (by decide) (by decide) (by decide) (kI fun r10 μ10 hp10 => ?_) kN
            obtain ⟨rfl, rfl⟩ := hp10
            refine h_bipush (v := 8) C dX8_allow_63 (by decide) ?_
            refine h_icmp_lt (tgt := 78) C dX8_allow_65 (by decide) (fun c2 => ?_) (fun c2 => ?_)
            · have h8 : (S.rt (cl x)).length < 8 := by rw [Int32.lt_iff_toInt_lt, tl_8, nI_toInt (by omega)] at c2; omega
              have hfull : ¬ ((PRI (TOPB p b) b (S.rt (cl x)) 0) = -1 ∧ 8 ≤ (S.rt (cl x)).length) := fun h => by omega
              have hALR : ALR (S.rt (cl x)) (TOPB p b) b y = S.rt (cl x) ++ [mkR (TOPB p b) b y] := by unfold ALR; rw [if_pos c1]
              rw [c1]
              refine h_iload_w C dX8_allow_78 rfl ?_
              refine h_if_lt (tgt := 116) C dX8_allow_80 (by decide) (fun c5 => ?_) (fun c5 => absurd ((by decide)) c5)
              refine h_al_w (j := 0) C dX8_allow_116 rfl rfv_r ?_
              refine gs_X8_83 C dX8_allow_118 (CRep.kE hC (by assumption)) (CRep.f35 hC (by assumption)) ?_
              refine nw_X8_96 (7 + 32 * 40) C dX8_allow_121 (by decide) (by decide) (by decide) (fun q hq => ?_)
              have hC0 := hC
              have hT1 : CTo Z.G P μ S _ := CTo.float (W := fun k => k = 7 + 32 * 40) hC (FrK.newO hq rfl) (fun k9 e9 => Or.inl (by rw [e9])) (fun k9 e9 => by rw [e9]; decide)
              have hC := hT1.1
              refine h_dup C dX8_allow_124 rfl ?_
              refine h_iload_w C dX8_allow_125 rfl ?_
              refine h_iload_w C dX8_allow_127 rfl ?_
              refine h_iload_g C dX8_allow_129 rfl rfl ?_
              refine h_callI3 C (k_X6_init Z.l Z.G q _ _ _ _ (by rw [kd_newO])) cw_X8_101 im_X6_init rfl dX8_allow_130 (by first | decide | exact Nat.le_of_ble_eq_true rfl) (by decide) (by decide) (by decide) (by decide) (kV fun μ2 hp11 => ?_) kN
              obtain ⟨k2, hf2, s1, s2, s3⟩ := hp11
              rw [kd_newO] at k2 hf2
              have hT2 := hT1.tr (CTo.float hT1.1 hf2 (fun k9 e9 => Or.inl (by rw [e9])) (fun k9 e9 => by rw [e9]; decide))
              refine h_skd q (KRT (cl x)) (by rw [k2]; omega) (by rw [k2]; decide) ?_
              have hC3 := CRep.skd (a := q) (k := KRT (cl x)) hT2.1 (by rw [k2]) (by rw [k2]; decide) (by rw [k2]; decide) (by rw [k2]; omega)
              have hT3 : CTo Z.G P μ S (μ2.skd q (KRT (cl x))) := hT2.tr ⟨hC3, FrS.skd (by rw [k2]; decide) (by rw [k2]; exact isC_fl (by decide)) hKc⟩
              have hrq : RtAt (μ2.skd q (KRT (cl x))) (KRT (cl x)) q (mkR (TOPB p b) b y) := ⟨kd_skd, s1, s2, s3⟩
              have hC2 := hT2.1
              obtain ⟨ys0, hys0, hnd0, hLR0⟩ := hC2.rt (cl x) he
              have hqx : q ∉ ys0 := fun h => by
                obtain ⟨i, r9, _, _, e3⟩ := hLR0.rk h
                rw [e3.1] at k2
                omega
              have hys : ListAt Z.G (μ2.skd q (KRT (cl x))) (P (10 + cl x)) ys0 := hys0.skd (by rw [k2]; decide) (by rw [k2, hC2.1 _ (by omega)]; have := KS_div (10 + cl x); omega) (by rw [k2]; omega)
              have hLR2 : LR (RtAt (μ2.skd q (KRT (cl x))) (KRT (cl x))) ys0 (S.rt (cl x)) := hLR0.imp fun p _ r hp => hp.skd (by rw [k2]; omega)
              have hlen2 := hLR2.1
              refine h_callV1 (ci := 0) C (k_Jx4a65c_add_9ea2d Z.l Z.G _ _ _ _ hys (by omega) (Or.inr (Or.inr (by rw [kd_skd]; omega)))) cw_X8_103 im_Jx4a65c_add_9ea2d sl_Jx4a65c_add_9ea2d rfl (by decide) hys.1 dX8_allow_133 (by first | decide | exact Nat.le_of_ble_eq_true rfl) (by decide) (by decide) (by decide) (by decide) (kI fun r12 μ3 hp12 => ?_) kN
              obtain ⟨hl4, hf4⟩ := hp12
              have hTo : CTo Z.G P μ (S.sRt (cl x) (ALR (S.rt (cl x)) (TOPB p b) b y)) μ3 := by rw [hALR]; exact hT3.tr ⟨CRep.addRt hC3 he hnd0 hLR2 hrq hqx hl4 hf4, hf4.S (LW_isC hC3 (by omega))⟩
              refine h_pop C dX8_allow_136 rfl ?_
              have hC9 := hTo.1
              have hxe : (S.sRt (cl x) (ALR (S.rt (cl x)) (TOPB p b) b y)).rt (cl x) = ALR (S.rt (cl x)) (TOPB p b) b y := u1_eq
              obtain ⟨ys, hys9, hnd9, hLR9⟩ := hC9.rt (cl x) he
              have hlen9 := hLR9.1
              rw [hxe] at hlen9
              refine h_al_w (j := 0) C dX8_allow_137 rfl rfv_r ?_
              refine gs_X8_83 C dX8_allow_139 (CRep.kE hC9 he) (CRep.f35 hC9 he) ?_
              refine h_callV0 (ci := 0) (a_ := .null) C (k_Jx4a65c_size_8abf5 Z.l Z.G _ ys _ hys9) cw_X8_86 im_Jx4a65c_size_8abf5 sl_Jx4a65c_size_8abf5 rfl (by decide) hys9.1 dX8_allow_142 (by first | decide | exact Nat.le_of_ble_eq_true rfl) (by decide) (by decide) (by decide) (by decide) (kI fun r13 μ11 hp13 => ?_) kN
              obtain ⟨rfl, rfl⟩ := hp13
              refine h_iret C E dX8_allow_145 (by decide) (by decide) ?_
              exact ⟨_, rfl, (if_pos ⟨hx, hy⟩).trans ((if_pos hxy).trans ((if_pos h1).trans ((if_pos h2).trans (if_neg hfull)))), hTo, by rw [hlen9]⟩
            · exact h_throw C E NT (by decide +kernel) xNames_fit kl_X8_47 xini_ISE xs_90 xat_ISE dX8_allow_68 dX8_allow_71 dX8_allow_72 dX8_allow_74 dX8_allow_77 (by decide) (by decide) (by decide) (by decide) (by decide) (by decide) ⟨rfl, Or.inr (Or.inr ⟨rfl, (if_pos ⟨hx, hy⟩).trans ((if_pos hxy).trans ((if_pos h1).trans ((if_pos h2).trans (if_pos ⟨c1, by rw [Int32.lt_iff_toInt_lt, tl_8, nI_toInt (by omega)] at c2; omega⟩))))⟩)⟩
        · exact hx_out C E NT (by decide) (by decide) ⟨hx9.2.1, Or.inr (Or.inl ⟨hx9.1, (if_pos ⟨hx, hy⟩).trans ((if_pos hxy).trans (((if_pos h1).trans (if_neg hx9.2.2))))⟩)⟩
      · exact hx_out C E NT (by decide) (by decide) ⟨hx9.2.1, Or.inr (Or.inl ⟨hx9.1, (if_pos ⟨hx, hy⟩).trans ((if_pos hxy).trans ((if_neg hx9.2.2)))⟩)⟩
    · exact hx_out C E NT (by decide) (by decide) (allC_X hx9)
  · exact hx_out C E NT (by decide) (by decide) ⟨hx9.2.1, Or.inl ⟨hx9.1, if_neg fun h => hx9.2.2 h.1⟩⟩

end
