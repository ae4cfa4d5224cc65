section
def forC (S : Sx) (x p b : Int32) : Int32 := if isE x then (if inR p 0 255 then (if inR b 0 8 then (if PRI (TOPB p b) b (S.rt (cl x)) 0 = -1 then 3 else 0) else 2) else 2) else 1
def FOR (rs : List Row) (p b : Int32) : List Row := rs.eraseIdx (cl (PRI p b rs 0))
set_option maxRecDepth 100000 in
set_option maxHeartbeats 4000000 in
theorem k_X8_forbid (l : Launch) (G : Gx) (P : Nat → Nat) (S : Sx) (μ : Mem) (hC : CRep G P S μ) (x p b : Int32) : Kon l yX8_forbid cX8_forbid 6 (some .int) 7 4 24 104 G [.ref (P 0), .int x, .int p, .int b] μ (pI fun v μ' => forC S x p b = 0 ∧ CTo G P μ (S.sRt (cl x) (FOR (S.rt (cl x)) (TOPB p b) b)) μ' ∧ v = nI (FOR (S.rt (cl x)) (TOPB p b) b).length) (PX3 xIOB xIAE xNSE (forC S x p b) μ) := by
  refine Kon.ofG (by decide +kernel) (Nat.le_of_ble_eq_true rfl) (Nat.le_of_ble_eq_true rfl) (fun Z hZG C E NT MT => ?_)
  subst hZG
  have C : Cx Z RX8 cX8_forbid 7 4 24 104 := C
  show HW Z 0 0 0 [some (.ref (P 0)), some (.int x), some (.int p), some (.int b), none, none] [] μ
  refine h_al_g C dX8_forbid_0 rfl rfl rfv_r ?_
  refine h_iload_g C dX8_forbid_1 rfl rfl ?_
  refine h_callV1 (ci := 8) C (k_X8_endAt Z.l Z.G P S _ hC x) cw_X8_52 im_X8_endAt sl_X8_endAt rfl (by decide) (CRep.kX hC) dX8_forbid_2 (by first | decide | exact Nat.le_of_ble_eq_true rfl) (by decide) (by decide) (by decide) (by decide) (kA fun r1 μ1 hp1 => ?_) (fun X9 μ9 hx9 => ?_)
  · obtain ⟨rfl, hx, rfl⟩ := hp1
    have he := hx.lt
    refine h_ast_4 C dX8_forbid_5 ct_i rfv_r ?_
    refine h_iload_g C dX8_forbid_7 rfl rfl ?_
    refine h_iconst (v := 0) C dX8_forbid_8 (by decide) ?_
    refine h_sipush (v := 255) C dX8_forbid_9 (by decide) ?_
    refine h_callS3 C (k_X8_checkRange Z.l Z.G (p) (0) (255) _) cw_X8_56 st_X8_checkRange dX8_forbid_12 (by first | decide | exact Nat.le_of_ble_eq_true rfl) (by decide) (by decide) (by decide) (by decide) (kV fun μ2 hp2 => ?_) (fun X9 μ9 hx9 => ?_)
    · obtain ⟨rfl, h1⟩ := hp2
      refine h_iload_g C dX8_forbid_15 rfl rfl ?_
      refine h_iconst (v := 0) C dX8_forbid_16 (by decide) ?_
      refine h_bipush (v := 8) C dX8_forbid_17 (by decide) ?_
      refine h_callS3 C (k_X8_checkRange Z.l Z.G (b) (0) (8) _) cw_X8_56 st_X8_checkRange dX8_forbid_19 (by first | decide | exact Nat.le_of_ble_eq_true rfl) (by decide) (by decide) (by decide) (by decide) (kV fun μ3 hp3 => ?_) (fun X9 μ9 hx9 => ?_)
      · obtain ⟨rfl, h2⟩ := hp3
        refine h_al_w (j := 0) C dX8_forbid_22 rfl rfv_r ?_
        refine h_iload_g C dX8_forbid_24 rfl rfl ?_
        refine h_iload_g C dX8_forbid_25 rfl rfl ?_
        refine h_callS2 C (k_X8_topBits Z.l Z.G _ _ _) cw_X8_76 st_X8_topBits dX8_forbid_26 (by first | decide | exact Nat.le_of_ble_eq_true rfl) (by decide) (by decide) (by decide) (by decide) (kI fun r4 μ4 hp4 => ?_) kN
        obtain ⟨rfl, rfl⟩ := hp4
        refine h_iload_g C dX8_forbid_29 rfl rfl ?_
        refine h_callV2 (ci := 1) C (k_X0_placeOfRoute Z.l Z.G P S _ hC _ he _ _) cw_X8_80 im_X0_placeOfRoute sl_X0_placeOfRoute rfl (by decide) (CRep.kE hC he) dX8_forbid_30 (by first | decide | exact Nat.le_of_ble_eq_true rfl) (by decide) (by decide) (by decide) (by decide) (kI fun r5 μ5 hp5 => ?_) kN
        obtain ⟨rfl, rfl⟩ := hp5
        obtain ⟨xs, hxs, hnd, hLR⟩ := hC.rt (cl x) he
        have hlen := hLR.1
        have hmx := hxs.2.1
        have hsp := PRI_spec (TOPB p b) b (S.rt (cl x)) 0
        refine h_ist_5 C dX8_forbid_33 ct_r ?_
        refine h_iload_w C dX8_forbid_35 rfl ?_
        refine h_if_lt (tgt := 53) C dX8_forbid_37 (by decide) (fun c1 => ?_) (fun c1 => ?_)
        · have h3 : (PRI (TOPB p b) b (S.rt (cl x)) 0) = -1 := Decidable.byContradiction fun z => by
            obtain ⟨i, rr, hri, hv, -, -⟩ := hsp.resolve_left z
            have hil : i < (S.rt (cl x)).length := (List.getElem?_eq_some_iff.mp hri).1
            rw [hv, Nat.zero_add, Int32.lt_iff_toInt_lt, nI_toInt (by omega), tl_0] at c1
            omega
          exact h_throwN C E NT kl_X8_107 xini_NSE xs_109 xat_NSE dX8_forbid_53 dX8_forbid_56 dX8_forbid_57 dX8_forbid_59 dX8_forbid_62 (by decide) (by decide) (by decide) (by decide) (by decide) (by decide) ⟨rfl, Or.inr (Or.inr ⟨rfl, (if_pos hx).trans ((if_pos h1).trans ((if_pos h2).trans (if_pos h3)))⟩)⟩
        · have h3 : ¬ (PRI (TOPB p b) b (S.rt (cl x)) 0) = -1 := fun z => c1 (by rw [z]; decide)
          obtain ⟨i, rr, hri, hv, e0, e1⟩ := hsp.resolve_left h3
          rw [Nat.zero_add] at hv
          have hil : i < (S.rt (cl x)).length := (List.getElem?_eq_some_iff.mp hri).1
          have hqi : xs[i]? = some xs[i] := List.getElem?_eq_getElem (by omega)
          have hclv : cl (PRI (TOPB p b) b (S.rt (cl x)) 0) = i := by rw [hv]; exact cl_of (by omega)
          have hFOR : FOR (S.rt (cl x)) (TOPB p b) b = (S.rt (cl x)).eraseIdx i := by unfold FOR; rw [hclv]
          rw [hv]
          refine h_iload_w C dX8_forbid_40 rfl ?_
          refine h_al_w (j := 0) C dX8_forbid_42 rfl rfv_r ?_
          refine gs_X8_83 C dX8_forbid_44 (CRep.kE hC (by assumption)) (CRep.f35 hC (by assumption)) ?_
          refine h_callV0 (ci := 0) (a_ := .null) C (k_Jx4a65c_size_8abf5 Z.l Z.G _ xs _ hxs) cw_X8_86 im_Jx4a65c_size_8abf5 sl_Jx4a65c_size_8abf5 rfl (by decide) hxs.1 dX8_forbid_47 (by first | decide | exact Nat.le_of_ble_eq_true rfl) (by decide) (by decide) (by decide) (by decide) (kI fun r6 μ6 hp6 => ?_) kN
          obtain ⟨rfl, rfl⟩ := hp6
          refine h_icmp_lt (tgt := 63) C dX8_forbid_50 (by decide) (fun c2 => ?_) (fun c2 => absurd ((nI_lt (by omega) (by omega))) c2)
          refine h_al_w (j := 0) C dX8_forbid_63 rfl rfv_r ?_
          refine gs_X8_83 C dX8_forbid_65 (CRep.kE hC (by assumption)) (CRep.f35 hC (by assumption)) ?_
          refine h_iload_w C dX8_forbid_68 rfl ?_
          refine h_callV1 (ci := 0) C (k_Jx4a65c_remove_915e3 Z.l Z.G _ xs _ i _ _ hxs rfl hqi) cw_X8_112 im_Jx4a65c_remove_915e3 sl_Jx4a65c_remove_915e3 rfl (by decide) hxs.1 dX8_forbid_70 (by first | decide | exact Nat.le_of_ble_eq_true rfl) (by decide) (by decide) (by decide) (by decide) (kA fun r7 μ1 hp7 => ?_) kN
          obtain ⟨rfl, hl2, hf2⟩ := hp7
          have hTo : CTo Z.G P μ (S.sRt (cl x) (FOR (S.rt (cl x)) (TOPB p b) b)) μ1 := by rw [hFOR]; exact ⟨CRep.rmRt hC he hnd hLR i hl2 hf2, hf2.S (LW_isC hC (by omega))⟩
          have hC9 := hTo.1
          have hlen9 : (xs.eraseIdx i).length = (FOR (S.rt (cl x)) (TOPB p b) b).length := by rw [hFOR, List.length_eraseIdx, List.length_eraseIdx, hlen]
          refine h_pop C dX8_forbid_73 rfl ?_
          refine h_al_w (j := 0) C dX8_forbid_74 rfl rfv_r ?_
          refine gs_X8_83 C dX8_forbid_76 (CRep.kE hC9 he) (CRep.f35 hC9 he) ?_
          refine h_callV0 (ci := 0) (a_ := .null) C (k_Jx4a65c_size_8abf5 Z.l Z.G _ _ _ hl2) cw_X8_86 im_Jx4a65c_size_8abf5 sl_Jx4a65c_size_8abf5 rfl (by decide) hl2.1 dX8_forbid_79 (by first | decide | exact Nat.le_of_ble_eq_true rfl) (by decide) (by decide) (by decide) (by decide) (kI fun r8 μ7 hp8 => ?_) kN
          obtain ⟨rfl, rfl⟩ := hp8
          refine h_iret C E dX8_forbid_82 (by decide) (by decide) ?_
          exact ⟨_, rfl, (if_pos hx).trans ((if_pos h1).trans ((if_pos h2).trans (if_neg h3))), hTo, by rw [hlen9]⟩
      · exact hx_out C E NT (by decide) (by decide) ⟨hx9.2.1, Or.inr (Or.inl ⟨hx9.1, ((if_pos hx).trans ((if_pos h1).trans (if_neg hx9.2.2)))⟩)⟩
    · exact hx_out C E NT (by decide) (by decide) ⟨hx9.2.1, Or.inr (Or.inl ⟨hx9.1, ((if_pos hx).trans (if_neg hx9.2.2))⟩)⟩
  · exact hx_out C E NT (by decide) (by decide) ⟨hx9.2.1, Or.inl ⟨hx9.1, if_neg hx9.2.2⟩⟩

end
