section
def MAs (S : Sx) (a j : Nat) (t : Int64 × Int32) : Int64 × Int32 := match S.ses a j 1 with
  | none => t
  | some r => (t.1 + (S.sc 0 - r.1 2).toInt64, t.2 + 1)
def MAe (S : Sx) (a : Nat) (t : Int64 × Int32) : Int64 × Int32 := MAs S a 2 (MAs S a 1 (MAs S a 0 t))
def MEA (S : Sx) : UInt64 := if (MAe S 2 (MAe S 1 (MAe S 0 (0, 0)))).2 = 0 then 0 else FP.ddiv (FP.l2d (MAe S 2 (MAe S 1 (MAe S 0 (0, 0)))).1) (FP.i2d (MAe S 2 (MAe S 1 (MAe S 0 (0, 0)))).2)
set_option maxRecDepth 100000 in
set_option maxHeartbeats 4000000 in
theorem lp_mA1 {Z : Zx} {rc rs : Nat} {P : Nat → Nat} {S : Sx} {μ : Mem} (hC : CRep Z.G P S μ) {a b : Nat} (ha : a < 3) (hb : b < 3) (C : Cx Z RX8 cX8_meanAge 1 rc rs 21) {k n mc ms : Nat} (hk : k ≤ mc) (hn : n ≤ ms) (hk2 : k ≤ rc) (hn2 : n ≤ rs) {t1 : Int64} {t2 : Int32} (kk : ∀ (u : Int64 × Int32) (z : Option Value), u = MAs S a b (t1, t2) → HW Z k n 47 [some (.ref (P 0)), some (.long u.1), none, some (.int u.2), some (.ref (P 1)), some (.int 3), some (.int (nI a)), some (.ref (P (4 + a))), some (.ref (P (7 + a))), some (.int 3), some (.int (nI (b + 1))), z] [] μ) : ∀ z : Option Value, HW Z k n 47 [some (.ref (P 0)), some (.long t1), none, some (.int t2), some (.ref (P 1)), some (.int 3), some (.int (nI a)), some (.ref (P (4 + a))), some (.ref (P (7 + a))), some (.int 3), some (.int (nI b)), z] [] μ := by
  intro z
  have hj : b < 3 := hb
  refine h_iload_w C dX8_meanAge_47 rfl ?_
  refine h_iload_w C dX8_meanAge_49 rfl ?_
  refine h_icmp_ge (tgt := 91) C dX8_meanAge_51 (by decide) (fun c1 => absurd c1 ((by exact nI_ge (a := b) (b := 3) (by omega) (by decide)))) (fun c1 => ?_)
  refine h_al_w (j := 0) C dX8_meanAge_54 rfl rfv_r ?_
  refine h_iload_w C dX8_meanAge_56 rfl ?_
  refine h_aald (r := some _) C dX8_meanAge_58 (⟨by rw [CRep.kLA hC (by assumption)]; decide, by rw [CRep.kLA hC (by assumption)]; decide⟩) (by rw [CRep.lnL hC ha]; exact vp_in_nI hb (by decide)) (by rw [nI_clamp (by omega)]; exact CRep.eL hC ha hb) ?_
  refine h_ast_11 C dX8_meanAge_59 ct_i rfv_r ?_
  refine h_al_w (j := 0) C dX8_meanAge_61 rfl rfv_r ?_
  rcases CRep.c134 hC ha hb with ⟨e1, e2⟩ | ⟨s, r, e1, e2, hs⟩
  · refine gn_X8_289 C dX8_meanAge_63 (CRep.kL hC (by assumption) (by assumption)) e1 ?_
    refine h_ifnull_n (tgt := 85) C dX8_meanAge_66 (by decide) ?_
    refine h_iinc_10 (q := 1) C dX8_meanAge_85 (by decide) ct_i ?_
    refine h_goto (tgt := 47) C dX8_meanAge_88 (by decide) ?_
    rw [nI_1]
    exact kk (t1, t2) _ (by unfold MAs; rw [e2])
  · refine gs_X8_289 C dX8_meanAge_63 (CRep.kL hC (by assumption) (by assumption)) e1 ?_
    refine h_ifnull_r C dX8_meanAge_66 ?_
    refine h_lload_g C dX8_meanAge_69 rfl rfl ?_
    refine h_al_g C dX8_meanAge_70 rfl rfl rfv_r ?_
    refine h_al_w (j := 0) C dX8_meanAge_71 rfl rfv_r ?_
    refine gs_X8_289 C dX8_meanAge_73 (CRep.kL hC (by assumption) (by assumption)) e1 ?_
    refine h_callV1 (ci := 8) C (k_X8_ageOf Z.l Z.G P S _ hC _ _ _ _ _ hs) cw_X8_293 im_X8_ageOf sl_X8_ageOf rfl (by decide) (CRep.kX hC) dX8_meanAge_76 (by first | decide | exact Nat.le_of_ble_eq_true rfl) (by decide) (by decide) (by omega) (by omega) (kI fun r1 μ1 hp1 => ?_) kN
    obtain ⟨rfl, rfl⟩ := hp1
    refine h_i2l C dX8_meanAge_79 ?_
    refine h_ladd C dX8_meanAge_80 ?_
    refine h_lst_1 C dX8_meanAge_81 ct_r ?_
    refine h_iinc_3 (q := 1) C dX8_meanAge_82 (by decide) ct_n ?_
    refine h_iinc_10 (q := 1) C dX8_meanAge_85 (by decide) ct_i ?_
    refine h_goto (tgt := 47) C dX8_meanAge_88 (by decide) ?_
    rw [nI_1]
    exact kk (t1 + (S.sc 0 - r.1 2).toInt64, t2 + 1) _ (by unfold MAs; rw [e2])

set_option maxRecDepth 100000 in
set_option maxHeartbeats 4000000 in
theorem lp_mA2 {Z : Zx} {rc rs : Nat} {P : Nat → Nat} {S : Sx} {μ : Mem} (C : Cx Z RX8 cX8_meanAge 1 rc rs 21) {k n mc ms : Nat} (hk : k ≤ mc) (hn : n ≤ ms) (hk2 : k ≤ rc) (hn2 : n ≤ rs) {a : Nat} {t1 : Int64} {t2 : Int32} (kk : ∀ z7 z8 : Option Value, HW Z k n 18 [some (.ref (P 0)), some (.long t1), none, some (.int t2), some (.ref (P 1)), some (.int 3), some (.int (nI (a + 1))), some (.ref (P (4 + a))), some (.ref (P (7 + a))), some (.int 3), z7, z8] [] μ) : ∀ z : Option Value, HW Z k n 47 [some (.ref (P 0)), some (.long t1), none, some (.int t2), some (.ref (P 1)), some (.int 3), some (.int (nI a)), some (.ref (P (4 + a))), some (.ref (P (7 + a))), some (.int 3), some (.int (nI 3)), z] [] μ := by
  intro z
  refine h_iload_w C dX8_meanAge_47 rfl ?_
  refine h_iload_w C dX8_meanAge_49 rfl ?_
  refine h_icmp_ge (tgt := 91) C dX8_meanAge_51 (by decide) (fun c1 => ?_) (fun c1 => absurd ((by decide)) c1)
  refine h_iinc_6 (q := 1) C dX8_meanAge_91 (by decide) ct_i ?_
  refine h_goto (tgt := 18) C dX8_meanAge_94 (by decide) ?_
  rw [nI_1]
  exact kk _ _

set_option maxRecDepth 100000 in
set_option maxHeartbeats 4000000 in
theorem lp_mA3 {Z : Zx} {rc rs : Nat} {P : Nat → Nat} {S : Sx} {μ : Mem} (hC : CRep Z.G P S μ) {a : Nat} (ha : a < 3) (C : Cx Z RX8 cX8_meanAge 1 rc rs 21) {k n mc ms : Nat} (hk : k ≤ mc) (hn : n ≤ ms) (hk2 : k ≤ rc) (hn2 : n ≤ rs) {t1 : Int64} {t2 : Int32} (kk : ∀ (u : Int64 × Int32) (z7 z8 z9 z10 z11 : Option Value), u = MAe S a (t1, t2) → HW Z k n 18 [some (.ref (P 0)), some (.long u.1), none, some (.int u.2), some (.ref (P 1)), some (.int 3), some (.int (nI (a + 1))), z7, z8, z9, z10, z11] [] μ) : ∀ z7 z8 z9 z10 z11 : Option Value, HW Z k n 18 [some (.ref (P 0)), some (.long t1), none, some (.int t2), some (.ref (P 1)), some (.int 3), some (.int (nI a)), z7, z8, z9, z10, z11] [] μ := by
  intro z7 z8 z9 z10 z11
  refine h_iload_w C dX8_meanAge_18 rfl ?_
  refine h_iload_w C dX8_meanAge_20 rfl ?_
  refine h_icmp_ge (tgt := 97) C dX8_meanAge_22 (by decide) (fun c1 => absurd c1 ((by exact nI_ge (a := a) (b := 3) (by omega) (by decide)))) (fun c1 => ?_)
  refine h_al_w (j := 0) C dX8_meanAge_25 rfl rfv_r ?_
  refine h_iload_w C dX8_meanAge_27 rfl ?_
  refine h_aald (r := some _) C dX8_meanAge_29 ⟨by rw [CRep.kEA hC]; decide, by rw [CRep.kEA hC]; decide⟩ (by rw [CRep.lnE hC]; exact vp_in_nI ha (by decide)) (by rw [nI_clamp (by omega)]; exact CRep.eE hC ha) ?_
  refine h_ast_7 C dX8_meanAge_30 ct_i rfv_r ?_
  refine h_al_w (j := 0) C dX8_meanAge_32 rfl rfv_r ?_
  refine gs_X8_285 C dX8_meanAge_34 (CRep.kE hC (by assumption)) (CRep.f34 hC (by assumption)) ?_
  refine h_ast_8 C dX8_meanAge_37 ct_r rfv_r ?_
  refine h_al_w (j := 0) C dX8_meanAge_39 rfl rfv_r ?_
  refine h_alen C dX8_meanAge_41 (⟨by rw [CRep.kLA hC (by assumption)]; decide, by rw [CRep.kLA hC (by assumption)]; decide⟩) (CRep.lnL hC (by assumption)) ?_
  rw [show (Int32.ofNat 3 : Int32) = 3 from rfl]
  refine h_ist_9 C dX8_meanAge_42 ct_r ?_
  refine h_iconst (v := 0) C dX8_meanAge_44 (by decide) ?_
  refine h_ist_10 C dX8_meanAge_45 ct_i ?_
  exact lp_mA1 hC ha (b := 0) (by decide) C hk hn hk2 hn2 (fun u1 z1 h1 => lp_mA1 hC ha (b := 1) (by decide) C hk hn hk2 hn2 (fun u2 z2 h2 => lp_mA1 hC ha (b := 2) (by decide) C hk hn hk2 hn2 (fun u3 z3 h3 => lp_mA2 (S := S) C hk hn hk2 hn2 (fun z8 z9 => kk u3 _ _ _ _ _ (by rw [h3, h2, h1]; rfl)) z3) z2) z1) _

set_option maxRecDepth 100000 in
set_option maxHeartbeats 4000000 in
theorem lp_mA4 {Z : Zx} {rc rs : Nat} {P : Nat → Nat} {S : Sx} {μ : Mem} (C : Cx Z RX8 cX8_meanAge 1 rc rs 21) {mc ms : Nat} {Post : Option Value → Mem → Prop} {PostX : String → Mem → Prop} (E : Rt Z mc ms (some .double) Post PostX) {k n : Nat} (hk : k ≤ mc) (hn : n ≤ ms) (hP : ∀ v, (pD fun v μ' => μ = μ' ∧ v = MEA S) v μ → Post v μ) {u : Int64 × Int32} (hu : u = MAe S 2 (MAe S 1 (MAe S 0 (0, 0)))) : ∀ z7 z8 z9 z10 z11 : Option Value, HW Z k n 18 [some (.ref (P 0)), some (.long u.1), none, some (.int u.2), some (.ref (P 1)), some (.int 3), some (.int (nI 3)), z7, z8, z9, z10, z11] [] μ := by
  intro z7 z8 z9 z10 z11
  refine h_iload_w C dX8_meanAge_18 rfl ?_
  refine h_iload_w C dX8_meanAge_20 rfl ?_
  refine h_icmp_ge (tgt := 97) C dX8_meanAge_22 (by decide) (fun c1 => ?_) (fun c1 => absurd ((by decide)) c1)
  refine h_iload_g C dX8_meanAge_97 rfl rfl ?_
  refine h_if_ne (tgt := 103) C dX8_meanAge_98 (by decide) (fun c0 => ?_) (fun c0 => ?_)
  · refine h_lload_g C dX8_meanAge_103 rfl rfl ?_
    refine h_l2d C dX8_meanAge_104 ?_
    refine h_iload_g C dX8_meanAge_105 rfl rfl ?_
    refine h_i2d C dX8_meanAge_106 ?_
    refine h_ddiv C dX8_meanAge_107 (vf64_i _ _ c0) ?_
    refine h_dret C E dX8_meanAge_108 hk hn ?_
    refine hP _ ⟨_, rfl, rfl, ?_⟩
    unfold MEA
    rw [← hu, if_neg c0]
  · refine h_dconst0 C dX8_meanAge_101 ?_
    refine h_dret C E dX8_meanAge_102 hk hn ?_
    refine hP _ ⟨_, rfl, rfl, ?_⟩
    unfold MEA
    rw [← hu, if_pos c0]

set_option maxRecDepth 100000 in
set_option maxHeartbeats 4000000 in
theorem k_X8_meanAge (l : Launch) (G : Gx) (P : Nat → Nat) (S : Sx) (μ : Mem) (hC : CRep G P S μ) : Kon l yX8_meanAge cX8_meanAge 12 (some .double) 1 0 0 21 G [.ref (P 0)] μ (pD fun v μ' => μ = μ' ∧ v = MEA S) noX := by
  refine Kon.ofG (by decide +kernel) (Nat.le_of_ble_eq_true rfl) (Nat.le_of_ble_eq_true rfl) (fun Z hZG C E NT MT => ?_)
  subst hZG
  have C : Cx Z RX8 cX8_meanAge 1 0 0 21 := C
  show HW Z 0 0 0 [some (.ref (P 0)), none, none, none, none, none, none, none, none, none, none, none] [] μ
  refine h_lconst (v := 0) C dX8_meanAge_0 (by decide) ?_
  refine h_lst_1 C dX8_meanAge_1 ct_r ?_
  refine h_iconst (v := 0) C dX8_meanAge_2 (by decide) ?_
  refine h_ist_3 C dX8_meanAge_3 ct_n ?_
  refine h_al_g C dX8_meanAge_4 rfl rfl rfv_r ?_
  refine gs_X8_11 C dX8_meanAge_5 (CRep.kX hC) (CRep.f256 hC) ?_
  refine h_ast_4 C dX8_meanAge_8 ct_i rfv_r ?_
  refine h_al_w (j := 0) C dX8_meanAge_10 rfl rfv_r ?_
  refine h_alen C dX8_meanAge_12 (⟨by rw [CRep.kEA hC]; decide, by rw [CRep.kEA hC]; decide⟩) (CRep.lnE hC) ?_
  rw [show (Int32.ofNat 3 : Int32) = 3 from rfl]
  refine h_ist_5 C dX8_meanAge_13 ct_r ?_
  refine h_iconst (v := 0) C dX8_meanAge_15 (by decide) ?_
  refine h_ist_6 C dX8_meanAge_16 ct_i ?_
  exact lp_mA3 hC (a := 0) (by decide) C (mc := 0) (ms := 0) (Nat.zero_le _) (Nat.zero_le _) (Nat.zero_le _) (Nat.zero_le _) (fun u1 p7 p8 p9 p10 p11 h1 => lp_mA3 hC (a := 1) (by decide) C (mc := 0) (ms := 0) (Nat.zero_le _) (Nat.zero_le _) (Nat.zero_le _) (Nat.zero_le _) (fun u2 q7 q8 q9 q10 q11 h2 => lp_mA3 hC (a := 2) (by decide) C (mc := 0) (ms := 0) (Nat.zero_le _) (Nat.zero_le _) (Nat.zero_le _) (Nat.zero_le _) (fun u3 r7 r8 r9 r10 r11 h3 => lp_mA4 C E (Nat.zero_le _) (Nat.zero_le _) (fun v h => h) (by rw [h3, h2, h1]) r7 r8 r9 r10 r11) q7 q8 q9 q10 q11) p7 p8 p9 p10 p11) _ _ _ _ _

end
