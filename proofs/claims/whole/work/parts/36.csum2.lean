section
def CKa (S : Sx) (i : Nat) (u : Int64) : Int64 := ADV (ADV (ADV u (S.ef 0 i)) (if S.ef 1 i = 0 then 0 else 1)) (nI (S.rt i).length)
def CKb (S : Sx) (i : Nat) (u : Int64) : Int64 := if i = 0 then SLK S 0 2 (SLK S 0 1 u) else if i = 1 then SLK S 1 2 (SLK S 1 0 u) else SLK S 2 1 (SLK S 2 0 u)
def SNs : Int64 → List Row → Int64
  | t, [] => t
  | t, r :: rs => SNs (SLT t r) rs
def TLD (S : Sx) (u : Int64) : Int64 := ADV (ADV (ADV (ADV (ADV (ADV (ADV (ADV (ADV (ADV (ADV u (S.cd 0)) (S.cd 1)) (S.cd 2)) (S.cd 3)) (S.cd 4)) (S.cd 5)) (S.cd 6)) (S.cd 7)) (S.cd 8)) (S.cd 9)) (S.cd 10)
def CHK (S : Sx) : Int64 := TLD S (SNs (SOU S 2 (SOU S 1 (SOU S 0 (CKb S 2 (CKb S 1 (CKb S 0 (CKa S 2 (CKa S 1 (CKa S 0 (ADV 31 (S.sc 0))))))))))) S.nt)
set_option maxRecDepth 100000 in
set_option maxHeartbeats 4000000 in
theorem lp_ck1 {Z : Zx} {rc rs : Nat} {P : Nat → Nat} {S : Sx} {μ : Mem} (hC : CRep Z.G P S μ) {a : Nat} (ha : a < 3) (C : Cx Z RX8 cX8_checksum 4 rc rs 89) {k n mc ms : Nat} (hk : k ≤ mc) (hn : n ≤ ms) (hk2 : k ≤ rc) (hn2 : n ≤ rs) {u : Int64} (kk : ∀ (v : Int64) (z6 z7 z8 z9 z10 : Option Value), v = CKa S a u → HW Z k n 23 [some (.ref (P 0)), some (.long v), none, some (.ref (P 1)), some (.int 3), some (.int (nI (a + 1))), z6, z7, z8, z9, z10] [] μ) : ∀ z6 z7 z8 z9 z10 : Option Value, HW Z k n 23 [some (.ref (P 0)), some (.long u), none, some (.ref (P 1)), some (.int 3), some (.int (nI a)), z6, z7, z8, z9, z10] [] μ := by
  intro z6 z7 z8 z9 z10
  obtain ⟨xs, hxs, hnd, hLR⟩ := hC.rt a ha
  have hlen := hLR.1
  refine h_iload_w C dX8_checksum_23 rfl ?_
  refine h_iload_w C dX8_checksum_25 rfl ?_
  refine h_icmp_ge (tgt := 83) C dX8_checksum_27 (by decide) (fun c1 => absurd c1 ((by exact nI_ge (a := a) (b := 3) (by omega) (by decide)))) (fun c1 => ?_)
  refine h_al_g C dX8_checksum_30 rfl rfl rfv_r ?_
  refine h_iload_w C dX8_checksum_31 rfl ?_
  refine h_aald (r := some _) C dX8_checksum_33 ⟨by rw [CRep.kEA hC]; decide, by rw [CRep.kEA hC]; decide⟩ (by rw [CRep.lnE hC]; exact vp_in_nI ha (by decide)) (by rw [nI_clamp (by omega)]; exact CRep.eE hC ha) ?_
  refine h_ast_6 C dX8_checksum_34 ct_i rfv_r ?_
  refine h_lload_g C dX8_checksum_36 rfl rfl ?_
  refine h_al_w (j := 0) C dX8_checksum_37 rfl rfv_r ?_
  refine gf_X8_65 C dX8_checksum_39 (CRep.kE hC ha) (CRep.f37 hC ha) ?_
  refine h_callS2 C (k_X4_added Z.l Z.G _ _ _) cw_X8_315 st_X4_added dX8_checksum_42 (by first | decide | exact Nat.le_of_ble_eq_true rfl) (by decide) (by decide) (by omega) (by omega) (kL fun r1 μ1 hp1 => ?_) kN
  obtain ⟨rfl, rfl⟩ := hp1
  refine h_lst_1 C dX8_checksum_45 ct_r ?_
  refine h_lload_g C dX8_checksum_46 rfl rfl ?_
  refine h_al_w (j := 0) C dX8_checksum_47 rfl rfv_r ?_
  refine gf_X8_68 C dX8_checksum_49 (CRep.kE hC ha) (CRep.f38 hC ha) ?_
  refine h_if_eq (tgt := 59) C dX8_checksum_52 (by decide) (fun c0 => ?_) (fun c0 => ?_)
  · refine h_iconst (v := 0) C dX8_checksum_59 (by decide) ?_
    refine h_callS2 C (k_X4_added Z.l Z.G _ _ _) cw_X8_315 st_X4_added dX8_checksum_60 (by first | decide | exact Nat.le_of_ble_eq_true rfl) (by decide) (by decide) (by omega) (by omega) (kL fun r2 μ2 hp2 => ?_) kN
    obtain ⟨rfl, rfl⟩ := hp2
    refine h_lst_1 C dX8_checksum_63 ct_r ?_
    refine h_lload_g C dX8_checksum_64 rfl rfl ?_
    refine h_al_w (j := 0) C dX8_checksum_65 rfl rfv_r ?_
    refine gs_X8_83 C dX8_checksum_67 (CRep.kE hC ha) (CRep.f35 hC ha) ?_
    refine h_callV0 (ci := 0) (a_ := .null) C (k_Jx4a65c_size_8abf5 Z.l Z.G _ xs _ hxs) cw_X8_86 im_Jx4a65c_size_8abf5 sl_Jx4a65c_size_8abf5 rfl (by decide) hxs.1 dX8_checksum_70 (by first | decide | exact Nat.le_of_ble_eq_true rfl) (by decide) (by decide) (by omega) (by omega) (kI fun r3 μ3 hp3 => ?_) kN
    obtain ⟨rfl, rfl⟩ := hp3
    rw [hlen]
    refine h_callS2 C (k_X4_added Z.l Z.G _ _ _) cw_X8_315 st_X4_added dX8_checksum_73 (by first | decide | exact Nat.le_of_ble_eq_true rfl) (by decide) (by decide) (by omega) (by omega) (kL fun r4 μ4 hp4 => ?_) kN
    obtain ⟨rfl, rfl⟩ := hp4
    refine h_lst_1 C dX8_checksum_76 ct_r ?_
    refine h_iinc_5 (q := 1) C dX8_checksum_77 (by decide) ct_i ?_
    refine h_goto (tgt := 23) C dX8_checksum_80 (by decide) ?_
    rw [nI_1]
    exact kk _ _ _ _ _ _ (by unfold CKa; rw [if_pos c0])
  · refine h_iconst (v := 1) C dX8_checksum_55 (by decide) ?_
    refine h_goto (tgt := 60) C dX8_checksum_56 (by decide) ?_
    refine h_callS2 C (k_X4_added Z.l Z.G _ _ _) cw_X8_315 st_X4_added dX8_checksum_60 (by first | decide | exact Nat.le_of_ble_eq_true rfl) (by decide) (by decide) (by omega) (by omega) (kL fun r5 μ5 hp5 => ?_) kN
    obtain ⟨rfl, rfl⟩ := hp5
    refine h_lst_1 C dX8_checksum_63 ct_r ?_
    refine h_lload_g C dX8_checksum_64 rfl rfl ?_
    refine h_al_w (j := 0) C dX8_checksum_65 rfl rfv_r ?_
    refine gs_X8_83 C dX8_checksum_67 (CRep.kE hC ha) (CRep.f35 hC ha) ?_
    refine h_callV0 (ci := 0) (a_ := .null) C (k_Jx4a65c_size_8abf5 Z.l Z.G _ xs _ hxs) cw_X8_86 im_Jx4a65c_size_8abf5 sl_Jx4a65c_size_8abf5 rfl (by decide) hxs.1 dX8_checksum_70 (by first | decide | exact Nat.le_of_ble_eq_true rfl) (by decide) (by decide) (by omega) (by omega) (kI fun r6 μ6 hp6 => ?_) kN
    obtain ⟨rfl, rfl⟩ := hp6
    rw [hlen]
    refine h_callS2 C (k_X4_added Z.l Z.G _ _ _) cw_X8_315 st_X4_added dX8_checksum_73 (by first | decide | exact Nat.le_of_ble_eq_true rfl) (by decide) (by decide) (by omega) (by omega) (kL fun r7 μ7 hp7 => ?_) kN
    obtain ⟨rfl, rfl⟩ := hp7
    refine h_lst_1 C dX8_checksum_76 ct_r ?_
    refine h_iinc_5 (q := 1) C dX8_checksum_77 (by decide) ct_i ?_
    refine h_goto (tgt := 23) C dX8_checksum_80 (by decide) ?_
    rw [nI_1]
    exact kk _ _ _ _ _ _ (by unfold CKa; rw [if_neg c0])

set_option maxRecDepth 100000 in
set_option maxHeartbeats 4000000 in
theorem lp_ck12 {Z : Zx} {rc rs : Nat} {P : Nat → Nat} {S : Sx} {μ : Mem} (hC : CRep Z.G P S μ)  (C : Cx Z RX8 cX8_checksum 4 rc rs 89) {k n mc ms : Nat} (hk : k ≤ mc) (hn : n ≤ ms) (hk2 : k ≤ rc) (hn2 : n ≤ rs) {u : Int64} (kk : ∀ (z6 z7 z8 z9 z10 : Option Value), HW Z k n 95 [some (.ref (P 0)), some (.long u), none, some (.ref (P 1)), some (.int 3), some (.int 0), z6, z7, z8, z9, z10] [] μ) : ∀ z6 z7 z8 z9 z10 : Option Value, HW Z k n 23 [some (.ref (P 0)), some (.long u), none, some (.ref (P 1)), some (.int 3), some (.int (nI 3)), z6, z7, z8, z9, z10] [] μ := by
  intro z6 z7 z8 z9 z10
  refine h_iload_w C dX8_checksum_23 rfl ?_
  refine h_iload_w C dX8_checksum_25 rfl ?_
  refine h_icmp_ge (tgt := 83) C dX8_checksum_27 (by decide) (fun c1 => ?_) (fun c1 => absurd ((by decide)) c1)
  refine h_al_g C dX8_checksum_83 rfl rfl rfv_r ?_
  refine gs_X8_11 C dX8_checksum_84 (CRep.kX hC) (CRep.f256 hC) ?_
  refine h_ast_3 C dX8_checksum_87 ct_n rfv_r ?_
  refine h_al_g C dX8_checksum_88 rfl rfl rfv_r ?_
  refine h_alen C dX8_checksum_89 (⟨by rw [CRep.kEA hC]; decide, by rw [CRep.kEA hC]; decide⟩) (CRep.lnE hC) ?_
  rw [show (Int32.ofNat 3 : Int32) = 3 from rfl]
  refine h_ist_4 C dX8_checksum_90 ct_r ?_
  refine h_iconst (v := 0) C dX8_checksum_92 (by decide) ?_
  refine h_ist_5 C dX8_checksum_93 ct_i ?_
  exact kk _ _ _ _ _

set_option maxRecDepth 100000 in
set_option maxHeartbeats 4000000 in
theorem lp_ck20 {Z : Zx} {rc rs : Nat} {P : Nat → Nat} {S : Sx} {μ : Mem} (hC : CRep Z.G P S μ)  (C : Cx Z RX8 cX8_checksum 4 rc rs 89) {k n mc ms : Nat} (hk : k ≤ mc) (hn : n ≤ ms) (hk2 : k ≤ rc) (hn2 : n ≤ rs) {u : Int64} (kk : ∀ (v : Int64) (z6 z7 z8 z9 z10 : Option Value), v = CKb S 0 u → HW Z k n 95 [some (.ref (P 0)), some (.long v), none, some (.ref (P 1)), some (.int 3), some (.int 1), z6, z7, z8, z9, z10] [] μ) : ∀ z6 z7 z8 z9 z10 : Option Value, HW Z k n 95 [some (.ref (P 0)), some (.long u), none, some (.ref (P 1)), some (.int 3), some (.int 0), z6, z7, z8, z9, z10] [] μ := by
  intro z6 z7 z8 z9 z10
  refine h_iload_w C dX8_checksum_95 rfl ?_
  refine h_iload_w C dX8_checksum_97 rfl ?_
  refine h_icmp_ge (tgt := 170) C dX8_checksum_99 (by decide) (fun c1 => absurd c1 (by decide)) (fun c1 => ?_)
  refine h_al_g C dX8_checksum_102 rfl rfl rfv_r ?_
  refine h_iload_w C dX8_checksum_103 rfl ?_
  refine h_aald (r := some _) C dX8_checksum_105 ⟨by rw [CRep.kEA hC]; decide, by rw [CRep.kEA hC]; decide⟩ (by rw [CRep.lnE hC]; exact vp_in_nI (show 0 < 3 by decide) (by decide)) (CRep.eE hC (e := 0) (by decide)) ?_
  refine h_ast_6 C dX8_checksum_106 ct_i rfv_r ?_
  refine h_al_w (j := 0) C dX8_checksum_108 rfl rfv_r ?_
  refine gs_X8_285 C dX8_checksum_110 (CRep.kE hC (e := 0) (by decide)) (CRep.f34 hC (e := 0) (by decide)) ?_
  refine h_ast_7 C dX8_checksum_113 ct_r rfv_r ?_
  refine h_al_w (j := 0) C dX8_checksum_115 rfl rfv_r ?_
  refine h_alen C dX8_checksum_117 (⟨by rw [CRep.kLA hC (e := 0) (by decide)]; decide, by rw [CRep.kLA hC (e := 0) (by decide)]; decide⟩) (CRep.lnL hC (e := 0) (by decide)) ?_
  rw [show (Int32.ofNat 3 : Int32) = 3 from rfl]
  refine h_ist_8 C dX8_checksum_118 ct_r ?_
  refine h_iconst (v := 0) C dX8_checksum_120 (by decide) ?_
  refine h_ist_9 C dX8_checksum_121 ct_i ?_
  refine h_iload_w C dX8_checksum_123 rfl ?_
  refine h_iload_w C dX8_checksum_125 rfl ?_
  refine h_icmp_ge (tgt := 164) C dX8_checksum_127 (by decide) (fun c2 => absurd c2 (by decide)) (fun c2 => ?_)
  refine h_al_w (j := 0) C dX8_checksum_130 rfl rfv_r ?_
  refine h_iload_w C dX8_checksum_132 rfl ?_
  refine h_aald (r := some _) C dX8_checksum_134 (⟨by rw [CRep.kLA hC (e := 0) (by decide)]; decide, by rw [CRep.kLA hC (e := 0) (by decide)]; decide⟩) (by rw [CRep.lnL hC (e := 0) (by decide)]; exact vp_in_nI (show 0 < 3 by decide) (by decide)) (CRep.eL hC (a := 0) (b := 0) (by decide) (by decide)) ?_
  refine h_ast_10 C dX8_checksum_135 ct_i rfv_r ?_
  refine h_al_w (j := 0) C dX8_checksum_137 rfl rfv_r ?_
  refine gf_X8_129 C dX8_checksum_139 (CRep.kL hC (a := 0) (b := 0) (by decide) (by decide)) (CRep.f128 hC (a := 0) (b := 0) (by decide) (by decide)) ?_
  refine h_al_w (j := 0) C dX8_checksum_142 rfl rfv_r ?_
  refine gf_X8_319 C dX8_checksum_144 (CRep.kE hC (e := 0) (by decide)) (CRep.f32 hC (e := 0) (by decide)) ?_
  refine h_icmp_eq (tgt := 158) C dX8_checksum_147 (by decide) (fun c3 => ?_) (fun c3 => absurd (rfl) c3)
  refine h_iinc_9 (q := 1) C dX8_checksum_158 (by decide) ct_i ?_
  rw [show (0 + 1 : Int32) = 1 from by decide]
  refine h_goto (tgt := 123) C dX8_checksum_161 (by decide) ?_
  refine h_iload_w C dX8_checksum_123 rfl ?_
  refine h_iload_w C dX8_checksum_125 rfl ?_
  refine h_icmp_ge (tgt := 164) C dX8_checksum_127 (by decide) (fun c4 => absurd c4 (by decide)) (fun c4 => ?_)
  refine h_al_w (j := 0) C dX8_checksum_130 rfl rfv_r ?_
  refine h_iload_w C dX8_checksum_132 rfl ?_
  refine h_aald (r := some _) C dX8_checksum_134 (⟨by rw [CRep.kLA hC (e := 0) (by decide)]; decide, by rw [CRep.kLA hC (e := 0) (by decide)]; decide⟩) (by rw [CRep.lnL hC (e := 0) (by decide)]; exact vp_in_nI (show 1 < 3 by decide) (by decide)) (CRep.eL hC (a := 0) (b := 1) (by decide) (by decide)) ?_
  refine h_ast_10 C dX8_checksum_135 ct_i rfv_r ?_
  refine h_al_w (j := 0) C dX8_checksum_137 rfl rfv_r ?_
  refine gf_X8_129 C dX8_checksum_139 (CRep.kL hC (a := 0) (b := 1) (by decide) (by decide)) (CRep.f128 hC (a := 0) (b := 1) (by decide) (by decide)) ?_
  refine h_al_w (j := 0) C dX8_checksum_142 rfl rfv_r ?_
  refine gf_X8_319 C dX8_checksum_144 (CRep.kE hC (e := 0) (by decide)) (CRep.f32 hC (e := 0) (by decide)) ?_
  refine h_icmp_eq (tgt := 158) C dX8_checksum_147 (by decide) (fun c5 => absurd c5 ((by decide))) (fun c5 => ?_)
  refine h_al_g C dX8_checksum_150 rfl rfl rfv_r ?_
  refine h_lload_g C dX8_checksum_151 rfl rfl ?_
  refine h_al_w (j := 0) C dX8_checksum_152 rfl rfv_r ?_
  refine h_callV2 (ci := 8) C (k_X8_sumWithLink Z.l Z.G P S _ hC 0 1 (by decide) (by decide) _) cw_X8_322 im_X8_sumWithLink sl_X8_sumWithLink rfl (by decide) (CRep.kX hC) dX8_checksum_154 (by first | decide | exact Nat.le_of_ble_eq_true rfl) (by decide) (by decide) (by omega) (by omega) (kL fun r1 μ1 hp1 => ?_) kN
  obtain ⟨rfl, rfl⟩ := hp1
  refine h_lst_1 C dX8_checksum_157 ct_r ?_
  refine h_iinc_9 (q := 1) C dX8_checksum_158 (by decide) ct_i ?_
  rw [show (1 + 1 : Int32) = 2 from by decide]
  refine h_goto (tgt := 123) C dX8_checksum_161 (by decide) ?_
  refine h_iload_w C dX8_checksum_123 rfl ?_
  refine h_iload_w C dX8_checksum_125 rfl ?_
  refine h_icmp_ge (tgt := 164) C dX8_checksum_127 (by decide) (fun c6 => absurd c6 (by decide)) (fun c6 => ?_)
  refine h_al_w (j := 0) C dX8_checksum_130 rfl rfv_r ?_
  refine h_iload_w C dX8_checksum_132 rfl ?_
  refine h_aald (r := some _) C dX8_checksum_134 (⟨by rw [CRep.kLA hC (e := 0) (by decide)]; decide, by rw [CRep.kLA hC (e := 0) (by decide)]; decide⟩) (by rw [CRep.lnL hC (e := 0) (by decide)]; exact vp_in_nI (show 2 < 3 by decide) (by decide)) (CRep.eL hC (a := 0) (b := 2) (by decide) (by decide)) ?_
  refine h_ast_10 C dX8_checksum_135 ct_i rfv_r ?_
  refine h_al_w (j := 0) C dX8_checksum_137 rfl rfv_r ?_
  refine gf_X8_129 C dX8_checksum_139 (CRep.kL hC (a := 0) (b := 2) (by decide) (by decide)) (CRep.f128 hC (a := 0) (b := 2) (by decide) (by decide)) ?_
  refine h_al_w (j := 0) C dX8_checksum_142 rfl rfv_r ?_
  refine gf_X8_319 C dX8_checksum_144 (CRep.kE hC (e := 0) (by decide)) (CRep.f32 hC (e := 0) (by decide)) ?_
  refine h_icmp_eq (tgt := 158) C dX8_checksum_147 (by decide) (fun c7 => absurd c7 ((by decide))) (fun c7 => ?_)
  refine h_al_g C dX8_checksum_150 rfl rfl rfv_r ?_
  refine h_lload_g C dX8_checksum_151 rfl rfl ?_
  refine h_al_w (j := 0) C dX8_checksum_152 rfl rfv_r ?_
  refine h_callV2 (ci := 8) C (k_X8_sumWithLink Z.l Z.G P S _ hC 0 2 (by decide) (by decide) _) cw_X8_322 im_X8_sumWithLink sl_X8_sumWithLink rfl (by decide) (CRep.kX hC) dX8_checksum_154 (by first | decide | exact Nat.le_of_ble_eq_true rfl) (by decide) (by decide) (by omega) (by omega) (kL fun r2 μ2 hp2 => ?_) kN
  obtain ⟨rfl, rfl⟩ := hp2
  refine h_lst_1 C dX8_checksum_157 ct_r ?_
  refine h_iinc_9 (q := 1) C dX8_checksum_158 (by decide) ct_i ?_
  rw [show (2 + 1 : Int32) = 3 from by decide]
  refine h_goto (tgt := 123) C dX8_checksum_161 (by decide) ?_
  refine h_iload_w C dX8_checksum_123 rfl ?_
  refine h_iload_w C dX8_checksum_125 rfl ?_
  refine h_icmp_ge (tgt := 164) C dX8_checksum_127 (by decide) (fun c8 => ?_) (fun c8 => absurd (by decide) c8)
  refine h_iinc_5 (q := 1) C dX8_checksum_164 (by decide) ct_i ?_
  rw [show (0 + 1 : Int32) = 1 from by decide]
  refine h_goto (tgt := 95) C dX8_checksum_167 (by decide) ?_
  exact kk _ _ _ _ _ _ rfl

set_option maxRecDepth 100000 in
set_option maxHeartbeats 4000000 in
theorem lp_ck21 {Z : Zx} {rc rs : Nat} {P : Nat → Nat} {S : Sx} {μ : Mem} (hC : CRep Z.G P S μ)  (C : Cx Z RX8 cX8_checksum 4 rc rs 89) {k n mc ms : Nat} (hk : k ≤ mc) (hn : n ≤ ms) (hk2 : k ≤ rc) (hn2 : n ≤ rs) {u : Int64} (kk : ∀ (v : Int64) (z6 z7 z8 z9 z10 : Option Value), v = CKb S 1 u → HW Z k n 95 [some (.ref (P 0)), some (.long v), none, some (.ref (P 1)), some (.int 3), some (.int 2), z6, z7, z8, z9, z10] [] μ) : ∀ z6 z7 z8 z9 z10 : Option Value, HW Z k n 95 [some (.ref (P 0)), some (.long u), none, some (.ref (P 1)), some (.int 3), some (.int 1), z6, z7, z8, z9, z10] [] μ := by
  intro z6 z7 z8 z9 z10
  refine h_iload_w C dX8_checksum_95 rfl ?_
  refine h_iload_w C dX8_checksum_97 rfl ?_
  refine h_icmp_ge (tgt := 170) C dX8_checksum_99 (by decide) (fun c1 => absurd c1 (by decide)) (fun c1 => ?_)
  refine h_al_g C dX8_checksum_102 rfl rfl rfv_r ?_
  refine h_iload_w C dX8_checksum_103 rfl ?_
  refine h_aald (r := some _) C dX8_checksum_105 ⟨by rw [CRep.kEA hC]; decide, by rw [CRep.kEA hC]; decide⟩ (by rw [CRep.lnE hC]; exact vp_in_nI (show 1 < 3 by decide) (by decide)) (CRep.eE hC (e := 1) (by decide)) ?_
  refine h_ast_6 C dX8_checksum_106 ct_i rfv_r ?_
  refine h_al_w (j := 0) C dX8_checksum_108 rfl rfv_r ?_
  refine gs_X8_285 C dX8_checksum_110 (CRep.kE hC (e := 1) (by decide)) (CRep.f34 hC (e := 1) (by decide)) ?_
  refine h_ast_7 C dX8_checksum_113 ct_r rfv_r ?_
  refine h_al_w (j := 0) C dX8_checksum_115 rfl rfv_r ?_
  refine h_alen C dX8_checksum_117 (⟨by rw [CRep.kLA hC (e := 1) (by decide)]; decide, by rw [CRep.kLA hC (e := 1) (by decide)]; decide⟩) (CRep.lnL hC (e := 1) (by decide)) ?_
  rw [show (Int32.ofNat 3 : Int32) = 3 from rfl]
  refine h_ist_8 C dX8_checksum_118 ct_r ?_
  refine h_iconst (v := 0) C dX8_checksum_120 (by decide) ?_
  refine h_ist_9 C dX8_checksum_121 ct_i ?_
  refine h_iload_w C dX8_checksum_123 rfl ?_
  refine h_iload_w C dX8_checksum_125 rfl ?_
  refine h_icmp_ge (tgt := 164) C dX8_checksum_127 (by decide) (fun c2 => absurd c2 (by decide)) (fun c2 => ?_)
  refine h_al_w (j := 0) C dX8_checksum_130 rfl rfv_r ?_
  refine h_iload_w C dX8_checksum_132 rfl ?_
  refine h_aald (r := some _) C dX8_checksum_134 (⟨by rw [CRep.kLA hC (e := 1) (by decide)]; decide, by rw [CRep.kLA hC (e := 1) (by decide)]; decide⟩) (by rw [CRep.lnL hC (e := 1) (by decide)]; exact vp_in_nI (show 0 < 3 by decide) (by decide)) (CRep.eL hC (a := 1) (b := 0) (by decide) (by decide)) ?_
  refine h_ast_10 C dX8_checksum_135 ct_i rfv_r ?_
  refine h_al_w (j := 0) C dX8_checksum_137 rfl rfv_r ?_
  refine gf_X8_129 C dX8_checksum_139 (CRep.kL hC (a := 1) (b := 0) (by decide) (by decide)) (CRep.f128 hC (a := 1) (b := 0) (by decide) (by decide)) ?_
  refine h_al_w (j := 0) C dX8_checksum_142 rfl rfv_r ?_
  refine gf_X8_319 C dX8_checksum_144 (CRep.kE hC (e := 1) (by decide)) (CRep.f32 hC (e := 1) (by decide)) ?_
  refine h_icmp_eq (tgt := 158) C dX8_checksum_147 (by decide) (fun c3 => absurd c3 ((by decide))) (fun c3 => ?_)
  refine h_al_g C dX8_checksum_150 rfl rfl rfv_r ?_
  refine h_lload_g C dX8_checksum_151 rfl rfl ?_
  refine h_al_w (j := 0) C dX8_checksum_152 rfl rfv_r ?_
  refine h_callV2 (ci := 8) C (k_X8_sumWithLink Z.l Z.G P S _ hC 1 0 (by decide) (by decide) _) cw_X8_322 im_X8_sumWithLink sl_X8_sumWithLink rfl (by decide) (CRep.kX hC) dX8_checksum_154 (by first | decide | exact Nat.le_of_ble_eq_true rfl) (by decide) (by decide) (by omega) (by omega) (kL fun r1 μ1 hp1 => ?_) kN
  obtain ⟨rfl, rfl⟩ := hp1
  refine h_lst_1 C dX8_checksum_157 ct_r ?_
  refine h_iinc_9 (q := 1) C dX8_checksum_158 (by decide) ct_i ?_
  rw [show (0 + 1 : Int32) = 1 from by decide]
  refine h_goto (tgt := 123) C dX8_checksum_161 (by decide) ?_
  refine h_iload_w C dX8_checksum_123 rfl ?_
  refine h_iload_w C dX8_checksum_125 rfl ?_
  refine h_icmp_ge (tgt := 164) C dX8_checksum_127 (by decide) (fun c4 => absurd c4 (by decide)) (fun c4 => ?_)
  refine h_al_w (j := 0) C dX8_checksum_130 rfl rfv_r ?_
  refine h_iload_w C dX8_checksum_132 rfl ?_
  refine h_aald (r := some _) C dX8_checksum_134 (⟨by rw [CRep.kLA hC (e := 1) (by decide)]; decide, by rw [CRep.kLA hC (e := 1) (by decide)]; decide⟩) (by rw [CRep.lnL hC (e := 1) (by decide)]; exact vp_in_nI (show 1 < 3 by decide) (by decide)) (CRep.eL hC (a := 1) (b := 1) (by decide) (by decide)) ?_
  refine h_ast_10 C dX8_checksum_135 ct_i rfv_r ?_
  refine h_al_w (j := 0) C dX8_checksum_137 rfl rfv_r ?_
  refine gf_X8_129 C dX8_checksum_139 (CRep.kL hC (a := 1) (b := 1) (by decide) (by decide)) (CRep.f128 hC (a := 1) (b := 1) (by decide) (by decide)) ?_
  refine h_al_w (j := 0) C dX8_checksum_142 rfl rfv_r ?_
  refine gf_X8_319 C dX8_checksum_144 (CRep.kE hC (e := 1) (by decide)) (CRep.f32 hC (e := 1) (by decide)) ?_
  refine h_icmp_eq (tgt := 158) C dX8_checksum_147 (by decide) (fun c5 => ?_) (fun c5 => absurd (rfl) c5)
  refine h_iinc_9 (q := 1) C dX8_checksum_158 (by decide) ct_i ?_
  rw [show (1 + 1 : Int32) = 2 from by decide]
  refine h_goto (tgt := 123) C dX8_checksum_161 (by decide) ?_
  refine h_iload_w C dX8_checksum_123 rfl ?_
  refine h_iload_w C dX8_checksum_125 rfl ?_
  refine h_icmp_ge (tgt := 164) C dX8_checksum_127 (by decide) (fun c6 => absurd c6 (by decide)) (fun c6 => ?_)
  refine h_al_w (j := 0) C dX8_checksum_130 rfl rfv_r ?_
  refine h_iload_w C dX8_checksum_132 rfl ?_
  refine h_aald (r := some _) C dX8_checksum_134 (⟨by rw [CRep.kLA hC (e := 1) (by decide)]; decide, by rw [CRep.kLA hC (e := 1) (by decide)]; decide⟩) (by rw [CRep.lnL hC (e := 1) (by decide)]; exact vp_in_nI (show 2 < 3 by decide) (by decide)) (CRep.eL hC (a := 1) (b := 2) (by decide) (by decide)) ?_
  refine h_ast_10 C dX8_checksum_135 ct_i rfv_r ?_
  refine h_al_w (j := 0) C dX8_checksum_137 rfl rfv_r ?_
  refine gf_X8_129 C dX8_checksum_139 (CRep.kL hC (a := 1) (b := 2) (by decide) (by decide)) (CRep.f128 hC (a := 1) (b := 2) (by decide) (by decide)) ?_
  refine h_al_w (j := 0) C dX8_checksum_142 rfl rfv_r ?_
  refine gf_X8_319 C dX8_checksum_144 (CRep.kE hC (e := 1) (by decide)) (CRep.f32 hC (e := 1) (by decide)) ?_
  refine h_icmp_eq (tgt := 158) C dX8_checksum_147 (by decide) (fun c7 => absurd c7 ((by decide))) (fun c7 => ?_)
  refine h_al_g C dX8_checksum_150 rfl rfl rfv_r ?_
  refine h_lload_g C dX8_checksum_151 rfl rfl ?_
  refine h_al_w (j := 0) C dX8_checksum_152 rfl rfv_r ?_
  refine h_callV2 (ci := 8) C (k_X8_sumWithLink Z.l Z.G P S _ hC 1 2 (by decide) (by decide) _) cw_X8_322 im_X8_sumWithLink sl_X8_sumWithLink rfl (by decide) (CRep.kX hC) dX8_checksum_154 (by first | decide | exact Nat.le_of_ble_eq_true rfl) (by decide) (by decide) (by omega) (by omega) (kL fun r2 μ2 hp2 => ?_) kN
  obtain ⟨rfl, rfl⟩ := hp2
  refine h_lst_1 C dX8_checksum_157 ct_r ?_
  refine h_iinc_9 (q := 1) C dX8_checksum_158 (by decide) ct_i ?_
  rw [show (2 + 1 : Int32) = 3 from by decide]
  refine h_goto (tgt := 123) C dX8_checksum_161 (by decide) ?_
  refine h_iload_w C dX8_checksum_123 rfl ?_
  refine h_iload_w C dX8_checksum_125 rfl ?_
  refine h_icmp_ge (tgt := 164) C dX8_checksum_127 (by decide) (fun c8 => ?_) (fun c8 => absurd (by decide) c8)
  refine h_iinc_5 (q := 1) C dX8_checksum_164 (by decide) ct_i ?_
  rw [show (1 + 1 : Int32) = 2 from by decide]
  refine h_goto (tgt := 95) C dX8_checksum_167 (by decide) ?_
  exact kk _ _ _ _ _ _ rfl

set_option maxRecDepth 100000 in
set_option maxHeartbeats 4000000 in
theorem lp_ck22 {Z : Zx} {rc rs : Nat} {P : Nat → Nat} {S : Sx} {μ : Mem} (hC : CRep Z.G P S μ)  (C : Cx Z RX8 cX8_checksum 4 rc rs 89) {k n mc ms : Nat} (hk : k ≤ mc) (hn : n ≤ ms) (hk2 : k ≤ rc) (hn2 : n ≤ rs) {u : Int64} (kk : ∀ (v : Int64) (z6 z7 z8 z9 z10 : Option Value), v = CKb S 2 u → HW Z k n 95 [some (.ref (P 0)), some (.long v), none, some (.ref (P 1)), some (.int 3), some (.int 3), z6, z7, z8, z9, z10] [] μ) : ∀ z6 z7 z8 z9 z10 : Option Value, HW Z k n 95 [some (.ref (P 0)), some (.long u), none, some (.ref (P 1)), some (.int 3), some (.int 2), z6, z7, z8, z9, z10] [] μ := by
  intro z6 z7 z8 z9 z10
  refine h_iload_w C dX8_checksum_95 rfl ?_
  refine h_iload_w C dX8_checksum_97 rfl ?_
  refine h_icmp_ge (tgt := 170) C dX8_checksum_99 (by decide) (fun c1 => absurd c1 (by decide)) (fun c1 => ?_)
  refine h_al_g C dX8_checksum_102 rfl rfl rfv_r ?_
  refine h_iload_w C dX8_checksum_103 rfl ?_
  refine h_aald (r := some _) C dX8_checksum_105 ⟨by rw [CRep.kEA hC]; decide, by rw [CRep.kEA hC]; decide⟩ (by rw [CRep.lnE hC]; exact vp_in_nI (show 2 < 3 by decide) (by decide)) (CRep.eE hC (e := 2) (by decide)) ?_
  refine h_ast_6 C dX8_checksum_106 ct_i rfv_r ?_
  refine h_al_w (j := 0) C dX8_checksum_108 rfl rfv_r ?_
  refine gs_X8_285 C dX8_checksum_110 (CRep.kE hC (e := 2) (by decide)) (CRep.f34 hC (e := 2) (by decide)) ?_
  refine h_ast_7 C dX8_checksum_113 ct_r rfv_r ?_
  refine h_al_w (j := 0) C dX8_checksum_115 rfl rfv_r ?_
  refine h_alen C dX8_checksum_117 (⟨by rw [CRep.kLA hC (e := 2) (by decide)]; decide, by rw [CRep.kLA hC (e := 2) (by decide)]; decide⟩) (CRep.lnL hC (e := 2) (by decide)) ?_
  rw [show (Int32.ofNat 3 : Int32) = 3 from rfl]
  refine h_ist_8 C dX8_checksum_118 ct_r ?_
  refine h_iconst (v := 0) C dX8_checksum_120 (by decide) ?_
  refine h_ist_9 C dX8_checksum_121 ct_i ?_
  refine h_iload_w C dX8_checksum_123 rfl ?_
  refine h_iload_w C dX8_checksum_125 rfl ?_
  refine h_icmp_ge (tgt := 164) C dX8_checksum_127 (by decide) (fun c2 => absurd c2 (by decide)) (fun c2 => ?_)
  refine h_al_w (j := 0) C dX8_checksum_130 rfl rfv_r ?_
  refine h_iload_w C dX8_checksum_132 rfl ?_
  refine h_aald (r := some _) C dX8_checksum_134 (⟨by rw [CRep.kLA hC (e := 2) (by decide)]; decide, by rw [CRep.kLA hC (e := 2) (by decide)]; decide⟩) (by rw [CRep.lnL hC (e := 2) (by decide)]; exact vp_in_nI (show 0 < 3 by decide) (by decide)) (CRep.eL hC (a := 2) (b := 0) (by decide) (by decide)) ?_
  refine h_ast_10 C dX8_checksum_135 ct_i rfv_r ?_
  refine h_al_w (j := 0) C dX8_checksum_137 rfl rfv_r ?_
  refine gf_X8_129 C dX8_checksum_139 (CRep.kL hC (a := 2) (b := 0) (by decide) (by decide)) (CRep.f128 hC (a := 2) (b := 0) (by decide) (by decide)) ?_
  refine h_al_w (j := 0) C dX8_checksum_142 rfl rfv_r ?_
  refine gf_X8_319 C dX8_checksum_144 (CRep.kE hC (e := 2) (by decide)) (CRep.f32 hC (e := 2) (by decide)) ?_
  refine h_icmp_eq (tgt := 158) C dX8_checksum_147 (by decide) (fun c3 => absurd c3 ((by decide))) (fun c3 => ?_)
  refine h_al_g C dX8_checksum_150 rfl rfl rfv_r ?_
  refine h_lload_g C dX8_checksum_151 rfl rfl ?_
  refine h_al_w (j := 0) C dX8_checksum_152 rfl rfv_r ?_
  refine h_callV2 (ci := 8) C (k_X8_sumWithLink Z.l Z.G P S _ hC 2 0 (by decide) (by decide) _) cw_X8_322 im_X8_sumWithLink sl_X8_sumWithLink rfl (by decide) (CRep.kX hC) dX8_checksum_154 (by first | decide | exact Nat.le_of_ble_eq_true rfl) (by decide) (by decide) (by omega) (by omega) (kL fun r1 μ1 hp1 => ?_) kN
  obtain ⟨rfl, rfl⟩ := hp1
  refine h_lst_1 C dX8_checksum_157 ct_r ?_
  refine h_iinc_9 (q := 1) C dX8_checksum_158 (by decide) ct_i ?_
  rw [show (0 + 1 : Int32) = 1 from by decide]
  refine h_goto (tgt := 123) C dX8_checksum_161 (by decide) ?_
  refine h_iload_w C dX8_checksum_123 rfl ?_
  refine h_iload_w C dX8_checksum_125 rfl ?_
  refine h_icmp_ge (tgt := 164) C dX8_checksum_127 (by decide) (fun c4 => absurd c4 (by decide)) (fun c4 => ?_)
  refine h_al_w (j := 0) C dX8_checksum_130 rfl rfv_r ?_
  refine h_iload_w C dX8_checksum_132 rfl ?_
  refine h_aald (r := some _) C dX8_checksum_134 (⟨by rw [CRep.kLA hC (e := 2) (by decide)]; decide, by rw [CRep.kLA hC (e := 2) (by decide)]; decide⟩) (by rw [CRep.lnL hC (e := 2) (by decide)]; exact vp_in_nI (show 1 < 3 by decide) (by decide)) (CRep.eL hC (a := 2) (b := 1) (by decide) (by decide)) ?_
  refine h_ast_10 C dX8_checksum_135 ct_i rfv_r ?_
  refine h_al_w (j := 0) C dX8_checksum_137 rfl rfv_r ?_
  refine gf_X8_129 C dX8_checksum_139 (CRep.kL hC (a := 2) (b := 1) (by decide) (by decide)) (CRep.f128 hC (a := 2) (b := 1) (by decide) (by decide)) ?_
  refine h_al_w (j := 0) C dX8_checksum_142 rfl rfv_r ?_
  refine gf_X8_319 C dX8_checksum_144 (CRep.kE hC (e := 2) (by decide)) (CRep.f32 hC (e := 2) (by decide)) ?_
  refine h_icmp_eq (tgt := 158) C dX8_checksum_147 (by decide) (fun c5 => absurd c5 ((by decide))) (fun c5 => ?_)
  refine h_al_g C dX8_checksum_150 rfl rfl rfv_r ?_
  refine h_lload_g C dX8_checksum_151 rfl rfl ?_
  refine h_al_w (j := 0) C dX8_checksum_152 rfl rfv_r ?_
  refine h_callV2 (ci := 8) C (k_X8_sumWithLink Z.l Z.G P S _ hC 2 1 (by decide) (by decide) _) cw_X8_322 im_X8_sumWithLink sl_X8_sumWithLink rfl (by decide) (CRep.kX hC) dX8_checksum_154 (by first | decide | exact Nat.le_of_ble_eq_true rfl) (by decide) (by decide) (by omega) (by omega) (kL fun r2 μ2 hp2 => ?_) kN
  obtain ⟨rfl, rfl⟩ := hp2
  refine h_lst_1 C dX8_checksum_157 ct_r ?_
  refine h_iinc_9 (q := 1) C dX8_checksum_158 (by decide) ct_i ?_
  rw [show (1 + 1 : Int32) = 2 from by decide]
  refine h_goto (tgt := 123) C dX8_checksum_161 (by decide) ?_
  refine h_iload_w C dX8_checksum_123 rfl ?_
  refine h_iload_w C dX8_checksum_125 rfl ?_
  refine h_icmp_ge (tgt := 164) C dX8_checksum_127 (by decide) (fun c6 => absurd c6 (by decide)) (fun c6 => ?_)
  refine h_al_w (j := 0) C dX8_checksum_130 rfl rfv_r ?_
  refine h_iload_w C dX8_checksum_132 rfl ?_
  refine h_aald (r := some _) C dX8_checksum_134 (⟨by rw [CRep.kLA hC (e := 2) (by decide)]; decide, by rw [CRep.kLA hC (e := 2) (by decide)]; decide⟩) (by rw [CRep.lnL hC (e := 2) (by decide)]; exact vp_in_nI (show 2 < 3 by decide) (by decide)) (CRep.eL hC (a := 2) (b := 2) (by decide) (by decide)) ?_
  refine h_ast_10 C dX8_checksum_135 ct_i rfv_r ?_
  refine h_al_w (j := 0) C dX8_checksum_137 rfl rfv_r ?_
  refine gf_X8_129 C dX8_checksum_139 (CRep.kL hC (a := 2) (b := 2) (by decide) (by decide)) (CRep.f128 hC (a := 2) (b := 2) (by decide) (by decide)) ?_
  refine h_al_w (j := 0) C dX8_checksum_142 rfl rfv_r ?_
  refine gf_X8_319 C dX8_checksum_144 (CRep.kE hC (e := 2) (by decide)) (CRep.f32 hC (e := 2) (by decide)) ?_
  refine h_icmp_eq (tgt := 158) C dX8_checksum_147 (by decide) (fun c7 => ?_) (fun c7 => absurd (rfl) c7)
  refine h_iinc_9 (q := 1) C dX8_checksum_158 (by decide) ct_i ?_
  rw [show (2 + 1 : Int32) = 3 from by decide]
  refine h_goto (tgt := 123) C dX8_checksum_161 (by decide) ?_
  refine h_iload_w C dX8_checksum_123 rfl ?_
  refine h_iload_w C dX8_checksum_125 rfl ?_
  refine h_icmp_ge (tgt := 164) C dX8_checksum_127 (by decide) (fun c8 => ?_) (fun c8 => absurd (by decide) c8)
  refine h_iinc_5 (q := 1) C dX8_checksum_164 (by decide) ct_i ?_
  rw [show (2 + 1 : Int32) = 3 from by decide]
  refine h_goto (tgt := 95) C dX8_checksum_167 (by decide) ?_
  exact kk _ _ _ _ _ _ rfl

set_option maxRecDepth 100000 in
set_option maxHeartbeats 4000000 in
theorem lp_ck23 {Z : Zx} {rc rs : Nat} {P : Nat → Nat} {S : Sx} {μ : Mem} (hC : CRep Z.G P S μ)  (C : Cx Z RX8 cX8_checksum 4 rc rs 89) {k n mc ms : Nat} (hk : k ≤ mc) (hn : n ≤ ms) (hk2 : k ≤ rc) (hn2 : n ≤ rs) {u : Int64} (kk : ∀ (z6 z7 z8 z9 z10 : Option Value), HW Z k n 182 [some (.ref (P 0)), some (.long u), none, some (.ref (P 1)), some (.int 3), some (.int 0), z6, z7, z8, z9, z10] [] μ) : ∀ z6 z7 z8 z9 z10 : Option Value, HW Z k n 95 [some (.ref (P 0)), some (.long u), none, some (.ref (P 1)), some (.int 3), some (.int 3), z6, z7, z8, z9, z10] [] μ := by
  intro z6 z7 z8 z9 z10
  refine h_iload_w C dX8_checksum_95 rfl ?_
  refine h_iload_w C dX8_checksum_97 rfl ?_
  refine h_icmp_ge (tgt := 170) C dX8_checksum_99 (by decide) (fun c1 => ?_) (fun c1 => absurd (by decide) c1)
  refine h_al_g C dX8_checksum_170 rfl rfl rfv_r ?_
  refine gs_X8_11 C dX8_checksum_171 (CRep.kX hC) (CRep.f256 hC) ?_
  refine h_ast_3 C dX8_checksum_174 ct_n rfv_r ?_
  refine h_al_g C dX8_checksum_175 rfl rfl rfv_r ?_
  refine h_alen C dX8_checksum_176 (⟨by rw [CRep.kEA hC]; decide, by rw [CRep.kEA hC]; decide⟩) (CRep.lnE hC) ?_
  rw [show (Int32.ofNat 3 : Int32) = 3 from rfl]
  refine h_ist_4 C dX8_checksum_177 ct_r ?_
  refine h_iconst (v := 0) C dX8_checksum_179 (by decide) ?_
  refine h_ist_5 C dX8_checksum_180 ct_i ?_
  exact kk _ _ _ _ _

set_option maxRecDepth 100000 in
set_option maxHeartbeats 4000000 in
theorem lp_ck3 {Z : Zx} {rc rs : Nat} {P : Nat → Nat} {S : Sx} {μ : Mem} (hC : CRep Z.G P S μ) {a : Nat} (ha : a < 3) (C : Cx Z RX8 cX8_checksum 4 rc rs 89) {k n mc ms : Nat} (hk : k ≤ mc) (hn : n ≤ ms) (hk2 : k ≤ rc) (hn2 : n ≤ rs) {u : Int64} (kk : ∀ (v : Int64) (z6 z7 z8 z9 z10 : Option Value), v = SOU S a u → HW Z k n 182 [some (.ref (P 0)), some (.long v), none, some (.ref (P 1)), some (.int 3), some (.int (nI (a + 1))), z6, z7, z8, z9, z10] [] μ) : ∀ z6 z7 z8 z9 z10 : Option Value, HW Z k n 182 [some (.ref (P 0)), some (.long u), none, some (.ref (P 1)), some (.int 3), some (.int (nI a)), z6, z7, z8, z9, z10] [] μ := by
  intro z6 z7 z8 z9 z10
  refine h_iload_w C dX8_checksum_182 rfl ?_
  refine h_iload_w C dX8_checksum_184 rfl ?_
  refine h_icmp_ge (tgt := 208) C dX8_checksum_186 (by decide) (fun c1 => absurd c1 ((by exact nI_ge (a := a) (b := 3) (by omega) (by decide)))) (fun c1 => ?_)
  refine h_al_g C dX8_checksum_189 rfl rfl rfv_r ?_
  refine h_iload_w C dX8_checksum_190 rfl ?_
  refine h_aald (r := some _) C dX8_checksum_192 ⟨by rw [CRep.kEA hC]; decide, by rw [CRep.kEA hC]; decide⟩ (by rw [CRep.lnE hC]; exact vp_in_nI ha (by decide)) (by rw [nI_clamp (by omega)]; exact CRep.eE hC ha) ?_
  refine h_ast_6 C dX8_checksum_193 ct_i rfv_r ?_
  refine h_lload_g C dX8_checksum_195 rfl rfl ?_
  refine h_al_w (j := 0) C dX8_checksum_196 rfl rfv_r ?_
  refine h_callS2 C (k_X8_sumWithOuts Z.l Z.G P S _ hC _ ha _) cw_X8_326 st_X8_sumWithOuts dX8_checksum_198 (by first | decide | exact Nat.le_of_ble_eq_true rfl) (by decide) (by decide) (by omega) (by omega) (kL fun r1 μ1 hp1 => ?_) kN
  obtain ⟨rfl, rfl⟩ := hp1
  refine h_lst_1 C dX8_checksum_201 ct_r ?_
  refine h_iinc_5 (q := 1) C dX8_checksum_202 (by decide) ct_i ?_
  refine h_goto (tgt := 182) C dX8_checksum_205 (by decide) ?_
  rw [nI_1]
  exact kk _ _ _ _ _ _ rfl

set_option maxRecDepth 100000 in
set_option maxHeartbeats 4000000 in
theorem lp_ck34 {Z : Zx} {rc rs : Nat} {P : Nat → Nat} {S : Sx} {μ : Mem} (hC : CRep Z.G P S μ)  (C : Cx Z RX8 cX8_checksum 4 rc rs 89) {k n mc ms : Nat} (hk : k ≤ mc) (hn : n ≤ ms) (hk2 : k ≤ rc) (hn2 : n ≤ rs) {u : Int64} (kk : ∀ (z4 z5 z6 z7 z8 z9 z10 : Option Value), HW Z k n 210 [some (.ref (P 0)), some (.long u), none, some (.int 0), z4, z5, z6, z7, z8, z9, z10] [] μ) : ∀ z6 z7 z8 z9 z10 : Option Value, HW Z k n 182 [some (.ref (P 0)), some (.long u), none, some (.ref (P 1)), some (.int 3), some (.int (nI 3)), z6, z7, z8, z9, z10] [] μ := by
  intro z6 z7 z8 z9 z10
  refine h_iload_w C dX8_checksum_182 rfl ?_
  refine h_iload_w C dX8_checksum_184 rfl ?_
  refine h_icmp_ge (tgt := 208) C dX8_checksum_186 (by decide) (fun c1 => ?_) (fun c1 => absurd ((by decide)) c1)
  refine h_iconst (v := 0) C dX8_checksum_208 (by decide) ?_
  refine h_ist_3 C dX8_checksum_209 ct_n ?_
  exact kk _ _ _ _ _ _ _

set_option maxRecDepth 100000 in
set_option maxHeartbeats 4000000 in
theorem lp_ck4 {Z : Zx} {rc rs : Nat} {P : Nat → Nat} {S : Sx} {μ : Mem} (hC : CRep Z.G P S μ) (C : Cx Z RX8 cX8_checksum 4 rc rs 89) {k n mc ms : Nat} (hk : k ≤ mc) (hn : n ≤ ms) (hk2 : k ≤ rc) (hn2 : n ≤ rs) {z4 z5 z6 z7 z8 z9 z10 : Option Value} {xs : List Nat} (hx : ListAt Z.G μ (P 2) xs) (hR : LR (LeAt μ KLET) xs S.nt) : ∀ (m j : Nat) (u : Int64), j + m = xs.length → (∀ v, v = SNs u (S.nt.drop j) → HW Z k n 243 [some (.ref (P 0)), some (.long v), none, some (.int (nI xs.length)), z4, z5, z6, z7, z8, z9, z10] [] μ) → HW Z k n 210 [some (.ref (P 0)), some (.long u), none, some (.int (nI j)), z4, z5, z6, z7, z8, z9, z10] [] μ := by
  have hlen := hR.1
  have hmx := hx.2.1
  have hkk : KLET % 32 = 4 := by decide
  intro m
  induction m with
  | zero =>
    intro j u hj hP
    have hjx : j = xs.length := by omega
    subst hjx
    refine h_iload_g C dX8_checksum_210 rfl rfl ?_
    refine h_al_g C dX8_checksum_211 rfl rfl rfv_r ?_
    refine gs_X8_18 C dX8_checksum_212 (CRep.kX hC) (CRep.f257 hC) ?_
    refine h_callV0 (ci := 0) (a_ := .null) C (k_Jx4a65c_size_8abf5 Z.l Z.G _ xs _ hx) cw_X8_86 im_Jx4a65c_size_8abf5 sl_Jx4a65c_size_8abf5 rfl (by decide) hx.1 dX8_checksum_215 (by first | decide | exact Nat.le_of_ble_eq_true rfl) (by decide) (by decide) (by omega) (by omega) (kI fun r1 μ1 hp1 => ?_) kN
    obtain ⟨rfl, rfl⟩ := hp1
    refine h_icmp_ge (tgt := 243) C dX8_checksum_218 (by decide) (fun c1 => ?_) (fun c1 => absurd ((nI_le (by omega) (by omega))) c1)
    exact hP _ (by rw [List.drop_eq_nil_of_le (by omega)]; rfl)
  | succ m ih =>
    intro j u hj hP
    have hjl : j < xs.length := by omega
    have hi : xs[j]? = some xs[j] := List.getElem?_eq_getElem hjl
    have hjo : j < S.nt.length := by omega
    have hir : S.nt[j]? = some S.nt[j] := List.getElem?_eq_getElem hjo
    have hpr := hR.2 j _ _ hi hir
    have hdr : S.nt.drop j = S.nt[j] :: S.nt.drop (j + 1) := List.drop_eq_getElem_cons hjo
    refine h_iload_g C dX8_checksum_210 rfl rfl ?_
    refine h_al_g C dX8_checksum_211 rfl rfl rfv_r ?_
    refine gs_X8_18 C dX8_checksum_212 (CRep.kX hC) (CRep.f257 hC) ?_
    refine h_callV0 (ci := 0) (a_ := .null) C (k_Jx4a65c_size_8abf5 Z.l Z.G _ xs _ hx) cw_X8_86 im_Jx4a65c_size_8abf5 sl_Jx4a65c_size_8abf5 rfl (by decide) hx.1 dX8_checksum_215 (by first | decide | exact Nat.le_of_ble_eq_true rfl) (by decide) (by decide) (by omega) (by omega) (kI fun r1 μ1 hp1 => ?_) kN
    obtain ⟨rfl, rfl⟩ := hp1
    refine h_icmp_ge (tgt := 243) C dX8_checksum_218 (by decide) (fun c1 => absurd c1 ((nI_ge (by omega) (by omega)))) (fun c1 => ?_)
    refine h_lload_g C dX8_checksum_221 rfl rfl ?_
    refine h_al_g C dX8_checksum_222 rfl rfl rfv_r ?_
    refine gs_X8_18 C dX8_checksum_223 (CRep.kX hC) (CRep.f257 hC) ?_
    refine h_iload_g C dX8_checksum_226 rfl rfl ?_
    refine h_callV1 (ci := 0) C (k_Jx4a65c_get_915e3 Z.l Z.G _ xs _ j _ _ hx rfl hi) cw_X8_92 im_Jx4a65c_get_915e3 sl_Jx4a65c_get_915e3 rfl (by decide) hx.1 dX8_checksum_227 (by first | decide | exact Nat.le_of_ble_eq_true rfl) (by decide) (by decide) (by omega) (by omega) (kA fun r2 μ2 hp2 => ?_) kN
    obtain ⟨rfl, rfl⟩ := hp2
    refine h_castO (ci := 3) C kl_X8_166 rfl (by decide) dX8_checksum_230 (LeAt.k hpr hkk) ?_
    refine h_callS2 C (k_X8_sumWithLetter Z.l Z.G _ KLET _ _ hpr hkk _) cw_X8_330 st_X8_sumWithLetter dX8_checksum_233 (by first | decide | exact Nat.le_of_ble_eq_true rfl) (by decide) (by decide) (by omega) (by omega) (kL fun r3 μ3 hp3 => ?_) kN
    obtain ⟨rfl, rfl⟩ := hp3
    refine h_lst_1 C dX8_checksum_236 ct_r ?_
    refine h_iinc_3 (q := 1) C dX8_checksum_237 (by decide) ct_n ?_
    refine h_goto (tgt := 210) C dX8_checksum_240 (by decide) ?_
    rw [nI_1]
    exact ih (j + 1) _ (by omega) (fun v hv => hP v (by rw [hdr]; exact hv))

set_option maxRecDepth 100000 in
set_option maxHeartbeats 4000000 in
theorem lp_ck5 {Z : Zx} {rc rs : Nat} {P : Nat → Nat} {S : Sx} {μ : Mem} (hC : CRep Z.G P S μ) (C : Cx Z RX8 cX8_checksum 4 rc rs 89) {mc ms : Nat} {Post : Option Value → Mem → Prop} {PostX : String → Mem → Prop} (E : Rt Z mc ms (some .long) Post PostX) {k n : Nat} (hk : k ≤ mc) (hn : n ≤ ms) (hk2 : k ≤ rc) (hn2 : n ≤ rs) {z4 z5 z6 z7 z8 z9 z10 : Option Value} {x : Int32} (hP : ∀ v, (pL fun v μ' => μ = μ' ∧ v = CHK S) v μ → Post v μ) {u : Int64} (hu : u = SNs (SOU S 2 (SOU S 1 (SOU S 0 (CKb S 2 (CKb S 1 (CKb S 0 (CKa S 2 (CKa S 1 (CKa S 0 (ADV 31 (S.sc 0))))))))))) S.nt) : HW Z k n 243 [some (.ref (P 0)), some (.long u), none, some (.int x), z4, z5, z6, z7, z8, z9, z10] [] μ := by
  refine h_al_g C dX8_checksum_243 rfl rfl rfv_r ?_
  refine gs_X8_22 C dX8_checksum_244 (CRep.kX hC) (CRep.f258 hC) ?_
  refine h_ast_3 C dX8_checksum_247 ct_n rfv_r ?_
  refine h_al_g C dX8_checksum_248 rfl rfl rfv_r ?_
  refine h_alen C dX8_checksum_249 ⟨by rw [CRep.kTL hC]; decide, by rw [CRep.kTL hC]; decide⟩ (CRep.lnT hC) ?_
  rw [show (Int32.ofNat 11 : Int32) = 11 from rfl]
  refine h_ist_4 C dX8_checksum_250 ct_r ?_
  refine h_iconst (v := 0) C dX8_checksum_252 (by decide) ?_
  refine h_ist_5 C dX8_checksum_253 ct_i ?_
  refine h_iload_w C dX8_checksum_255 rfl ?_
  refine h_iload_w C dX8_checksum_257 rfl ?_
  refine h_icmp_ge (tgt := 281) C dX8_checksum_259 (by decide) (fun c1 => absurd c1 (by decide)) (fun c1 => ?_)
  refine h_al_g C dX8_checksum_262 rfl rfl rfv_r ?_
  refine h_iload_w C dX8_checksum_263 rfl ?_
  refine h_iald C dX8_checksum_265 (CRep.kTL hC) (by rw [CRep.lnT hC]; exact vp_in_nI (show 0 < 11 by decide) (by decide)) (CRep.eT hC (i := 0) (by decide)) ?_
  refine h_ist_6 C dX8_checksum_266 ct_i ?_
  refine h_lload_g C dX8_checksum_268 rfl rfl ?_
  refine h_iload_w C dX8_checksum_269 rfl ?_
  refine h_callS2 C (k_X4_added Z.l Z.G _ _ _) cw_X8_315 st_X4_added dX8_checksum_271 (by first | decide | exact Nat.le_of_ble_eq_true rfl) (by decide) (by decide) (by omega) (by omega) (kL fun r1 μ1 hp1 => ?_) kN
  obtain ⟨rfl, rfl⟩ := hp1
  refine h_lst_1 C dX8_checksum_274 ct_r ?_
  refine h_iinc_5 (q := 1) C dX8_checksum_275 (by decide) ct_i ?_
  rw [show (0 + 1 : Int32) = 1 from by decide]
  refine h_goto (tgt := 255) C dX8_checksum_278 (by decide) ?_
  refine h_iload_w C dX8_checksum_255 rfl ?_
  refine h_iload_w C dX8_checksum_257 rfl ?_
  refine h_icmp_ge (tgt := 281) C dX8_checksum_259 (by decide) (fun c2 => absurd c2 (by decide)) (fun c2 => ?_)
  refine h_al_g C dX8_checksum_262 rfl rfl rfv_r ?_
  refine h_iload_w C dX8_checksum_263 rfl ?_
  refine h_iald C dX8_checksum_265 (CRep.kTL hC) (by rw [CRep.lnT hC]; exact vp_in_nI (show 1 < 11 by decide) (by decide)) (CRep.eT hC (i := 1) (by decide)) ?_
  refine h_ist_6 C dX8_checksum_266 ct_i ?_
  refine h_lload_g C dX8_checksum_268 rfl rfl ?_
  refine h_iload_w C dX8_checksum_269 rfl ?_
  refine h_callS2 C (k_X4_added Z.l Z.G _ _ _) cw_X8_315 st_X4_added dX8_checksum_271 (by first | decide | exact Nat.le_of_ble_eq_true rfl) (by decide) (by decide) (by omega) (by omega) (kL fun r2 μ2 hp2 => ?_) kN
  obtain ⟨rfl, rfl⟩ := hp2
  refine h_lst_1 C dX8_checksum_274 ct_r ?_
  refine h_iinc_5 (q := 1) C dX8_checksum_275 (by decide) ct_i ?_
  rw [show (1 + 1 : Int32) = 2 from by decide]
  refine h_goto (tgt := 255) C dX8_checksum_278 (by decide) ?_
  refine h_iload_w C dX8_checksum_255 rfl ?_
  refine h_iload_w C dX8_checksum_257 rfl ?_
  refine h_icmp_ge (tgt := 281) C dX8_checksum_259 (by decide) (fun c3 => absurd c3 (by decide)) (fun c3 => ?_)
  refine h_al_g C dX8_checksum_262 rfl rfl rfv_r ?_
  refine h_iload_w C dX8_checksum_263 rfl ?_
  refine h_iald C dX8_checksum_265 (CRep.kTL hC) (by rw [CRep.lnT hC]; exact vp_in_nI (show 2 < 11 by decide) (by decide)) (CRep.eT hC (i := 2) (by decide)) ?_
  refine h_ist_6 C dX8_checksum_266 ct_i ?_
  refine h_lload_g C dX8_checksum_268 rfl rfl ?_
  refine h_iload_w C dX8_checksum_269 rfl ?_
  refine h_callS2 C (k_X4_added Z.l Z.G _ _ _) cw_X8_315 st_X4_added dX8_checksum_271 (by first | decide | exact Nat.le_of_ble_eq_true rfl) (by decide) (by decide) (by omega) (by omega) (kL fun r3 μ3 hp3 => ?_) kN
  obtain ⟨rfl, rfl⟩ := hp3
  refine h_lst_1 C dX8_checksum_274 ct_r ?_
  refine h_iinc_5 (q := 1) C dX8_checksum_275 (by decide) ct_i ?_
  rw [show (2 + 1 : Int32) = 3 from by decide]
  refine h_goto (tgt := 255) C dX8_checksum_278 (by decide) ?_
  refine h_iload_w C dX8_checksum_255 rfl ?_
  refine h_iload_w C dX8_checksum_257 rfl ?_
  refine h_icmp_ge (tgt := 281) C dX8_checksum_259 (by decide) (fun c4 => absurd c4 (by decide)) (fun c4 => ?_)
  refine h_al_g C dX8_checksum_262 rfl rfl rfv_r ?_
  refine h_iload_w C dX8_checksum_263 rfl ?_
  refine h_iald C dX8_checksum_265 (CRep.kTL hC) (by rw [CRep.lnT hC]; exact vp_in_nI (show 3 < 11 by decide) (by decide)) (CRep.eT hC (i := 3) (by decide)) ?_
  refine h_ist_6 C dX8_checksum_266 ct_i ?_
  refine h_lload_g C dX8_checksum_268 rfl rfl ?_
  refine h_iload_w C dX8_checksum_269 rfl ?_
  refine h_callS2 C (k_X4_added Z.l Z.G _ _ _) cw_X8_315 st_X4_added dX8_checksum_271 (by first | decide | exact Nat.le_of_ble_eq_true rfl) (by decide) (by decide) (by omega) (by omega) (kL fun r4 μ4 hp4 => ?_) kN
  obtain ⟨rfl, rfl⟩ := hp4
  refine h_lst_1 C dX8_checksum_274 ct_r ?_
  refine h_iinc_5 (q := 1) C dX8_checksum_275 (by decide) ct_i ?_
  rw [show (3 + 1 : Int32) = 4 from by decide]
  refine h_goto (tgt := 255) C dX8_checksum_278 (by decide) ?_
  refine h_iload_w C dX8_checksum_255 rfl ?_
  refine h_iload_w C dX8_checksum_257 rfl ?_
  refine h_icmp_ge (tgt := 281) C dX8_checksum_259 (by decide) (fun c5 => absurd c5 (by decide)) (fun c5 => ?_)
  refine h_al_g C dX8_checksum_262 rfl rfl rfv_r ?_
  refine h_iload_w C dX8_checksum_263 rfl ?_
  refine h_iald C dX8_checksum_265 (CRep.kTL hC) (by rw [CRep.lnT hC]; exact vp_in_nI (show 4 < 11 by decide) (by decide)) (CRep.eT hC (i := 4) (by decide)) ?_
  refine h_ist_6 C dX8_checksum_266 ct_i ?_
  refine h_lload_g C dX8_checksum_268 rfl rfl ?_
  refine h_iload_w C dX8_checksum_269 rfl ?_
  refine h_callS2 C (k_X4_added Z.l Z.G _ _ _) cw_X8_315 st_X4_added dX8_checksum_271 (by first | decide | exact Nat.le_of_ble_eq_true rfl) (by decide) (by decide) (by omega) (by omega) (kL fun r5 μ5 hp5 => ?_) kN
  obtain ⟨rfl, rfl⟩ := hp5
  refine h_lst_1 C dX8_checksum_274 ct_r ?_
  refine h_iinc_5 (q := 1) C dX8_checksum_275 (by decide) ct_i ?_
  rw [show (4 + 1 : Int32) = 5 from by decide]
  refine h_goto (tgt := 255) C dX8_checksum_278 (by decide) ?_
  refine h_iload_w C dX8_checksum_255 rfl ?_
  refine h_iload_w C dX8_checksum_257 rfl ?_
  refine h_icmp_ge (tgt := 281) C dX8_checksum_259 (by decide) (fun c6 => absurd c6 (by decide)) (fun c6 => ?_)
  refine h_al_g C dX8_checksum_262 rfl rfl rfv_r ?_
  refine h_iload_w C dX8_checksum_263 rfl ?_
  refine h_iald C dX8_checksum_265 (CRep.kTL hC) (by rw [CRep.lnT hC]; exact vp_in_nI (show 5 < 11 by decide) (by decide)) (CRep.eT hC (i := 5) (by decide)) ?_
  refine h_ist_6 C dX8_checksum_266 ct_i ?_
  refine h_lload_g C dX8_checksum_268 rfl rfl ?_
  refine h_iload_w C dX8_checksum_269 rfl ?_
  refine h_callS2 C (k_X4_added Z.l Z.G _ _ _) cw_X8_315 st_X4_added dX8_checksum_271 (by first | decide | exact Nat.le_of_ble_eq_true rfl) (by decide) (by decide) (by omega) (by omega) (kL fun r6 μ6 hp6 => ?_) kN
  obtain ⟨rfl, rfl⟩ := hp6
  refine h_lst_1 C dX8_checksum_274 ct_r ?_
  refine h_iinc_5 (q := 1) C dX8_checksum_275 (by decide) ct_i ?_
  rw [show (5 + 1 : Int32) = 6 from by decide]
  refine h_goto (tgt := 255) C dX8_checksum_278 (by decide) ?_
  refine h_iload_w C dX8_checksum_255 rfl ?_
  refine h_iload_w C dX8_checksum_257 rfl ?_
  refine h_icmp_ge (tgt := 281) C dX8_checksum_259 (by decide) (fun c7 => absurd c7 (by decide)) (fun c7 => ?_)
  refine h_al_g C dX8_checksum_262 rfl rfl rfv_r ?_
  refine h_iload_w C dX8_checksum_263 rfl ?_
  refine h_iald C dX8_checksum_265 (CRep.kTL hC) (by rw [CRep.lnT hC]; exact vp_in_nI (show 6 < 11 by decide) (by decide)) (CRep.eT hC (i := 6) (by decide)) ?_
  refine h_ist_6 C dX8_checksum_266 ct_i ?_
  refine h_lload_g C dX8_checksum_268 rfl rfl ?_
  refine h_iload_w C dX8_checksum_269 rfl ?_
  refine h_callS2 C (k_X4_added Z.l Z.G _ _ _) cw_X8_315 st_X4_added dX8_checksum_271 (by first | decide | exact Nat.le_of_ble_eq_true rfl) (by decide) (by decide) (by omega) (by omega) (kL fun r7 μ7 hp7 => ?_) kN
  obtain ⟨rfl, rfl⟩ := hp7
  refine h_lst_1 C dX8_checksum_274 ct_r ?_
  refine h_iinc_5 (q := 1) C dX8_checksum_275 (by decide) ct_i ?_
  rw [show (6 + 1 : Int32) = 7 from by decide]
  refine h_goto (tgt := 255) C dX8_checksum_278 (by decide) ?_
  refine h_iload_w C dX8_checksum_255 rfl ?_
  refine h_iload_w C dX8_checksum_257 rfl ?_
  refine h_icmp_ge (tgt := 281) C dX8_checksum_259 (by decide) (fun c8 => absurd c8 (by decide)) (fun c8 => ?_)
  refine h_al_g C dX8_checksum_262 rfl rfl rfv_r ?_
  refine h_iload_w C dX8_checksum_263 rfl ?_
  refine h_iald C dX8_checksum_265 (CRep.kTL hC) (by rw [CRep.lnT hC]; exact vp_in_nI (show 7 < 11 by decide) (by decide)) (CRep.eT hC (i := 7) (by decide)) ?_
  refine h_ist_6 C dX8_checksum_266 ct_i ?_
  refine h_lload_g C dX8_checksum_268 rfl rfl ?_
  refine h_iload_w C dX8_checksum_269 rfl ?_
  refine h_callS2 C (k_X4_added Z.l Z.G _ _ _) cw_X8_315 st_X4_added dX8_checksum_271 (by first | decide | exact Nat.le_of_ble_eq_true rfl) (by decide) (by decide) (by omega) (by omega) (kL fun r8 μ8 hp8 => ?_) kN
  obtain ⟨rfl, rfl⟩ := hp8
  refine h_lst_1 C dX8_checksum_274 ct_r ?_
  refine h_iinc_5 (q := 1) C dX8_checksum_275 (by decide) ct_i ?_
  rw [show (7 + 1 : Int32) = 8 from by decide]
  refine h_goto (tgt := 255) C dX8_checksum_278 (by decide) ?_
  refine h_iload_w C dX8_checksum_255 rfl ?_
  refine h_iload_w C dX8_checksum_257 rfl ?_
  refine h_icmp_ge (tgt := 281) C dX8_checksum_259 (by decide) (fun c9 => absurd c9 (by decide)) (fun c9 => ?_)
  refine h_al_g C dX8_checksum_262 rfl rfl rfv_r ?_
  refine h_iload_w C dX8_checksum_263 rfl ?_
  refine h_iald C dX8_checksum_265 (CRep.kTL hC) (by rw [CRep.lnT hC]; exact vp_in_nI (show 8 < 11 by decide) (by decide)) (CRep.eT hC (i := 8) (by decide)) ?_
  refine h_ist_6 C dX8_checksum_266 ct_i ?_
  refine h_lload_g C dX8_checksum_268 rfl rfl ?_
  refine h_iload_w C dX8_checksum_269 rfl ?_
  refine h_callS2 C (k_X4_added Z.l Z.G _ _ _) cw_X8_315 st_X4_added dX8_checksum_271 (by first | decide | exact Nat.le_of_ble_eq_true rfl) (by decide) (by decide) (by omega) (by omega) (kL fun r9 μ9 hp9 => ?_) kN
  obtain ⟨rfl, rfl⟩ := hp9
  refine h_lst_1 C dX8_checksum_274 ct_r ?_
  refine h_iinc_5 (q := 1) C dX8_checksum_275 (by decide) ct_i ?_
  rw [show (8 + 1 : Int32) = 9 from by decide]
  refine h_goto (tgt := 255) C dX8_checksum_278 (by decide) ?_
  refine h_iload_w C dX8_checksum_255 rfl ?_
  refine h_iload_w C dX8_checksum_257 rfl ?_
  refine h_icmp_ge (tgt := 281) C dX8_checksum_259 (by decide) (fun c10 => absurd c10 (by decide)) (fun c10 => ?_)
  refine h_al_g C dX8_checksum_262 rfl rfl rfv_r ?_
  refine h_iload_w C dX8_checksum_263 rfl ?_
  refine h_iald C dX8_checksum_265 (CRep.kTL hC) (by rw [CRep.lnT hC]; exact vp_in_nI (show 9 < 11 by decide) (by decide)) (CRep.eT hC (i := 9) (by decide)) ?_
  refine h_ist_6 C dX8_checksum_266 ct_i ?_
  refine h_lload_g C dX8_checksum_268 rfl rfl ?_
  refine h_iload_w C dX8_checksum_269 rfl ?_
  refine h_callS2 C (k_X4_added Z.l Z.G _ _ _) cw_X8_315 st_X4_added dX8_checksum_271 (by first | decide | exact Nat.le_of_ble_eq_true rfl) (by decide) (by decide) (by omega) (by omega) (kL fun r10 μ10 hp10 => ?_) kN
  obtain ⟨rfl, rfl⟩ := hp10
  refine h_lst_1 C dX8_checksum_274 ct_r ?_
  refine h_iinc_5 (q := 1) C dX8_checksum_275 (by decide) ct_i ?_
  rw [show (9 + 1 : Int32) = 10 from by decide]
  refine h_goto (tgt := 255) C dX8_checksum_278 (by decide) ?_
  refine h_iload_w C dX8_checksum_255 rfl ?_
  refine h_iload_w C dX8_checksum_257 rfl ?_
  refine h_icmp_ge (tgt := 281) C dX8_checksum_259 (by decide) (fun c11 => absurd c11 (by decide)) (fun c11 => ?_)
  refine h_al_g C dX8_checksum_262 rfl rfl rfv_r ?_
  refine h_iload_w C dX8_checksum_263 rfl ?_
  refine h_iald C dX8_checksum_265 (CRep.kTL hC) (by rw [CRep.lnT hC]; exact vp_in_nI (show 10 < 11 by decide) (by decide)) (CRep.eT hC (i := 10) (by decide)) ?_
  refine h_ist_6 C dX8_checksum_266 ct_i ?_
  refine h_lload_g C dX8_checksum_268 rfl rfl ?_
  refine h_iload_w C dX8_checksum_269 rfl ?_
  refine h_callS2 C (k_X4_added Z.l Z.G _ _ _) cw_X8_315 st_X4_added dX8_checksum_271 (by first | decide | exact Nat.le_of_ble_eq_true rfl) (by decide) (by decide) (by omega) (by omega) (kL fun r11 μ11 hp11 => ?_) kN
  obtain ⟨rfl, rfl⟩ := hp11
  refine h_lst_1 C dX8_checksum_274 ct_r ?_
  refine h_iinc_5 (q := 1) C dX8_checksum_275 (by decide) ct_i ?_
  rw [show (10 + 1 : Int32) = 11 from by decide]
  refine h_goto (tgt := 255) C dX8_checksum_278 (by decide) ?_
  refine h_iload_w C dX8_checksum_255 rfl ?_
  refine h_iload_w C dX8_checksum_257 rfl ?_
  refine h_icmp_ge (tgt := 281) C dX8_checksum_259 (by decide) (fun c12 => ?_) (fun c12 => absurd (by decide) c12)
  refine h_lload_g C dX8_checksum_281 rfl rfl ?_
  refine h_lret C E dX8_checksum_282 hk hn ?_
  exact hP _ ⟨_, rfl, rfl, by rw [hu]; rfl⟩

set_option maxRecDepth 100000 in
set_option maxHeartbeats 4000000 in
theorem k_X8_checksum (l : Launch) (G : Gx) (P : Nat → Nat) (S : Sx) (μ : Mem) (hC : CRep G P S μ) : Kon l yX8_checksum cX8_checksum 11 (some .long) 4 0 0 89 G [.ref (P 0)] μ (pL fun v μ' => μ = μ' ∧ v = CHK S) noX := by
  refine Kon.ofG (by decide +kernel) (Nat.le_of_ble_eq_true rfl) (Nat.le_of_ble_eq_true rfl) (fun Z hZG C E NT MT => ?_)
  subst hZG
  have C : Cx Z RX8 cX8_checksum 4 0 0 89 := C
  show HW Z 0 0 0 [some (.ref (P 0)), none, none, none, none, none, none, none, none, none, none] [] μ
  obtain ⟨xs, hx, hnd, hR⟩ := hC.nt
  have hlen := hR.1
  refine h_ldc2 C kc_X8_313 dX8_checksum_0 ?_
  refine h_al_g C dX8_checksum_3 rfl rfl rfv_r ?_
  refine gf_X8_26 C dX8_checksum_4 (CRep.kX hC) (CRep.f259 hC) ?_
  refine h_callS2 C (k_X4_added Z.l Z.G _ _ _) cw_X8_315 st_X4_added dX8_checksum_7 (by first | decide | exact Nat.le_of_ble_eq_true rfl) (by decide) (by decide) (by decide) (by decide) (kL fun r1 μ1 hp1 => ?_) kN
  obtain ⟨rfl, rfl⟩ := hp1
  refine h_lst_1 C dX8_checksum_10 ct_r ?_
  refine h_al_g C dX8_checksum_11 rfl rfl rfv_r ?_
  refine gs_X8_11 C dX8_checksum_12 (CRep.kX hC) (CRep.f256 hC) ?_
  refine h_ast_3 C dX8_checksum_15 ct_n rfv_r ?_
  refine h_al_g C dX8_checksum_16 rfl rfl rfv_r ?_
  refine h_alen C dX8_checksum_17 (⟨by rw [CRep.kEA hC]; decide, by rw [CRep.kEA hC]; decide⟩) (CRep.lnE hC) ?_
  rw [show (Int32.ofNat 3 : Int32) = 3 from rfl]
  refine h_ist_4 C dX8_checksum_18 ct_r ?_
  refine h_iconst (v := 0) C dX8_checksum_20 (by decide) ?_
  refine h_ist_5 C dX8_checksum_21 ct_i ?_
  exact lp_ck1 hC (a := 0) (by decide) C (mc := 0) (ms := 0) (Nat.zero_le _) (Nat.zero_le _) (Nat.zero_le _) (Nat.zero_le _) (fun _ _ _ _ _ _ e1 => lp_ck1 hC (a := 1) (by decide) C (mc := 0) (ms := 0) (Nat.zero_le _) (Nat.zero_le _) (Nat.zero_le _) (Nat.zero_le _) (fun _ _ _ _ _ _ e2 => lp_ck1 hC (a := 2) (by decide) C (mc := 0) (ms := 0) (Nat.zero_le _) (Nat.zero_le _) (Nat.zero_le _) (Nat.zero_le _) (fun _ _ _ _ _ _ e3 => lp_ck12 hC C (mc := 0) (ms := 0) (Nat.zero_le _) (Nat.zero_le _) (Nat.zero_le _) (Nat.zero_le _) (fun _ _ _ _ _ => lp_ck20 hC C (mc := 0) (ms := 0) (Nat.zero_le _) (Nat.zero_le _) (Nat.zero_le _) (Nat.zero_le _) (fun _ _ _ _ _ _ f1 => lp_ck21 hC C (mc := 0) (ms := 0) (Nat.zero_le _) (Nat.zero_le _) (Nat.zero_le _) (Nat.zero_le _) (fun _ _ _ _ _ _ f2 => lp_ck22 hC C (mc := 0) (ms := 0) (Nat.zero_le _) (Nat.zero_le _) (Nat.zero_le _) (Nat.zero_le _) (fun _ _ _ _ _ _ f3 => lp_ck23 hC C (mc := 0) (ms := 0) (Nat.zero_le _) (Nat.zero_le _) (Nat.zero_le _) (Nat.zero_le _) (fun _ _ _ _ _ => lp_ck3 hC (a := 0) (by decide) C (mc := 0) (ms := 0) (Nat.zero_le _) (Nat.zero_le _) (Nat.zero_le _) (Nat.zero_le _) (fun _ _ _ _ _ _ g1 => lp_ck3 hC (a := 1) (by decide) C (mc := 0) (ms := 0) (Nat.zero_le _) (Nat.zero_le _) (Nat.zero_le _) (Nat.zero_le _) (fun _ _ _ _ _ _ g2 => lp_ck3 hC (a := 2) (by decide) C (mc := 0) (ms := 0) (Nat.zero_le _) (Nat.zero_le _) (Nat.zero_le _) (Nat.zero_le _) (fun _ _ _ _ _ _ g3 => lp_ck34 hC C (mc := 0) (ms := 0) (Nat.zero_le _) (Nat.zero_le _) (Nat.zero_le _) (Nat.zero_le _) (fun _ _ _ _ _ _ _ => lp_ck4 hC C (mc := 0) (ms := 0) (Nat.zero_le _) (Nat.zero_le _) (Nat.zero_le _) (Nat.zero_le _) hx hR xs.length 0 _ (by omega) (fun v0 h0 => lp_ck5 hC C E (Nat.zero_le _) (Nat.zero_le _) (Nat.zero_le _) (Nat.zero_le _) (fun v h => h) (by rw [h0, List.drop_zero, g3, g2, g1, f3, f2, f1, e3, e2, e1]))) _ _ _ _ _) _ _ _ _ _) _ _ _ _ _) _ _ _ _ _) _ _ _ _ _) _ _ _ _ _) _ _ _ _ _) _ _ _ _ _) _ _ _ _ _) _ _ _ _ _) _ _ _ _ _) _ _ _ _ _

end
