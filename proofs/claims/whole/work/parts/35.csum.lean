section
abbrev ADV (t : Int64) (y : Int32) : Int64 := 31 * t + y.toInt64
def SLT (t : Int64) (r : Row) : Int64 := ADV (ADV (ADV (ADV (ADV (ADV (ADV (ADV (ADV t (r 0)) (r 1)) (r 2)) (r 3)) (r 4)) (r 5)) (r 6)) (r 7)) (r 8)
def SOs : Int64 → List Row → Int64
  | t, [] => t
  | t, r :: rs => SOs (ADV t (r 4)) rs
def SOU (S : Sx) (e : Nat) (t : Int64) : Int64 := SOs (ADV t (nI (OUT e S.ou).length)) (OUT e S.ou)
def SLw (S : Sx) (a b w : Nat) (t : Int64) : Int64 := match S.ses a b w with
  | none => ADV t (-1)
  | some r => ADV (ADV (ADV (ADV t (r.1 0)) (r.1 3)) (r.1 5)) (r.1 8)
def SLK (S : Sx) (a b : Nat) (t : Int64) : Int64 := SLw S a b 2 (SLw S a b 1 (SLw S a b 0 (ADV (ADV (ADV (ADV t (S.lf 0 a b)) (FLX S a b)) (S.lf 1 a b)) (nI (S.wt a b).length))))
set_option maxRecDepth 100000 in
set_option maxHeartbeats 4000000 in
theorem k_X8_sumWithLetter (l : Launch) (G : Gx) (μ : Mem) (k p : Nat) (r : Row) (hl : LeAt μ k p r) (hk : k % 32 = 4) (t : Int64) : Kon l yX8_sumWithLetter cX8_sumWithLetter 9 (some .long) 1 0 0 22 G [.long t, .ref p] μ (pL fun v μ' => μ = μ' ∧ v = SLT t r) noX := by
  refine Kon.ofG (by decide +kernel) (Nat.le_of_ble_eq_true rfl) (Nat.le_of_ble_eq_true rfl) (fun Z hZG C E NT MT => ?_)
  subst hZG
  have C : Cx Z RX8 cX8_sumWithLetter 1 0 0 22 := C
  show HW Z 0 0 0 [some (.long t), none, some (.ref p), none, none, none, none, none, none] [] μ
  obtain ⟨fa, hfa1, hfa2, hfa3, hfa4⟩ := hl.2.2.2.2.2.2.2.2
  have hka : μ.kd fa % 32 = 11 := by rw [hfa2]; unfold FM; omega
  refine h_lload_g C dX8_sumWithLetter_0 rfl rfl ?_
  refine h_al_g C dX8_sumWithLetter_1 rfl rfl rfv_r ?_
  refine gf_X8_214 C dX8_sumWithLetter_2 (LeAt.k hl hk) hl.f100 ?_
  refine h_callS2 C (k_X4_added Z.l Z.G _ _ _) cw_X8_315 st_X4_added dX8_sumWithLetter_5 (by first | decide | exact Nat.le_of_ble_eq_true rfl) (by decide) (by decide) (by decide) (by decide) (kL fun r1 μ1 hp1 => ?_) kN
  obtain ⟨rfl, rfl⟩ := hp1
  refine h_lst_3 C dX8_sumWithLetter_8 ct_r ?_
  refine h_lload_g C dX8_sumWithLetter_9 rfl rfl ?_
  refine h_al_g C dX8_sumWithLetter_10 rfl rfl rfv_r ?_
  refine gf_X8_165 C dX8_sumWithLetter_11 (LeAt.k hl hk) hl.f97 ?_
  refine h_callS2 C (k_X4_added Z.l Z.G _ _ _) cw_X8_315 st_X4_added dX8_sumWithLetter_14 (by first | decide | exact Nat.le_of_ble_eq_true rfl) (by decide) (by decide) (by decide) (by decide) (kL fun r2 μ2 hp2 => ?_) kN
  obtain ⟨rfl, rfl⟩ := hp2
  refine h_lst_3 C dX8_sumWithLetter_17 ct_r ?_
  refine h_lload_g C dX8_sumWithLetter_18 rfl rfl ?_
  refine h_al_g C dX8_sumWithLetter_19 rfl rfl rfv_r ?_
  refine gf_X8_170 C dX8_sumWithLetter_20 (LeAt.k hl hk) hl.f96 ?_
  refine h_callS2 C (k_X4_added Z.l Z.G _ _ _) cw_X8_315 st_X4_added dX8_sumWithLetter_23 (by first | decide | exact Nat.le_of_ble_eq_true rfl) (by decide) (by decide) (by decide) (by decide) (kL fun r3 μ3 hp3 => ?_) kN
  obtain ⟨rfl, rfl⟩ := hp3
  refine h_lst_3 C dX8_sumWithLetter_26 ct_r ?_
  refine h_al_g C dX8_sumWithLetter_27 rfl rfl rfv_r ?_
  refine gs_X8_494 C dX8_sumWithLetter_28 (LeAt.k hl hk) hfa1 ?_
  refine h_ast_5 C dX8_sumWithLetter_31 ct_n rfv_r ?_
  refine h_al_w (j := 0) C dX8_sumWithLetter_33 rfl rfv_r ?_
  refine h_alen C dX8_sumWithLetter_35 ⟨by omega, by omega⟩ hfa3 ?_
  rw [show (Int32.ofNat 6 : Int32) = 6 from rfl]
  refine h_ist_6 C dX8_sumWithLetter_36 ct_r ?_
  refine h_iconst (v := 0) C dX8_sumWithLetter_38 (by decide) ?_
  refine h_ist_7 C dX8_sumWithLetter_39 ct_i ?_
  refine h_iload_w C dX8_sumWithLetter_41 rfl ?_
  refine h_iload_w C dX8_sumWithLetter_43 rfl ?_
  refine h_icmp_ge (tgt := 68) C dX8_sumWithLetter_45 (by decide) (fun c1 => absurd c1 (by decide)) (fun c1 => ?_)
  refine h_al_w (j := 0) C dX8_sumWithLetter_48 rfl rfv_r ?_
  refine h_iload_w C dX8_sumWithLetter_50 rfl ?_
  refine h_iald C dX8_sumWithLetter_52 hka (by rw [hfa3]; exact vp_in_nI (show 0 < 6 by decide) (by decide)) (hfa4 0 (by decide)) ?_
  refine h_ist_8 C dX8_sumWithLetter_53 ct_i ?_
  refine h_lload_g C dX8_sumWithLetter_55 rfl rfl ?_
  refine h_iload_w C dX8_sumWithLetter_56 rfl ?_
  refine h_callS2 C (k_X4_added Z.l Z.G _ _ _) cw_X8_315 st_X4_added dX8_sumWithLetter_58 (by first | decide | exact Nat.le_of_ble_eq_true rfl) (by decide) (by decide) (by decide) (by decide) (kL fun r4 μ4 hp4 => ?_) kN
  obtain ⟨rfl, rfl⟩ := hp4
  refine h_lst_3 C dX8_sumWithLetter_61 ct_r ?_
  refine h_iinc_7 (q := 1) C dX8_sumWithLetter_62 (by decide) ct_i ?_
  rw [show (0 + 1 : Int32) = 1 from by decide]
  refine h_goto (tgt := 41) C dX8_sumWithLetter_65 (by decide) ?_
  refine h_iload_w C dX8_sumWithLetter_41 rfl ?_
  refine h_iload_w C dX8_sumWithLetter_43 rfl ?_
  refine h_icmp_ge (tgt := 68) C dX8_sumWithLetter_45 (by decide) (fun c2 => absurd c2 (by decide)) (fun c2 => ?_)
  refine h_al_w (j := 0) C dX8_sumWithLetter_48 rfl rfv_r ?_
  refine h_iload_w C dX8_sumWithLetter_50 rfl ?_
  refine h_iald C dX8_sumWithLetter_52 hka (by rw [hfa3]; exact vp_in_nI (show 1 < 6 by decide) (by decide)) (hfa4 1 (by decide)) ?_
  refine h_ist_8 C dX8_sumWithLetter_53 ct_i ?_
  refine h_lload_g C dX8_sumWithLetter_55 rfl rfl ?_
  refine h_iload_w C dX8_sumWithLetter_56 rfl ?_
  refine h_callS2 C (k_X4_added Z.l Z.G _ _ _) cw_X8_315 st_X4_added dX8_sumWithLetter_58 (by first | decide | exact Nat.le_of_ble_eq_true rfl) (by decide) (by decide) (by decide) (by decide) (kL fun r5 μ5 hp5 => ?_) kN
  obtain ⟨rfl, rfl⟩ := hp5
  refine h_lst_3 C dX8_sumWithLetter_61 ct_r ?_
  refine h_iinc_7 (q := 1) C dX8_sumWithLetter_62 (by decide) ct_i ?_
  rw [show (1 + 1 : Int32) = 2 from by decide]
  refine h_goto (tgt := 41) C dX8_sumWithLetter_65 (by decide) ?_
  refine h_iload_w C dX8_sumWithLetter_41 rfl ?_
  refine h_iload_w C dX8_sumWithLetter_43 rfl ?_
  refine h_icmp_ge (tgt := 68) C dX8_sumWithLetter_45 (by decide) (fun c3 => absurd c3 (by decide)) (fun c3 => ?_)
  refine h_al_w (j := 0) C dX8_sumWithLetter_48 rfl rfv_r ?_
  refine h_iload_w C dX8_sumWithLetter_50 rfl ?_
  refine h_iald C dX8_sumWithLetter_52 hka (by rw [hfa3]; exact vp_in_nI (show 2 < 6 by decide) (by decide)) (hfa4 2 (by decide)) ?_
  refine h_ist_8 C dX8_sumWithLetter_53 ct_i ?_
  refine h_lload_g C dX8_sumWithLetter_55 rfl rfl ?_
  refine h_iload_w C dX8_sumWithLetter_56 rfl ?_
  refine h_callS2 C (k_X4_added Z.l Z.G _ _ _) cw_X8_315 st_X4_added dX8_sumWithLetter_58 (by first | decide | exact Nat.le_of_ble_eq_true rfl) (by decide) (by decide) (by decide) (by decide) (kL fun r6 μ6 hp6 => ?_) kN
  obtain ⟨rfl, rfl⟩ := hp6
  refine h_lst_3 C dX8_sumWithLetter_61 ct_r ?_
  refine h_iinc_7 (q := 1) C dX8_sumWithLetter_62 (by decide) ct_i ?_
  rw [show (2 + 1 : Int32) = 3 from by decide]
  refine h_goto (tgt := 41) C dX8_sumWithLetter_65 (by decide) ?_
  refine h_iload_w C dX8_sumWithLetter_41 rfl ?_
  refine h_iload_w C dX8_sumWithLetter_43 rfl ?_
  refine h_icmp_ge (tgt := 68) C dX8_sumWithLetter_45 (by decide) (fun c4 => absurd c4 (by decide)) (fun c4 => ?_)
  refine h_al_w (j := 0) C dX8_sumWithLetter_48 rfl rfv_r ?_
  refine h_iload_w C dX8_sumWithLetter_50 rfl ?_
  refine h_iald C dX8_sumWithLetter_52 hka (by rw [hfa3]; exact vp_in_nI (show 3 < 6 by decide) (by decide)) (hfa4 3 (by decide)) ?_
  refine h_ist_8 C dX8_sumWithLetter_53 ct_i ?_
  refine h_lload_g C dX8_sumWithLetter_55 rfl rfl ?_
  refine h_iload_w C dX8_sumWithLetter_56 rfl ?_
  refine h_callS2 C (k_X4_added Z.l Z.G _ _ _) cw_X8_315 st_X4_added dX8_sumWithLetter_58 (by first | decide | exact Nat.le_of_ble_eq_true rfl) (by decide) (by decide) (by decide) (by decide) (kL fun r7 μ7 hp7 => ?_) kN
  obtain ⟨rfl, rfl⟩ := hp7
  refine h_lst_3 C dX8_sumWithLetter_61 ct_r ?_
  refine h_iinc_7 (q := 1) C dX8_sumWithLetter_62 (by decide) ct_i ?_
  rw [show (3 + 1 : Int32) = 4 from by decide]
  refine h_goto (tgt := 41) C dX8_sumWithLetter_65 (by decide) ?_
  refine h_iload_w C dX8_sumWithLetter_41 rfl ?_
  refine h_iload_w C dX8_sumWithLetter_43 rfl ?_
  refine h_icmp_ge (tgt := 68) C dX8_sumWithLetter_45 (by decide) (fun c5 => absurd c5 (by decide)) (fun c5 => ?_)
  refine h_al_w (j := 0) C dX8_sumWithLetter_48 rfl rfv_r ?_
  refine h_iload_w C dX8_sumWithLetter_50 rfl ?_
  refine h_iald C dX8_sumWithLetter_52 hka (by rw [hfa3]; exact vp_in_nI (show 4 < 6 by decide) (by decide)) (hfa4 4 (by decide)) ?_
  refine h_ist_8 C dX8_sumWithLetter_53 ct_i ?_
  refine h_lload_g C dX8_sumWithLetter_55 rfl rfl ?_
  refine h_iload_w C dX8_sumWithLetter_56 rfl ?_
  refine h_callS2 C (k_X4_added Z.l Z.G _ _ _) cw_X8_315 st_X4_added dX8_sumWithLetter_58 (by first | decide | exact Nat.le_of_ble_eq_true rfl) (by decide) (by decide) (by decide) (by decide) (kL fun r8 μ8 hp8 => ?_) kN
  obtain ⟨rfl, rfl⟩ := hp8
  refine h_lst_3 C dX8_sumWithLetter_61 ct_r ?_
  refine h_iinc_7 (q := 1) C dX8_sumWithLetter_62 (by decide) ct_i ?_
  rw [show (4 + 1 : Int32) = 5 from by decide]
  refine h_goto (tgt := 41) C dX8_sumWithLetter_65 (by decide) ?_
  refine h_iload_w C dX8_sumWithLetter_41 rfl ?_
  refine h_iload_w C dX8_sumWithLetter_43 rfl ?_
  refine h_icmp_ge (tgt := 68) C dX8_sumWithLetter_45 (by decide) (fun c6 => absurd c6 (by decide)) (fun c6 => ?_)
  refine h_al_w (j := 0) C dX8_sumWithLetter_48 rfl rfv_r ?_
  refine h_iload_w C dX8_sumWithLetter_50 rfl ?_
  refine h_iald C dX8_sumWithLetter_52 hka (by rw [hfa3]; exact vp_in_nI (show 5 < 6 by decide) (by decide)) (hfa4 5 (by decide)) ?_
  refine h_ist_8 C dX8_sumWithLetter_53 ct_i ?_
  refine h_lload_g C dX8_sumWithLetter_55 rfl rfl ?_
  refine h_iload_w C dX8_sumWithLetter_56 rfl ?_
  refine h_callS2 C (k_X4_added Z.l Z.G _ _ _) cw_X8_315 st_X4_added dX8_sumWithLetter_58 (by first | decide | exact Nat.le_of_ble_eq_true rfl) (by decide) (by decide) (by decide) (by decide) (kL fun r9 μ9 hp9 => ?_) kN
  obtain ⟨rfl, rfl⟩ := hp9
  refine h_lst_3 C dX8_sumWithLetter_61 ct_r ?_
  refine h_iinc_7 (q := 1) C dX8_sumWithLetter_62 (by decide) ct_i ?_
  rw [show (5 + 1 : Int32) = 6 from by decide]
  refine h_goto (tgt := 41) C dX8_sumWithLetter_65 (by decide) ?_
  refine h_iload_w C dX8_sumWithLetter_41 rfl ?_
  refine h_iload_w C dX8_sumWithLetter_43 rfl ?_
  refine h_icmp_ge (tgt := 68) C dX8_sumWithLetter_45 (by decide) (fun c7 => ?_) (fun c7 => absurd (by decide) c7)
  refine h_lload_g C dX8_sumWithLetter_68 rfl rfl ?_
  refine h_lret C E dX8_sumWithLetter_69 (by decide) (by decide) ?_
  exact ⟨_, rfl, rfl, rfl⟩

set_option maxRecDepth 100000 in
set_option maxHeartbeats 4000000 in
theorem lp_X8_sumWithOuts {Z : Zx} {Post : Option Value → Mem → Prop} {PostX : String → Mem → Prop} {rc rs mc ms : Nat} {P : Nat → Nat} {S : Sx} {μ : Mem} {e : Nat} {t : Int64} (hC : CRep Z.G P S μ) (he : e < 3) (C : Cx Z RX8 cX8_sumWithOuts 3 rc rs 64) (E : Rt Z mc ms (some .long) Post PostX) {xs : List Nat} (hxs : ListAt Z.G μ (P (13 + e)) xs) (hLR : LR (fun p r => PkAt μ p (r 1) (r 2) (r 3) (r 4)) xs (OUT e S.ou)) {k n : Nat} (hk : k ≤ mc) (hn : n ≤ ms) (hk2 : k ≤ rc) (hn2 : n ≤ rs) :
    ∀ (m j : Nat) (u : Int64), j + m = xs.length → (∀ v, v = SOs u ((OUT e S.ou).drop j) → Post (some (.long v)) μ) → HW Z k n 15 [some (.long t), none, some (.ref (P (4 + e))), some (.long u), none, some (.int (nI j))] [] μ := by
  have hlen := hLR.1
  have hmx := hxs.2.1
  intro m
  induction m with
  | zero =>
    intro j u hj hP
    refine h_iload_w C dX8_sumWithOuts_15 rfl ?_
    refine h_al_g C dX8_sumWithOuts_17 rfl rfl rfv_r ?_
    refine gs_X8_250 C dX8_sumWithOuts_18 (CRep.kE hC he) (CRep.f36 hC he) ?_
    refine h_callV0 (ci := 0) (a_ := .null) C (k_Jx4a65c_size_8abf5 Z.l Z.G _ xs _ hxs) cw_X8_86 im_Jx4a65c_size_8abf5 sl_Jx4a65c_size_8abf5 rfl (by decide) hxs.1 dX8_sumWithOuts_21 (by first | decide | exact Nat.le_of_ble_eq_true rfl) (by decide) (by decide) (by omega) (by omega) (kI fun r1 μ1 hp1 => ?_) kN
    obtain ⟨rfl, rfl⟩ := hp1
    rw [hlen]
    refine h_icmp_ge (tgt := 53) C dX8_sumWithOuts_24 (by decide) (fun c1 => ?_) (fun c1 => absurd ((nI_le (by omega) (by omega))) c1)
    refine h_lload_g C dX8_sumWithOuts_53 rfl rfl ?_
    refine h_lret C E dX8_sumWithOuts_54 hk hn ?_
    refine hP _ ?_
    rw [List.drop_eq_nil_of_le (by omega)]
    rfl
  | succ m ih =>
    intro j u hj hP
    have hjl : j < xs.length := by omega
    have hi : xs[j]? = some xs[j] := List.getElem?_eq_getElem hjl
    have hjo : j < (OUT e S.ou).length := by omega
    have hir : (OUT e S.ou)[j]? = some (OUT e S.ou)[j] := List.getElem?_eq_getElem hjo
    have hpr := hLR.2 j _ _ hi hir
    have hdr : (OUT e S.ou).drop j = (OUT e S.ou)[j] :: (OUT e S.ou).drop (j + 1) := List.drop_eq_getElem_cons hjo
    refine h_iload_w C dX8_sumWithOuts_15 rfl ?_
    refine h_al_g C dX8_sumWithOuts_17 rfl rfl rfv_r ?_
    refine gs_X8_250 C dX8_sumWithOuts_18 (CRep.kE hC he) (CRep.f36 hC he) ?_
    refine h_callV0 (ci := 0) (a_ := .null) C (k_Jx4a65c_size_8abf5 Z.l Z.G _ xs _ hxs) cw_X8_86 im_Jx4a65c_size_8abf5 sl_Jx4a65c_size_8abf5 rfl (by decide) hxs.1 dX8_sumWithOuts_21 (by first | decide | exact Nat.le_of_ble_eq_true rfl) (by decide) (by decide) (by omega) (by omega) (kI fun r1 μ1 hp1 => ?_) kN
    obtain ⟨rfl, rfl⟩ := hp1
    rw [hlen]
    refine h_icmp_ge (tgt := 53) C dX8_sumWithOuts_24 (by decide) (fun c1 => absurd c1 ((nI_ge (by omega) (by omega)))) (fun c1 => ?_)
    refine h_lload_g C dX8_sumWithOuts_27 rfl rfl ?_
    refine h_al_g C dX8_sumWithOuts_28 rfl rfl rfv_r ?_
    refine gs_X8_250 C dX8_sumWithOuts_29 (CRep.kE hC he) (CRep.f36 hC he) ?_
    refine h_iload_w C dX8_sumWithOuts_32 rfl ?_
    refine h_callV1 (ci := 0) C (k_Jx4a65c_get_915e3 Z.l Z.G _ xs _ j _ _ hxs rfl hi) cw_X8_92 im_Jx4a65c_get_915e3 sl_Jx4a65c_get_915e3 rfl (by decide) hxs.1 dX8_sumWithOuts_34 (by first | decide | exact Nat.le_of_ble_eq_true rfl) (by decide) (by decide) (by omega) (by omega) (kA fun r2 μ2 hp2 => ?_) kN
    obtain ⟨rfl, rfl⟩ := hp2
    obtain ⟨hpk, hq2, hq3, hq4, hq5⟩ := hpr
    have hpk6 : μ.kd xs[j] % 32 = 6 := by rw [hpk]; decide
    refine h_castO (ci := 5) C kl_X8_127 rfl (by decide) dX8_sumWithOuts_37 hpk6 ?_
    refine gf_X8_265 C dX8_sumWithOuts_40 hpk6 hq5 ?_
    refine h_callS2 C (k_X4_added Z.l Z.G _ _ _) cw_X8_315 st_X4_added dX8_sumWithOuts_43 (by first | decide | exact Nat.le_of_ble_eq_true rfl) (by decide) (by decide) (by omega) (by omega) (kL fun r3 μ3 hp3 => ?_) kN
    obtain ⟨rfl, rfl⟩ := hp3
    refine h_lst_3 C dX8_sumWithOuts_46 ct_r ?_
    refine h_iinc_5 (q := 1) C dX8_sumWithOuts_47 (by decide) ct_n ?_
    refine h_goto (tgt := 15) C dX8_sumWithOuts_50 (by decide) ?_
    rw [nI_1]
    exact ih (j + 1) _ (by omega) (fun v hv => hP v (by rw [hdr]; exact hv))

set_option maxRecDepth 100000 in
set_option maxHeartbeats 4000000 in
theorem k_X8_sumWithOuts (l : Launch) (G : Gx) (P : Nat → Nat) (S : Sx) (μ : Mem) (hC : CRep G P S μ) (e : Nat) (he : e < 3) (t : Int64) : Kon l yX8_sumWithOuts cX8_sumWithOuts 6 (some .long) 3 0 0 64 G [.long t, .ref (P (4 + e))] μ (pL fun v μ' => μ = μ' ∧ v = SOU S e t) noX := by
  refine Kon.ofG (by decide +kernel) (Nat.le_of_ble_eq_true rfl) (Nat.le_of_ble_eq_true rfl) (fun Z hZG C E NT MT => ?_)
  subst hZG
  have C : Cx Z RX8 cX8_sumWithOuts 3 0 0 64 := C
  show HW Z 0 0 0 [some (.long t), none, some (.ref (P (4 + e))), none, none, none] [] μ
  obtain ⟨xs, hxs, hLR⟩ := hC.ou e he
  have hlen := hLR.1
  refine h_lload_g C dX8_sumWithOuts_0 rfl rfl ?_
  refine h_al_g C dX8_sumWithOuts_1 rfl rfl rfv_r ?_
  refine gs_X8_250 C dX8_sumWithOuts_2 (CRep.kE hC he) (CRep.f36 hC he) ?_
  refine h_callV0 (ci := 0) (a_ := .null) C (k_Jx4a65c_size_8abf5 Z.l Z.G _ xs _ hxs) cw_X8_86 im_Jx4a65c_size_8abf5 sl_Jx4a65c_size_8abf5 rfl (by decide) hxs.1 dX8_sumWithOuts_5 (by first | decide | exact Nat.le_of_ble_eq_true rfl) (by decide) (by decide) (by decide) (by decide) (kI fun r1 μ1 hp1 => ?_) kN
  obtain ⟨rfl, rfl⟩ := hp1
  rw [hlen]
  refine h_callS2 C (k_X4_added Z.l Z.G _ _ _) cw_X8_315 st_X4_added dX8_sumWithOuts_8 (by first | decide | exact Nat.le_of_ble_eq_true rfl) (by decide) (by decide) (by decide) (by decide) (kL fun r2 μ2 hp2 => ?_) kN
  obtain ⟨rfl, rfl⟩ := hp2
  refine h_lst_3 C dX8_sumWithOuts_11 ct_r ?_
  refine h_iconst (v := 0) C dX8_sumWithOuts_12 (by decide) ?_
  refine h_ist_5 C dX8_sumWithOuts_13 ct_n ?_
  exact lp_X8_sumWithOuts hC he C E hxs hLR (Nat.le_refl _) (Nat.le_refl _) (Nat.le_refl _) (Nat.le_refl _) xs.length 0 _ (by omega) (fun v hv => ⟨v, rfl, rfl, hv⟩)

set_option maxRecDepth 100000 in
set_option maxHeartbeats 4000000 in
theorem k_X8_sumWithLink (l : Launch) (G : Gx) (P : Nat → Nat) (S : Sx) (μ : Mem) (hC : CRep G P S μ) (a b : Nat) (ha : a < 3) (hb : b < 3) (t : Int64) : Kon l yX8_sumWithLink cX8_sumWithLink 8 (some .long) 1 0 0 22 G [.ref (P 0), .long t, .ref (P (16 + 3 * a + b))] μ (pL fun v μ' => μ = μ' ∧ v = SLK S a b t) noX := by
  refine Kon.ofG (by decide +kernel) (Nat.le_of_ble_eq_true rfl) (Nat.le_of_ble_eq_true rfl) (fun Z hZG C E NT MT => ?_)
  subst hZG
  have C : Cx Z RX8 cX8_sumWithLink 1 0 0 22 := C
  show HW Z 0 0 0 [some (.ref (P 0)), some (.long t), none, some (.ref (P (16 + 3 * a + b))), none, none, none, none] [] μ
  obtain ⟨xs, hxs, hLR⟩ := hC.wt a b ha hb
  have hlen := hLR.1
  refine h_lload_g C dX8_sumWithLink_0 rfl rfl ?_
  refine h_al_g C dX8_sumWithLink_1 rfl rfl rfv_r ?_
  refine gf_X8_221 C dX8_sumWithLink_2 (CRep.kL hC (by assumption) (by assumption)) (CRep.f132 hC (by assumption) (by assumption)) ?_
  refine h_callS2 C (k_X4_added Z.l Z.G _ _ _) cw_X8_315 st_X4_added dX8_sumWithLink_5 (by first | decide | exact Nat.le_of_ble_eq_true rfl) (by decide) (by decide) (by decide) (by decide) (kL fun r1 μ1 hp1 => ?_) kN
  obtain ⟨rfl, rfl⟩ := hp1
  refine h_lst_4 C dX8_sumWithLink_8 ct_r ?_
  refine h_lload_w C dX8_sumWithLink_10 rfl ?_
  refine h_al_g C dX8_sumWithLink_12 rfl rfl rfv_r ?_
  refine h_callV0 (ci := 4) (a_ := .null) C (k_X3_flightIndex Z.l Z.G P S _ hC _ _ (by assumption) (by assumption)) cw_X8_234 im_X3_flightIndex sl_X3_flightIndex rfl (by decide) (CRep.kL hC (by assumption) (by assumption)) dX8_sumWithLink_13 (by first | decide | exact Nat.le_of_ble_eq_true rfl) (by decide) (by decide) (by decide) (by decide) (kI fun r2 μ2 hp2 => ?_) kN
  obtain ⟨rfl, rfl⟩ := hp2
  refine h_callS2 C (k_X4_added Z.l Z.G _ _ _) cw_X8_315 st_X4_added dX8_sumWithLink_16 (by first | decide | exact Nat.le_of_ble_eq_true rfl) (by decide) (by decide) (by decide) (by decide) (kL fun r3 μ3 hp3 => ?_) kN
  obtain ⟨rfl, rfl⟩ := hp3
  refine h_lst_4 C dX8_sumWithLink_19 ct_r ?_
  refine h_lload_w C dX8_sumWithLink_21 rfl ?_
  refine h_al_g C dX8_sumWithLink_23 rfl rfl rfv_r ?_
  refine gf_X8_247 C dX8_sumWithLink_24 (CRep.kL hC (by assumption) (by assumption)) (CRep.f137 hC (by assumption) (by assumption)) ?_
  refine h_callS2 C (k_X4_added Z.l Z.G _ _ _) cw_X8_315 st_X4_added dX8_sumWithLink_27 (by first | decide | exact Nat.le_of_ble_eq_true rfl) (by decide) (by decide) (by decide) (by decide) (kL fun r4 μ4 hp4 => ?_) kN
  obtain ⟨rfl, rfl⟩ := hp4
  refine h_lst_4 C dX8_sumWithLink_30 ct_r ?_
  refine h_lload_w C dX8_sumWithLink_32 rfl ?_
  refine h_al_g C dX8_sumWithLink_34 rfl rfl rfv_r ?_
  refine gs_X8_237 C dX8_sumWithLink_35 (CRep.kL hC ha hb) (CRep.f131 hC ha hb) ?_
  refine h_callV0 (ci := 0) (a_ := .null) C (k_Jx4a65c_size_8abf5 Z.l Z.G _ xs _ hxs) cw_X8_86 im_Jx4a65c_size_8abf5 sl_Jx4a65c_size_8abf5 rfl (by decide) hxs.1 dX8_sumWithLink_38 (by first | decide | exact Nat.le_of_ble_eq_true rfl) (by decide) (by decide) (by decide) (by decide) (kI fun r5 μ5 hp5 => ?_) kN
  obtain ⟨rfl, rfl⟩ := hp5
  rw [hlen]
  refine h_callS2 C (k_X4_added Z.l Z.G _ _ _) cw_X8_315 st_X4_added dX8_sumWithLink_41 (by first | decide | exact Nat.le_of_ble_eq_true rfl) (by decide) (by decide) (by decide) (by decide) (kL fun r6 μ6 hp6 => ?_) kN
  obtain ⟨rfl, rfl⟩ := hp6
  refine h_lst_4 C dX8_sumWithLink_44 ct_r ?_
  refine h_iconst (v := 0) C dX8_sumWithLink_46 (by decide) ?_
  refine h_ist_6 C dX8_sumWithLink_47 ct_n ?_
  refine h_iload_w C dX8_sumWithLink_49 rfl ?_
  refine h_iconst (v := 3) C dX8_sumWithLink_51 (by decide) ?_
  refine h_icmp_ge (tgt := 133) C dX8_sumWithLink_52 (by decide) (fun c1 => absurd c1 (by decide)) (fun c1 => ?_)
  refine h_al_g C dX8_sumWithLink_55 rfl rfl rfv_r ?_
  refine h_iload_w C dX8_sumWithLink_56 rfl ?_
  refine h_callV1 (ci := 4) C (k_X3_sessionAt Z.l Z.G P S _ hC a b ha hb _ 0 (by decide) rfl) cw_X8_224 im_X3_sessionAt sl_X3_sessionAt rfl (by decide) (CRep.kL hC ha hb) dX8_sumWithLink_58 (by first | decide | exact Nat.le_of_ble_eq_true rfl) (by decide) (by decide) (by decide) (by decide) (kO (fun μ7 hp7 => ?_) (fun s0 μ7 hp7 => ?_)) kN
  · obtain ⟨rfl, A0⟩ := hp7
    refine h_ast_7 C dX8_sumWithLink_61 ct_i rfv_n ?_
    refine h_al_w (j := 0) C dX8_sumWithLink_63 rfl rfv_n ?_
    refine h_ifnonnull_n C dX8_sumWithLink_65 ?_
    refine h_lload_w C dX8_sumWithLink_68 rfl ?_
    refine h_iconst (v := (-1)) C dX8_sumWithLink_70 (by decide) ?_
    refine h_callS2 C (k_X4_added Z.l Z.G _ _ _) cw_X8_315 st_X4_added dX8_sumWithLink_71 (by first | decide | exact Nat.le_of_ble_eq_true rfl) (by decide) (by decide) (by decide) (by decide) (kL fun r7 μ8 hp8 => ?_) kN
    obtain ⟨rfl, rfl⟩ := hp8
    refine h_lst_4 C dX8_sumWithLink_74 ct_r ?_
    refine h_goto (tgt := 127) C dX8_sumWithLink_76 (by decide) ?_
    refine h_iinc_6 (q := 1) C dX8_sumWithLink_127 (by decide) ct_n ?_
    rw [show (0 + 1 : Int32) = 1 from by decide]
    refine h_goto (tgt := 49) C dX8_sumWithLink_130 (by decide) ?_
    refine h_iload_w C dX8_sumWithLink_49 rfl ?_
    refine h_iconst (v := 3) C dX8_sumWithLink_51 (by decide) ?_
    refine h_icmp_ge (tgt := 133) C dX8_sumWithLink_52 (by decide) (fun c2 => absurd c2 (by decide)) (fun c2 => ?_)
    refine h_al_g C dX8_sumWithLink_55 rfl rfl rfv_r ?_
    refine h_iload_w C dX8_sumWithLink_56 rfl ?_
    refine h_callV1 (ci := 4) C (k_X3_sessionAt Z.l Z.G P S _ hC a b ha hb _ 1 (by decide) rfl) cw_X8_224 im_X3_sessionAt sl_X3_sessionAt rfl (by decide) (CRep.kL hC ha hb) dX8_sumWithLink_58 (by first | decide | exact Nat.le_of_ble_eq_true rfl) (by decide) (by decide) (by decide) (by decide) (kO (fun μ9 hp9 => ?_) (fun s1 μ9 hp9 => ?_)) kN
    · obtain ⟨rfl, A1⟩ := hp9
      refine h_ast_7 C dX8_sumWithLink_61 ct_i rfv_n ?_
      refine h_al_w (j := 0) C dX8_sumWithLink_63 rfl rfv_n ?_
      refine h_ifnonnull_n C dX8_sumWithLink_65 ?_
      refine h_lload_w C dX8_sumWithLink_68 rfl ?_
      refine h_iconst (v := (-1)) C dX8_sumWithLink_70 (by decide) ?_
      refine h_callS2 C (k_X4_added Z.l Z.G _ _ _) cw_X8_315 st_X4_added dX8_sumWithLink_71 (by first | decide | exact Nat.le_of_ble_eq_true rfl) (by decide) (by decide) (by decide) (by decide) (kL fun r8 μ10 hp10 => ?_) kN
      obtain ⟨rfl, rfl⟩ := hp10
      refine h_lst_4 C dX8_sumWithLink_74 ct_r ?_
      refine h_goto (tgt := 127) C dX8_sumWithLink_76 (by decide) ?_
      refine h_iinc_6 (q := 1) C dX8_sumWithLink_127 (by decide) ct_n ?_
      rw [show (1 + 1 : Int32) = 2 from by decide]
      refine h_goto (tgt := 49) C dX8_sumWithLink_130 (by decide) ?_
      refine h_iload_w C dX8_sumWithLink_49 rfl ?_
      refine h_iconst (v := 3) C dX8_sumWithLink_51 (by decide) ?_
      refine h_icmp_ge (tgt := 133) C dX8_sumWithLink_52 (by decide) (fun c3 => absurd c3 (by decide)) (fun c3 => ?_)
      refine h_al_g C dX8_sumWithLink_55 rfl rfl rfv_r ?_
      refine h_iload_w C dX8_sumWithLink_56 rfl ?_
      refine h_callV1 (ci := 4) C (k_X3_sessionAt Z.l Z.G P S _ hC a b ha hb _ 2 (by decide) rfl) cw_X8_224 im_X3_sessionAt sl_X3_sessionAt rfl (by decide) (CRep.kL hC ha hb) dX8_sumWithLink_58 (by first | decide | exact Nat.le_of_ble_eq_true rfl) (by decide) (by decide) (by decide) (by decide) (kO (fun μ11 hp11 => ?_) (fun s2 μ11 hp11 => ?_)) kN
      · obtain ⟨rfl, A2⟩ := hp11
        refine h_ast_7 C dX8_sumWithLink_61 ct_i rfv_n ?_
        refine h_al_w (j := 0) C dX8_sumWithLink_63 rfl rfv_n ?_
        refine h_ifnonnull_n C dX8_sumWithLink_65 ?_
        refine h_lload_w C dX8_sumWithLink_68 rfl ?_
        refine h_iconst (v := (-1)) C dX8_sumWithLink_70 (by decide) ?_
        refine h_callS2 C (k_X4_added Z.l Z.G _ _ _) cw_X8_315 st_X4_added dX8_sumWithLink_71 (by first | decide | exact Nat.le_of_ble_eq_true rfl) (by decide) (by decide) (by decide) (by decide) (kL fun r9 μ12 hp12 => ?_) kN
        obtain ⟨rfl, rfl⟩ := hp12
        refine h_lst_4 C dX8_sumWithLink_74 ct_r ?_
        refine h_goto (tgt := 127) C dX8_sumWithLink_76 (by decide) ?_
        refine h_iinc_6 (q := 1) C dX8_sumWithLink_127 (by decide) ct_n ?_
        rw [show (2 + 1 : Int32) = 3 from by decide]
        refine h_goto (tgt := 49) C dX8_sumWithLink_130 (by decide) ?_
        refine h_iload_w C dX8_sumWithLink_49 rfl ?_
        refine h_iconst (v := 3) C dX8_sumWithLink_51 (by decide) ?_
        refine h_icmp_ge (tgt := 133) C dX8_sumWithLink_52 (by decide) (fun c4 => ?_) (fun c4 => absurd (by decide) c4)
        refine h_lload_w C dX8_sumWithLink_133 rfl ?_
        refine h_lret C E dX8_sumWithLink_135 (by decide) (by decide) ?_
        exact ⟨_, rfl, rfl, by unfold SLK SLw; rw [A0, A1, A2]⟩
      · obtain ⟨rfl, r2, A2, hsl2, hs2⟩ := hp11
        refine h_ast_7 C dX8_sumWithLink_61 ct_i rfv_r ?_
        refine h_al_w (j := 0) C dX8_sumWithLink_63 rfl rfv_r ?_
        refine h_ifnonnull_r (tgt := 79) C dX8_sumWithLink_65 (by decide) ?_
        refine h_lload_w C dX8_sumWithLink_79 rfl ?_
        refine h_al_w (j := 0) C dX8_sumWithLink_81 rfl rfv_r ?_
        refine gf_X8_473 C dX8_sumWithLink_83 (SesIn.k hs2) (SesIn.f224 hs2) ?_
        refine h_callS2 C (k_X4_added Z.l Z.G _ _ _) cw_X8_315 st_X4_added dX8_sumWithLink_86 (by first | decide | exact Nat.le_of_ble_eq_true rfl) (by decide) (by decide) (by decide) (by decide) (kL fun r10 μ13 hp13 => ?_) kN
        obtain ⟨rfl, rfl⟩ := hp13
        refine h_lst_4 C dX8_sumWithLink_89 ct_r ?_
        refine h_lload_w C dX8_sumWithLink_91 rfl ?_
        refine h_al_w (j := 0) C dX8_sumWithLink_93 rfl rfv_r ?_
        refine gf_X8_422 C dX8_sumWithLink_95 (SesIn.k hs2) (SesIn.f228 hs2) ?_
        refine h_callS2 C (k_X4_added Z.l Z.G _ _ _) cw_X8_315 st_X4_added dX8_sumWithLink_98 (by first | decide | exact Nat.le_of_ble_eq_true rfl) (by decide) (by decide) (by decide) (by decide) (kL fun r11 μ14 hp14 => ?_) kN
        obtain ⟨rfl, rfl⟩ := hp14
        refine h_lst_4 C dX8_sumWithLink_101 ct_r ?_
        refine h_lload_w C dX8_sumWithLink_103 rfl ?_
        refine h_al_w (j := 0) C dX8_sumWithLink_105 rfl rfv_r ?_
        refine gf_X8_350 C dX8_sumWithLink_107 (SesIn.k hs2) (SesIn.f230 hs2) ?_
        refine h_callS2 C (k_X4_added Z.l Z.G _ _ _) cw_X8_315 st_X4_added dX8_sumWithLink_110 (by first | decide | exact Nat.le_of_ble_eq_true rfl) (by decide) (by decide) (by decide) (by decide) (kL fun r12 μ15 hp15 => ?_) kN
        obtain ⟨rfl, rfl⟩ := hp15
        refine h_lst_4 C dX8_sumWithLink_113 ct_r ?_
        refine h_lload_w C dX8_sumWithLink_115 rfl ?_
        refine h_al_w (j := 0) C dX8_sumWithLink_117 rfl rfv_r ?_
        refine gf_X8_477 C dX8_sumWithLink_119 (SesIn.k hs2) (SesIn.f231 hs2) ?_
        refine h_callS2 C (k_X4_added Z.l Z.G _ _ _) cw_X8_315 st_X4_added dX8_sumWithLink_122 (by first | decide | exact Nat.le_of_ble_eq_true rfl) (by decide) (by decide) (by decide) (by decide) (kL fun r13 μ16 hp16 => ?_) kN
        obtain ⟨rfl, rfl⟩ := hp16
        refine h_lst_4 C dX8_sumWithLink_125 ct_r ?_
        refine h_iinc_6 (q := 1) C dX8_sumWithLink_127 (by decide) ct_n ?_
        rw [show (2 + 1 : Int32) = 3 from by decide]
        refine h_goto (tgt := 49) C dX8_sumWithLink_130 (by decide) ?_
        refine h_iload_w C dX8_sumWithLink_49 rfl ?_
        refine h_iconst (v := 3) C dX8_sumWithLink_51 (by decide) ?_
        refine h_icmp_ge (tgt := 133) C dX8_sumWithLink_52 (by decide) (fun c5 => ?_) (fun c5 => absurd (by decide) c5)
        refine h_lload_w C dX8_sumWithLink_133 rfl ?_
        refine h_lret C E dX8_sumWithLink_135 (by decide) (by decide) ?_
        exact ⟨_, rfl, rfl, by unfold SLK SLw; rw [A0, A1, A2]⟩
    · obtain ⟨rfl, r1, A1, hsl1, hs1⟩ := hp9
      refine h_ast_7 C dX8_sumWithLink_61 ct_i rfv_r ?_
      refine h_al_w (j := 0) C dX8_sumWithLink_63 rfl rfv_r ?_
      refine h_ifnonnull_r (tgt := 79) C dX8_sumWithLink_65 (by decide) ?_
      refine h_lload_w C dX8_sumWithLink_79 rfl ?_
      refine h_al_w (j := 0) C dX8_sumWithLink_81 rfl rfv_r ?_
      refine gf_X8_473 C dX8_sumWithLink_83 (SesIn.k hs1) (SesIn.f224 hs1) ?_
      refine h_callS2 C (k_X4_added Z.l Z.G _ _ _) cw_X8_315 st_X4_added dX8_sumWithLink_86 (by first | decide | exact Nat.le_of_ble_eq_true rfl) (by decide) (by decide) (by decide) (by decide) (kL fun r14 μ17 hp17 => ?_) kN
      obtain ⟨rfl, rfl⟩ := hp17
      refine h_lst_4 C dX8_sumWithLink_89 ct_r ?_
      refine h_lload_w C dX8_sumWithLink_91 rfl ?_
      refine h_al_w (j := 0) C dX8_sumWithLink_93 rfl rfv_r ?_
      refine gf_X8_422 C dX8_sumWithLink_95 (SesIn.k hs1) (SesIn.f228 hs1) ?_
      refine h_callS2 C (k_X4_added Z.l Z.G _ _ _) cw_X8_315 st_X4_added dX8_sumWithLink_98 (by first | decide | exact Nat.le_of_ble_eq_true rfl) (by decide) (by decide) (by decide) (by decide) (kL fun r15 μ18 hp18 => ?_) kN
      obtain ⟨rfl, rfl⟩ := hp18
      refine h_lst_4 C dX8_sumWithLink_101 ct_r ?_
      refine h_lload_w C dX8_sumWithLink_103 rfl ?_
      refine h_al_w (j := 0) C dX8_sumWithLink_105 rfl rfv_r ?_
      refine gf_X8_350 C dX8_sumWithLink_107 (SesIn.k hs1) (SesIn.f230 hs1) ?_
      refine h_callS2 C (k_X4_added Z.l Z.G _ _ _) cw_X8_315 st_X4_added dX8_sumWithLink_110 (by first | decide | exact Nat.le_of_ble_eq_true rfl) (by decide) (by decide) (by decide) (by decide) (kL fun r16 μ19 hp19 => ?_) kN
      obtain ⟨rfl, rfl⟩ := hp19
      refine h_lst_4 C dX8_sumWithLink_113 ct_r ?_
      refine h_lload_w C dX8_sumWithLink_115 rfl ?_
      refine h_al_w (j := 0) C dX8_sumWithLink_117 rfl rfv_r ?_
      refine gf_X8_477 C dX8_sumWithLink_119 (SesIn.k hs1) (SesIn.f231 hs1) ?_
      refine h_callS2 C (k_X4_added Z.l Z.G _ _ _) cw_X8_315 st_X4_added dX8_sumWithLink_122 (by first | decide | exact Nat.le_of_ble_eq_true rfl) (by decide) (by decide) (by decide) (by decide) (kL fun r17 μ20 hp20 => ?_) kN
      obtain ⟨rfl, rfl⟩ := hp20
      refine h_lst_4 C dX8_sumWithLink_125 ct_r ?_
      refine h_iinc_6 (q := 1) C dX8_sumWithLink_127 (by decide) ct_n ?_
      rw [show (1 + 1 : Int32) = 2 from by decide]
      refine h_goto (tgt := 49) C dX8_sumWithLink_130 (by decide) ?_
      refine h_iload_w C dX8_sumWithLink_49 rfl ?_
      refine h_iconst (v := 3) C dX8_sumWithLink_51 (by decide) ?_
      refine h_icmp_ge (tgt := 133) C dX8_sumWithLink_52 (by decide) (fun c6 => absurd c6 (by decide)) (fun c6 => ?_)
      refine h_al_g C dX8_sumWithLink_55 rfl rfl rfv_r ?_
      refine h_iload_w C dX8_sumWithLink_56 rfl ?_
      refine h_callV1 (ci := 4) C (k_X3_sessionAt Z.l Z.G P S _ hC a b ha hb _ 2 (by decide) rfl) cw_X8_224 im_X3_sessionAt sl_X3_sessionAt rfl (by decide) (CRep.kL hC ha hb) dX8_sumWithLink_58 (by first | decide | exact Nat.le_of_ble_eq_true rfl) (by decide) (by decide) (by decide) (by decide) (kO (fun μ21 hp21 => ?_) (fun s2 μ21 hp21 => ?_)) kN
      · obtain ⟨rfl, A2⟩ := hp21
        refine h_ast_7 C dX8_sumWithLink_61 ct_i rfv_n ?_
        refine h_al_w (j := 0) C dX8_sumWithLink_63 rfl rfv_n ?_
        refine h_ifnonnull_n C dX8_sumWithLink_65 ?_
        refine h_lload_w C dX8_sumWithLink_68 rfl ?_
        refine h_iconst (v := (-1)) C dX8_sumWithLink_70 (by decide) ?_
        refine h_callS2 C (k_X4_added Z.l Z.G _ _ _) cw_X8_315 st_X4_added dX8_sumWithLink_71 (by first | decide | exact Nat.le_of_ble_eq_true rfl) (by decide) (by decide) (by decide) (by decide) (kL fun r18 μ22 hp22 => ?_) kN
        obtain ⟨rfl, rfl⟩ := hp22
        refine h_lst_4 C dX8_sumWithLink_74 ct_r ?_
        refine h_goto (tgt := 127) C dX8_sumWithLink_76 (by decide) ?_
        refine h_iinc_6 (q := 1) C dX8_sumWithLink_127 (by decide) ct_n ?_
        rw [show (2 + 1 : Int32) = 3 from by decide]
        refine h_goto (tgt := 49) C dX8_sumWithLink_130 (by decide) ?_
        refine h_iload_w C dX8_sumWithLink_49 rfl ?_
        refine h_iconst (v := 3) C dX8_sumWithLink_51 (by decide) ?_
        refine h_icmp_ge (tgt := 133) C dX8_sumWithLink_52 (by decide) (fun c7 => ?_) (fun c7 => absurd (by decide) c7)
        refine h_lload_w C dX8_sumWithLink_133 rfl ?_
        refine h_lret C E dX8_sumWithLink_135 (by decide) (by decide) ?_
        exact ⟨_, rfl, rfl, by unfold SLK SLw; rw [A0, A1, A2]⟩
      · obtain ⟨rfl, r2, A2, hsl2, hs2⟩ := hp21
        refine h_ast_7 C dX8_sumWithLink_61 ct_i rfv_r ?_
        refine h_al_w (j := 0) C dX8_sumWithLink_63 rfl rfv_r ?_
        refine h_ifnonnull_r (tgt := 79) C dX8_sumWithLink_65 (by decide) ?_
        refine h_lload_w C dX8_sumWithLink_79 rfl ?_
        refine h_al_w (j := 0) C dX8_sumWithLink_81 rfl rfv_r ?_
        refine gf_X8_473 C dX8_sumWithLink_83 (SesIn.k hs2) (SesIn.f224 hs2) ?_
        refine h_callS2 C (k_X4_added Z.l Z.G _ _ _) cw_X8_315 st_X4_added dX8_sumWithLink_86 (by first | decide | exact Nat.le_of_ble_eq_true rfl) (by decide) (by decide) (by decide) (by decide) (kL fun r19 μ23 hp23 => ?_) kN
        obtain ⟨rfl, rfl⟩ := hp23
        refine h_lst_4 C dX8_sumWithLink_89 ct_r ?_
        refine h_lload_w C dX8_sumWithLink_91 rfl ?_
        refine h_al_w (j := 0) C dX8_sumWithLink_93 rfl rfv_r ?_
        refine gf_X8_422 C dX8_sumWithLink_95 (SesIn.k hs2) (SesIn.f228 hs2) ?_
        refine h_callS2 C (k_X4_added Z.l Z.G _ _ _) cw_X8_315 st_X4_added dX8_sumWithLink_98 (by first | decide | exact Nat.le_of_ble_eq_true rfl) (by decide) (by decide) (by decide) (by decide) (kL fun r20 μ24 hp24 => ?_) kN
        obtain ⟨rfl, rfl⟩ := hp24
        refine h_lst_4 C dX8_sumWithLink_101 ct_r ?_
        refine h_lload_w C dX8_sumWithLink_103 rfl ?_
        refine h_al_w (j := 0) C dX8_sumWithLink_105 rfl rfv_r ?_
        refine gf_X8_350 C dX8_sumWithLink_107 (SesIn.k hs2) (SesIn.f230 hs2) ?_
        refine h_callS2 C (k_X4_added Z.l Z.G _ _ _) cw_X8_315 st_X4_added dX8_sumWithLink_110 (by first | decide | exact Nat.le_of_ble_eq_true rfl) (by decide) (by decide) (by decide) (by decide) (kL fun r21 μ25 hp25 => ?_) kN
        obtain ⟨rfl, rfl⟩ := hp25
        refine h_lst_4 C dX8_sumWithLink_113 ct_r ?_
        refine h_lload_w C dX8_sumWithLink_115 rfl ?_
        refine h_al_w (j := 0) C dX8_sumWithLink_117 rfl rfv_r ?_
        refine gf_X8_477 C dX8_sumWithLink_119 (SesIn.k hs2) (SesIn.f231 hs2) ?_
        refine h_callS2 C (k_X4_added Z.l Z.G _ _ _) cw_X8_315 st_X4_added dX8_sumWithLink_122 (by first | decide | exact Nat.le_of_ble_eq_true rfl) (by decide) (by decide) (by decide) (by decide) (kL fun r22 μ26 hp26 => ?_) kN
        obtain ⟨rfl, rfl⟩ := hp26
        refine h_lst_4 C dX8_sumWithLink_125 ct_r ?_
        refine h_iinc_6 (q := 1) C dX8_sumWithLink_127 (by decide) ct_n ?_
        rw [show (2 + 1 : Int32) = 3 from by decide]
        refine h_goto (tgt := 49) C dX8_sumWithLink_130 (by decide) ?_
        refine h_iload_w C dX8_sumWithLink_49 rfl ?_
        refine h_iconst (v := 3) C dX8_sumWithLink_51 (by decide) ?_
        refine h_icmp_ge (tgt := 133) C dX8_sumWithLink_52 (by decide) (fun c8 => ?_) (fun c8 => absurd (by decide) c8)
        refine h_lload_w C dX8_sumWithLink_133 rfl ?_
        refine h_lret C E dX8_sumWithLink_135 (by decide) (by decide) ?_
        exact ⟨_, rfl, rfl, by unfold SLK SLw; rw [A0, A1, A2]⟩
  · obtain ⟨rfl, r0, A0, hsl0, hs0⟩ := hp7
    refine h_ast_7 C dX8_sumWithLink_61 ct_i rfv_r ?_
    refine h_al_w (j := 0) C dX8_sumWithLink_63 rfl rfv_r ?_
    refine h_ifnonnull_r (tgt := 79) C dX8_sumWithLink_65 (by decide) ?_
    refine h_lload_w C dX8_sumWithLink_79 rfl ?_
    refine h_al_w (j := 0) C dX8_sumWithLink_81 rfl rfv_r ?_
    refine gf_X8_473 C dX8_sumWithLink_83 (SesIn.k hs0) (SesIn.f224 hs0) ?_
    refine h_callS2 C (k_X4_added Z.l Z.G _ _ _) cw_X8_315 st_X4_added dX8_sumWithLink_86 (by first | decide | exact Nat.le_of_ble_eq_true rfl) (by decide) (by decide) (by decide) (by decide) (kL fun r23 μ27 hp27 => ?_) kN
    obtain ⟨rfl, rfl⟩ := hp27
    refine h_lst_4 C dX8_sumWithLink_89 ct_r ?_
    refine h_lload_w C dX8_sumWithLink_91 rfl ?_
    refine h_al_w (j := 0) C dX8_sumWithLink_93 rfl rfv_r ?_
    refine gf_X8_422 C dX8_sumWithLink_95 (SesIn.k hs0) (SesIn.f228 hs0) ?_
    refine h_callS2 C (k_X4_added Z.l Z.G _ _ _) cw_X8_315 st_X4_added dX8_sumWithLink_98 (by first | decide | exact Nat.le_of_ble_eq_true rfl) (by decide) (by decide) (by decide) (by decide) (kL fun r24 μ28 hp28 => ?_) kN
    obtain ⟨rfl, rfl⟩ := hp28
    refine h_lst_4 C dX8_sumWithLink_101 ct_r ?_
    refine h_lload_w C dX8_sumWithLink_103 rfl ?_
    refine h_al_w (j := 0) C dX8_sumWithLink_105 rfl rfv_r ?_
    refine gf_X8_350 C dX8_sumWithLink_107 (SesIn.k hs0) (SesIn.f230 hs0) ?_
    refine h_callS2 C (k_X4_added Z.l Z.G _ _ _) cw_X8_315 st_X4_added dX8_sumWithLink_110 (by first | decide | exact Nat.le_of_ble_eq_true rfl) (by decide) (by decide) (by decide) (by decide) (kL fun r25 μ29 hp29 => ?_) kN
    obtain ⟨rfl, rfl⟩ := hp29
    refine h_lst_4 C dX8_sumWithLink_113 ct_r ?_
    refine h_lload_w C dX8_sumWithLink_115 rfl ?_
    refine h_al_w (j := 0) C dX8_sumWithLink_117 rfl rfv_r ?_
    refine gf_X8_477 C dX8_sumWithLink_119 (SesIn.k hs0) (SesIn.f231 hs0) ?_
    refine h_callS2 C (k_X4_added Z.l Z.G _ _ _) cw_X8_315 st_X4_added dX8_sumWithLink_122 (by first | decide | exact Nat.le_of_ble_eq_true rfl) (by decide) (by decide) (by decide) (by decide) (kL fun r26 μ30 hp30 => ?_) kN
    obtain ⟨rfl, rfl⟩ := hp30
    refine h_lst_4 C dX8_sumWithLink_125 ct_r ?_
    refine h_iinc_6 (q := 1) C dX8_sumWithLink_127 (by decide) ct_n ?_
    rw [show (0 + 1 : Int32) = 1 from by decide]
    refine h_goto (tgt := 49) C dX8_sumWithLink_130 (by decide) ?_
    refine h_iload_w C dX8_sumWithLink_49 rfl ?_
    refine h_iconst (v := 3) C dX8_sumWithLink_51 (by decide) ?_
    refine h_icmp_ge (tgt := 133) C dX8_sumWithLink_52 (by decide) (fun c9 => absurd c9 (by decide)) (fun c9 => ?_)
    refine h_al_g C dX8_sumWithLink_55 rfl rfl rfv_r ?_
    refine h_iload_w C dX8_sumWithLink_56 rfl ?_
    refine h_callV1 (ci := 4) C (k_X3_sessionAt Z.l Z.G P S _ hC a b ha hb _ 1 (by decide) rfl) cw_X8_224 im_X3_sessionAt sl_X3_sessionAt rfl (by decide) (CRep.kL hC ha hb) dX8_sumWithLink_58 (by first | decide | exact Nat.le_of_ble_eq_true rfl) (by decide) (by decide) (by decide) (by decide) (kO (fun μ31 hp31 => ?_) (fun s1 μ31 hp31 => ?_)) kN
    · obtain ⟨rfl, A1⟩ := hp31
      refine h_ast_7 C dX8_sumWithLink_61 ct_i rfv_n ?_
      refine h_al_w (j := 0) C dX8_sumWithLink_63 rfl rfv_n ?_
      refine h_ifnonnull_n C dX8_sumWithLink_65 ?_
      refine h_lload_w C dX8_sumWithLink_68 rfl ?_
      refine h_iconst (v := (-1)) C dX8_sumWithLink_70 (by decide) ?_
      refine h_callS2 C (k_X4_added Z.l Z.G _ _ _) cw_X8_315 st_X4_added dX8_sumWithLink_71 (by first | decide | exact Nat.le_of_ble_eq_true rfl) (by decide) (by decide) (by decide) (by decide) (kL fun r27 μ32 hp32 => ?_) kN
      obtain ⟨rfl, rfl⟩ := hp32
      refine h_lst_4 C dX8_sumWithLink_74 ct_r ?_
      refine h_goto (tgt := 127) C dX8_sumWithLink_76 (by decide) ?_
      refine h_iinc_6 (q := 1) C dX8_sumWithLink_127 (by decide) ct_n ?_
      rw [show (1 + 1 : Int32) = 2 from by decide]
      refine h_goto (tgt := 49) C dX8_sumWithLink_130 (by decide) ?_
      refine h_iload_w C dX8_sumWithLink_49 rfl ?_
      refine h_iconst (v := 3) C dX8_sumWithLink_51 (by decide) ?_
      refine h_icmp_ge (tgt := 133) C dX8_sumWithLink_52 (by decide) (fun c10 => absurd c10 (by decide)) (fun c10 => ?_)
      refine h_al_g C dX8_sumWithLink_55 rfl rfl rfv_r ?_
      refine h_iload_w C dX8_sumWithLink_56 rfl ?_
      refine h_callV1 (ci := 4) C (k_X3_sessionAt Z.l Z.G P S _ hC a b ha hb _ 2 (by decide) rfl) cw_X8_224 im_X3_sessionAt sl_X3_sessionAt rfl (by decide) (CRep.kL hC ha hb) dX8_sumWithLink_58 (by first | decide | exact Nat.le_of_ble_eq_true rfl) (by decide) (by decide) (by decide) (by decide) (kO (fun μ33 hp33 => ?_) (fun s2 μ33 hp33 => ?_)) kN
      · obtain ⟨rfl, A2⟩ := hp33
        refine h_ast_7 C dX8_sumWithLink_61 ct_i rfv_n ?_
        refine h_al_w (j := 0) C dX8_sumWithLink_63 rfl rfv_n ?_
        refine h_ifnonnull_n C dX8_sumWithLink_65 ?_
        refine h_lload_w C dX8_sumWithLink_68 rfl ?_
        refine h_iconst (v := (-1)) C dX8_sumWithLink_70 (by decide) ?_
        refine h_callS2 C (k_X4_added Z.l Z.G _ _ _) cw_X8_315 st_X4_added dX8_sumWithLink_71 (by first | decide | exact Nat.le_of_ble_eq_true rfl) (by decide) (by decide) (by decide) (by decide) (kL fun r28 μ34 hp34 => ?_) kN
        obtain ⟨rfl, rfl⟩ := hp34
        refine h_lst_4 C dX8_sumWithLink_74 ct_r ?_
        refine h_goto (tgt := 127) C dX8_sumWithLink_76 (by decide) ?_
        refine h_iinc_6 (q := 1) C dX8_sumWithLink_127 (by decide) ct_n ?_
        rw [show (2 + 1 : Int32) = 3 from by decide]
        refine h_goto (tgt := 49) C dX8_sumWithLink_130 (by decide) ?_
        refine h_iload_w C dX8_sumWithLink_49 rfl ?_
        refine h_iconst (v := 3) C dX8_sumWithLink_51 (by decide) ?_
        refine h_icmp_ge (tgt := 133) C dX8_sumWithLink_52 (by decide) (fun c11 => ?_) (fun c11 => absurd (by decide) c11)
        refine h_lload_w C dX8_sumWithLink_133 rfl ?_
        refine h_lret C E dX8_sumWithLink_135 (by decide) (by decide) ?_
        exact ⟨_, rfl, rfl, by unfold SLK SLw; rw [A0, A1, A2]⟩
      · obtain ⟨rfl, r2, A2, hsl2, hs2⟩ := hp33
        refine h_ast_7 C dX8_sumWithLink_61 ct_i rfv_r ?_
        refine h_al_w (j := 0) C dX8_sumWithLink_63 rfl rfv_r ?_
        refine h_ifnonnull_r (tgt := 79) C dX8_sumWithLink_65 (by decide) ?_
        refine h_lload_w C dX8_sumWithLink_79 rfl ?_
        refine h_al_w (j := 0) C dX8_sumWithLink_81 rfl rfv_r ?_
        refine gf_X8_473 C dX8_sumWithLink_83 (SesIn.k hs2) (SesIn.f224 hs2) ?_
        refine h_callS2 C (k_X4_added Z.l Z.G _ _ _) cw_X8_315 st_X4_added dX8_sumWithLink_86 (by first | decide | exact Nat.le_of_ble_eq_true rfl) (by decide) (by decide) (by decide) (by decide) (kL fun r29 μ35 hp35 => ?_) kN
        obtain ⟨rfl, rfl⟩ := hp35
        refine h_lst_4 C dX8_sumWithLink_89 ct_r ?_
        refine h_lload_w C dX8_sumWithLink_91 rfl ?_
        refine h_al_w (j := 0) C dX8_sumWithLink_93 rfl rfv_r ?_
        refine gf_X8_422 C dX8_sumWithLink_95 (SesIn.k hs2) (SesIn.f228 hs2) ?_
        refine h_callS2 C (k_X4_added Z.l Z.G _ _ _) cw_X8_315 st_X4_added dX8_sumWithLink_98 (by first | decide | exact Nat.le_of_ble_eq_true rfl) (by decide) (by decide) (by decide) (by decide) (kL fun r30 μ36 hp36 => ?_) kN
        obtain ⟨rfl, rfl⟩ := hp36
        refine h_lst_4 C dX8_sumWithLink_101 ct_r ?_
        refine h_lload_w C dX8_sumWithLink_103 rfl ?_
        refine h_al_w (j := 0) C dX8_sumWithLink_105 rfl rfv_r ?_
        refine gf_X8_350 C dX8_sumWithLink_107 (SesIn.k hs2) (SesIn.f230 hs2) ?_
        refine h_callS2 C (k_X4_added Z.l Z.G _ _ _) cw_X8_315 st_X4_added dX8_sumWithLink_110 (by first | decide | exact Nat.le_of_ble_eq_true rfl) (by decide) (by decide) (by decide) (by decide) (kL fun r31 μ37 hp37 => ?_) kN
        obtain ⟨rfl, rfl⟩ := hp37
        refine h_lst_4 C dX8_sumWithLink_113 ct_r ?_
        refine h_lload_w C dX8_sumWithLink_115 rfl ?_
        refine h_al_w (j := 0) C dX8_sumWithLink_117 rfl rfv_r ?_
        refine gf_X8_477 C dX8_sumWithLink_119 (SesIn.k hs2) (SesIn.f231 hs2) ?_
        refine h_callS2 C (k_X4_added Z.l Z.G _ _ _) cw_X8_315 st_X4_added dX8_sumWithLink_122 (by first | decide | exact Nat.le_of_ble_eq_true rfl) (by decide) (by decide) (by decide) (by decide) (kL fun r32 μ38 hp38 => ?_) kN
        obtain ⟨rfl, rfl⟩ := hp38
        refine h_lst_4 C dX8_sumWithLink_125 ct_r ?_
        refine h_iinc_6 (q := 1) C dX8_sumWithLink_127 (by decide) ct_n ?_
        rw [show (2 + 1 : Int32) = 3 from by decide]
        refine h_goto (tgt := 49) C dX8_sumWithLink_130 (by decide) ?_
        refine h_iload_w C dX8_sumWithLink_49 rfl ?_
        refine h_iconst (v := 3) C dX8_sumWithLink_51 (by decide) ?_
        refine h_icmp_ge (tgt := 133) C dX8_sumWithLink_52 (by decide) (fun c12 => ?_) (fun c12 => absurd (by decide) c12)
        refine h_lload_w C dX8_sumWithLink_133 rfl ?_
        refine h_lret C E dX8_sumWithLink_135 (by decide) (by decide) ?_
        exact ⟨_, rfl, rfl, by unfold SLK SLw; rw [A0, A1, A2]⟩
    · obtain ⟨rfl, r1, A1, hsl1, hs1⟩ := hp31
      refine h_ast_7 C dX8_sumWithLink_61 ct_i rfv_r ?_
      refine h_al_w (j := 0) C dX8_sumWithLink_63 rfl rfv_r ?_
      refine h_ifnonnull_r (tgt := 79) C dX8_sumWithLink_65 (by decide) ?_
      refine h_lload_w C dX8_sumWithLink_79 rfl ?_
      refine h_al_w (j := 0) C dX8_sumWithLink_81 rfl rfv_r ?_
      refine gf_X8_473 C dX8_sumWithLink_83 (SesIn.k hs1) (SesIn.f224 hs1) ?_
      refine h_callS2 C (k_X4_added Z.l Z.G _ _ _) cw_X8_315 st_X4_added dX8_sumWithLink_86 (by first | decide | exact Nat.le_of_ble_eq_true rfl) (by decide) (by decide) (by decide) (by decide) (kL fun r33 μ39 hp39 => ?_) kN
      obtain ⟨rfl, rfl⟩ := hp39
      refine h_lst_4 C dX8_sumWithLink_89 ct_r ?_
      refine h_lload_w C dX8_sumWithLink_91 rfl ?_
      refine h_al_w (j := 0) C dX8_sumWithLink_93 rfl rfv_r ?_
      refine gf_X8_422 C dX8_sumWithLink_95 (SesIn.k hs1) (SesIn.f228 hs1) ?_
      refine h_callS2 C (k_X4_added Z.l Z.G _ _ _) cw_X8_315 st_X4_added dX8_sumWithLink_98 (by first | decide | exact Nat.le_of_ble_eq_true rfl) (by decide) (by decide) (by decide) (by decide) (kL fun r34 μ40 hp40 => ?_) kN
      obtain ⟨rfl, rfl⟩ := hp40
      refine h_lst_4 C dX8_sumWithLink_101 ct_r ?_
      refine h_lload_w C dX8_sumWithLink_103 rfl ?_
      refine h_al_w (j := 0) C dX8_sumWithLink_105 rfl rfv_r ?_
      refine gf_X8_350 C dX8_sumWithLink_107 (SesIn.k hs1) (SesIn.f230 hs1) ?_
      refine h_callS2 C (k_X4_added Z.l Z.G _ _ _) cw_X8_315 st_X4_added dX8_sumWithLink_110 (by first | decide | exact Nat.le_of_ble_eq_true rfl) (by decide) (by decide) (by decide) (by decide) (kL fun r35 μ41 hp41 => ?_) kN
      obtain ⟨rfl, rfl⟩ := hp41
      refine h_lst_4 C dX8_sumWithLink_113 ct_r ?_
      refine h_lload_w C dX8_sumWithLink_115 rfl ?_
      refine h_al_w (j := 0) C dX8_sumWithLink_117 rfl rfv_r ?_
      refine gf_X8_477 C dX8_sumWithLink_119 (SesIn.k hs1) (SesIn.f231 hs1) ?_
      refine h_callS2 C (k_X4_added Z.l Z.G _ _ _) cw_X8_315 st_X4_added dX8_sumWithLink_122 (by first | decide | exact Nat.le_of_ble_eq_true rfl) (by decide) (by decide) (by decide) (by decide) (kL fun r36 μ42 hp42 => ?_) kN
      obtain ⟨rfl, rfl⟩ := hp42
      refine h_lst_4 C dX8_sumWithLink_125 ct_r ?_
      refine h_iinc_6 (q := 1) C dX8_sumWithLink_127 (by decide) ct_n ?_
      rw [show (1 + 1 : Int32) = 2 from by decide]
      refine h_goto (tgt := 49) C dX8_sumWithLink_130 (by decide) ?_
      refine h_iload_w C dX8_sumWithLink_49 rfl ?_
      refine h_iconst (v := 3) C dX8_sumWithLink_51 (by decide) ?_
      refine h_icmp_ge (tgt := 133) C dX8_sumWithLink_52 (by decide) (fun c13 => absurd c13 (by decide)) (fun c13 => ?_)
      refine h_al_g C dX8_sumWithLink_55 rfl rfl rfv_r ?_
      refine h_iload_w C dX8_sumWithLink_56 rfl ?_
      refine h_callV1 (ci := 4) C (k_X3_sessionAt Z.l Z.G P S _ hC a b ha hb _ 2 (by decide) rfl) cw_X8_224 im_X3_sessionAt sl_X3_sessionAt rfl (by decide) (CRep.kL hC ha hb) dX8_sumWithLink_58 (by first | decide | exact Nat.le_of_ble_eq_true rfl) (by decide) (by decide) (by decide) (by decide) (kO (fun μ43 hp43 => ?_) (fun s2 μ43 hp43 => ?_)) kN
      · obtain ⟨rfl, A2⟩ := hp43
        refine h_ast_7 C dX8_sumWithLink_61 ct_i rfv_n ?_
        refine h_al_w (j := 0) C dX8_sumWithLink_63 rfl rfv_n ?_
        refine h_ifnonnull_n C dX8_sumWithLink_65 ?_
        refine h_lload_w C dX8_sumWithLink_68 rfl ?_
        refine h_iconst (v := (-1)) C dX8_sumWithLink_70 (by decide) ?_
        refine h_callS2 C (k_X4_added Z.l Z.G _ _ _) cw_X8_315 st_X4_added dX8_sumWithLink_71 (by first | decide | exact Nat.le_of_ble_eq_true rfl) (by decide) (by decide) (by decide) (by decide) (kL fun r37 μ44 hp44 => ?_) kN
        obtain ⟨rfl, rfl⟩ := hp44
        refine h_lst_4 C dX8_sumWithLink_74 ct_r ?_
        refine h_goto (tgt := 127) C dX8_sumWithLink_76 (by decide) ?_
        refine h_iinc_6 (q := 1) C dX8_sumWithLink_127 (by decide) ct_n ?_
        rw [show (2 + 1 : Int32) = 3 from by decide]
        refine h_goto (tgt := 49) C dX8_sumWithLink_130 (by decide) ?_
        refine h_iload_w C dX8_sumWithLink_49 rfl ?_
        refine h_iconst (v := 3) C dX8_sumWithLink_51 (by decide) ?_
        refine h_icmp_ge (tgt := 133) C dX8_sumWithLink_52 (by decide) (fun c14 => ?_) (fun c14 => absurd (by decide) c14)
        refine h_lload_w C dX8_sumWithLink_133 rfl ?_
        refine h_lret C E dX8_sumWithLink_135 (by decide) (by decide) ?_
        exact ⟨_, rfl, rfl, by unfold SLK SLw; rw [A0, A1, A2]⟩
      · obtain ⟨rfl, r2, A2, hsl2, hs2⟩ := hp43
        refine h_ast_7 C dX8_sumWithLink_61 ct_i rfv_r ?_
        refine h_al_w (j := 0) C dX8_sumWithLink_63 rfl rfv_r ?_
        refine h_ifnonnull_r (tgt := 79) C dX8_sumWithLink_65 (by decide) ?_
        refine h_lload_w C dX8_sumWithLink_79 rfl ?_
        refine h_al_w (j := 0) C dX8_sumWithLink_81 rfl rfv_r ?_
        refine gf_X8_473 C dX8_sumWithLink_83 (SesIn.k hs2) (SesIn.f224 hs2) ?_
        refine h_callS2 C (k_X4_added Z.l Z.G _ _ _) cw_X8_315 st_X4_added dX8_sumWithLink_86 (by first | decide | exact Nat.le_of_ble_eq_true rfl) (by decide) (by decide) (by decide) (by decide) (kL fun r38 μ45 hp45 => ?_) kN
        obtain ⟨rfl, rfl⟩ := hp45
        refine h_lst_4 C dX8_sumWithLink_89 ct_r ?_
        refine h_lload_w C dX8_sumWithLink_91 rfl ?_
        refine h_al_w (j := 0) C dX8_sumWithLink_93 rfl rfv_r ?_
        refine gf_X8_422 C dX8_sumWithLink_95 (SesIn.k hs2) (SesIn.f228 hs2) ?_
        refine h_callS2 C (k_X4_added Z.l Z.G _ _ _) cw_X8_315 st_X4_added dX8_sumWithLink_98 (by first | decide | exact Nat.le_of_ble_eq_true rfl) (by decide) (by decide) (by decide) (by decide) (kL fun r39 μ46 hp46 => ?_) kN
        obtain ⟨rfl, rfl⟩ := hp46
        refine h_lst_4 C dX8_sumWithLink_101 ct_r ?_
        refine h_lload_w C dX8_sumWithLink_103 rfl ?_
        refine h_al_w (j := 0) C dX8_sumWithLink_105 rfl rfv_r ?_
        refine gf_X8_350 C dX8_sumWithLink_107 (SesIn.k hs2) (SesIn.f230 hs2) ?_
        refine h_callS2 C (k_X4_added Z.l Z.G _ _ _) cw_X8_315 st_X4_added dX8_sumWithLink_110 (by first | decide | exact Nat.le_of_ble_eq_true rfl) (by decide) (by decide) (by decide) (by decide) (kL fun r40 μ47 hp47 => ?_) kN
        obtain ⟨rfl, rfl⟩ := hp47
        refine h_lst_4 C dX8_sumWithLink_113 ct_r ?_
        refine h_lload_w C dX8_sumWithLink_115 rfl ?_
        refine h_al_w (j := 0) C dX8_sumWithLink_117 rfl rfv_r ?_
        refine gf_X8_477 C dX8_sumWithLink_119 (SesIn.k hs2) (SesIn.f231 hs2) ?_
        refine h_callS2 C (k_X4_added Z.l Z.G _ _ _) cw_X8_315 st_X4_added dX8_sumWithLink_122 (by first | decide | exact Nat.le_of_ble_eq_true rfl) (by decide) (by decide) (by decide) (by decide) (kL fun r41 μ48 hp48 => ?_) kN
        obtain ⟨rfl, rfl⟩ := hp48
        refine h_lst_4 C dX8_sumWithLink_125 ct_r ?_
        refine h_iinc_6 (q := 1) C dX8_sumWithLink_127 (by decide) ct_n ?_
        rw [show (2 + 1 : Int32) = 3 from by decide]
        refine h_goto (tgt := 49) C dX8_sumWithLink_130 (by decide) ?_
        refine h_iload_w C dX8_sumWithLink_49 rfl ?_
        refine h_iconst (v := 3) C dX8_sumWithLink_51 (by decide) ?_
        refine h_icmp_ge (tgt := 133) C dX8_sumWithLink_52 (by decide) (fun c15 => ?_) (fun c15 => absurd (by decide) c15)
        refine h_lload_w C dX8_sumWithLink_133 rfl ?_
        refine h_lret C E dX8_sumWithLink_135 (by decide) (by decide) ?_
        exact ⟨_, rfl, rfl, by unfold SLK SLw; rw [A0, A1, A2]⟩

end
