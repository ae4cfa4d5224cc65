section
/-- the model's picture, the running sum at v -/
def HS (Q : Nat → Nat) (μ0 : Mem) (S : Sx) (t : Int32) (v : Int64) (μ : Mem) : Prop := MTo Q WAll μ0 S (LXo S t) μ ∧ μ.fl 314 (Q 0) = v
theorem HS.add {Q : Nat → Nat} {μ0 μ m : Mem} {S : Sx} {t : Int32} {v x : Int64} (h : HS Q μ0 S t v μ) (e : m = μ.sfl 314 (Q 0) (31 * μ.fl 314 (Q 0) + x)) : HS Q μ0 S t (31 * v + x) m := by
  obtain ⟨h1, h2⟩ := h
  refine ⟨h1.sfl (Or.inr trivial) e (h1.1.w314 e), ?_⟩
  rw [e, ← h2]
  show u2 μ.fl 314 (Q 0) (31 * μ.fl 314 (Q 0) + x) 314 (Q 0) = _
  exact u2_eq
theorem MRq.seAt {Q : Nat → Nat} {S : Sx} {l : LX} {μ : Mem} (h : MRq Q S l μ) {a b w s : Nat} (ha : a < 3) (hb : b < 3) (hw : w < 3) (hh : ¬ l.hs a b w) (hs : μ.er (Q (72 + 3 * a + b)) w = some s) : μ.kd s = KSE a b w ∧ μ.ln s = 9 ∧ sesM (μ.ei s) (S.ses a b w) := by
  obtain ⟨s9, s1, s2⟩ := h.se ha hb hw hh
  cases hs.symm.trans s1
  exact s2
theorem MRq.ouAt {Q : Nat → Nat} {S : Sx} {l : LX} {μ : Mem} (h : MRq Q S l μ) {A : Nat} (hA : μ.fr 313 (Q 0) = some A) : μ.kd A = KOA ∧ μ.ln A = S.ou.length ∧ ∀ k r, S.ou[k]? = some r → ∃ p, μ.er A k = some p ∧ RowAt μ KIM p 5 r := by
  obtain ⟨-, A9, a1, a2⟩ := h.ou
  cases hA.symm.trans a1
  exact a2
theorem adv_m1 (v : Int64) : 31 * v + -1 = ADV v (-1) := rfl
set_option maxRecDepth 100000 in
set_option maxHeartbeats 1000000 in
theorem bl_c1 {Z : Zx} {mc ms k n : Nat} {Q : Nat → Nat} {μ0 μ : Mem} {S : Sx} {t : Int32} {v : Int64} (C : Cx Z RX9 cX9_checksum 1 mc ms 23) (hk : k ≤ mc) (hn : n ≤ ms) (hS : HS Q μ0 S t v μ) {i : Nat} (hi : i < 3) (kk : ∀ m, HS Q μ0 S t (CKa S i v) m → ∀ z2 z3 z4 z5 : Option Value, HW Z k n 18 [some (.ref (Q 0)), some (.int (nI (i + 1))), z2, z3, z4, z5] [] m) : ∀ z2 z3 z4 z5 : Option Value, HW Z k n 18 [some (.ref (Q 0)), some (.int (nI i)), z2, z3, z4, z5] [] μ := by
  intro z2 z3 z4 z5
  have hM := hS.1.1
  refine h_iload_g C dX9_checksum_18 rfl rfl ?_
  refine h_iconst (v := 3) C dX9_checksum_19 (by decide) ?_
  refine h_icmp_ge (tgt := 69) C dX9_checksum_20 (by decide) (fun c1 => absurd c1 ((by exact nI_ge (b := 3) (by omega) (by decide)))) (fun c1 => ?_)
  refine h_al_g C dX9_checksum_23 rfl rfl rfv_r ?_
  refine h_al_g C dX9_checksum_24 rfl rfl rfv_r ?_
  refine gs_X9_13 C dX9_checksum_25 hM.kX (hM.fA (i := 1) (by decide)) ?_
  refine h_iload_g C dX9_checksum_28 rfl rfl ?_
  refine h_iald C dX9_checksum_29 (hM.k11 (by decide)) (inb (hM.ln3 (by decide)) (vp_in_nI hi (by decide))) (atI (cl_of (n := i) (by have h9 := hi; omega)) (hM.a1 hi)) ?_
  refine h_i2l C dX9_checksum_30 ?_
  refine h_callV1 (ci := 9) C (k_X9_add Z.l Z.G (Q 0) _ hM.kX _) cw_X9_291 im_X9_add sl_X9_add rfl (by decide) hM.kX dX9_checksum_31 (by first | decide | exact Nat.le_of_ble_eq_true rfl) (by decide) (by decide) (by omega) (by omega) (kV fun μ1 hp1 => ?_) kN
  have e9 := hp1
  have hS := hS.add e9
  have hM := hS.1.1
  refine h_al_g C dX9_checksum_34 rfl rfl rfv_r ?_
  refine h_al_g C dX9_checksum_35 rfl rfl rfv_r ?_
  refine gs_X9_26 C dX9_checksum_36 hM.kX (hM.fA (i := 5) (by decide)) ?_
  refine h_iload_g C dX9_checksum_39 rfl rfl ?_
  refine h_zald C dX9_checksum_40 hM.k12 (inb (hM.ln3 (by decide)) (vp_in_nI hi (by decide))) (atI (cl_of (n := i) (by have h9 := hi; omega)) (hM.a5 hi)) ?_
  refine h_if_eq (tgt := 48) C dX9_checksum_41 (by decide) (fun cA => ?_) (fun cA => ?_)
  · refine h_lconst (v := 0) C dX9_checksum_48 (by decide) ?_
    refine h_callV1 (ci := 9) C (k_X9_add Z.l Z.G (Q 0) _ hM.kX _) cw_X9_291 im_X9_add sl_X9_add rfl (by decide) hM.kX dX9_checksum_49 (by first | decide | exact Nat.le_of_ble_eq_true rfl) (by decide) (by decide) (by omega) (by omega) (kV fun μ2 hp2 => ?_) kN
    have e9 := hp2
    have hS := hS.add e9
    have hM := hS.1.1
    refine h_al_g C dX9_checksum_52 rfl rfl rfv_r ?_
    refine h_al_g C dX9_checksum_53 rfl rfl rfv_r ?_
    refine gs_X9_17 C dX9_checksum_54 hM.kX (hM.fA (i := 2) (by decide)) ?_
    refine h_iload_g C dX9_checksum_57 rfl rfl ?_
    refine h_iald C dX9_checksum_58 (hM.k11 (by decide)) (inb (hM.ln3 (by decide)) (vp_in_nI hi (by decide))) (atI (cl_of (n := i) (by have h9 := hi; omega)) (hM.a2 hi)) ?_
    refine h_i2l C dX9_checksum_59 ?_
    refine h_callV1 (ci := 9) C (k_X9_add Z.l Z.G (Q 0) _ hM.kX _) cw_X9_291 im_X9_add sl_X9_add rfl (by decide) hM.kX dX9_checksum_60 (by first | decide | exact Nat.le_of_ble_eq_true rfl) (by decide) (by decide) (by omega) (by omega) (kV fun μ3 hp3 => ?_) kN
    have e9 := hp3
    have hS := hS.add e9
    have hM := hS.1.1
    refine h_iinc_1 (q := 1) C dX9_checksum_63 (by decide) ct_r ?_
    refine h_goto (tgt := 18) C dX9_checksum_66 (by decide) ?_
    rw [nI_1]
    exact kk _ (by unfold CKa; rw [if_pos cA]; exact hS) _ _ _ _
  · refine h_lconst (v := 1) C dX9_checksum_44 (by decide) ?_
    refine h_goto (tgt := 49) C dX9_checksum_45 (by decide) ?_
    refine h_callV1 (ci := 9) C (k_X9_add Z.l Z.G (Q 0) _ hM.kX _) cw_X9_291 im_X9_add sl_X9_add rfl (by decide) hM.kX dX9_checksum_49 (by first | decide | exact Nat.le_of_ble_eq_true rfl) (by decide) (by decide) (by omega) (by omega) (kV fun μ4 hp4 => ?_) kN
    have e9 := hp4
    have hS := hS.add e9
    have hM := hS.1.1
    refine h_al_g C dX9_checksum_52 rfl rfl rfv_r ?_
    refine h_al_g C dX9_checksum_53 rfl rfl rfv_r ?_
    refine gs_X9_17 C dX9_checksum_54 hM.kX (hM.fA (i := 2) (by decide)) ?_
    refine h_iload_g C dX9_checksum_57 rfl rfl ?_
    refine h_iald C dX9_checksum_58 (hM.k11 (by decide)) (inb (hM.ln3 (by decide)) (vp_in_nI hi (by decide))) (atI (cl_of (n := i) (by have h9 := hi; omega)) (hM.a2 hi)) ?_
    refine h_i2l C dX9_checksum_59 ?_
    refine h_callV1 (ci := 9) C (k_X9_add Z.l Z.G (Q 0) _ hM.kX _) cw_X9_291 im_X9_add sl_X9_add rfl (by decide) hM.kX dX9_checksum_60 (by first | decide | exact Nat.le_of_ble_eq_true rfl) (by decide) (by decide) (by omega) (by omega) (kV fun μ5 hp5 => ?_) kN
    have e9 := hp5
    have hS := hS.add e9
    have hM := hS.1.1
    refine h_iinc_1 (q := 1) C dX9_checksum_63 (by decide) ct_r ?_
    refine h_goto (tgt := 18) C dX9_checksum_66 (by decide) ?_
    rw [nI_1]
    exact kk _ (by unfold CKa; rw [if_neg cA]; exact hS) _ _ _ _

set_option maxRecDepth 100000 in
set_option maxHeartbeats 1000000 in
theorem bl_c1e {Z : Zx} {mc ms k n : Nat} {Q : Nat → Nat} {μ0 μ : Mem} {S : Sx} {t : Int32} {v : Int64} (C : Cx Z RX9 cX9_checksum 1 mc ms 23) (hk : k ≤ mc) (hn : n ≤ ms) (hS : HS Q μ0 S t v μ)  (kk : ∀ m, HS Q μ0 S t v m → ∀ z2 z3 z4 z5 : Option Value, HW Z k n 71 [some (.ref (Q 0)), some (.int (nI 0)), z2, z3, z4, z5] [] m) : ∀ z2 z3 z4 z5 : Option Value, HW Z k n 18 [some (.ref (Q 0)), some (.int (nI 3)), z2, z3, z4, z5] [] μ := by
  intro z2 z3 z4 z5
  have hM := hS.1.1
  refine h_iload_g C dX9_checksum_18 rfl rfl ?_
  refine h_iconst (v := 3) C dX9_checksum_19 (by decide) ?_
  refine h_icmp_ge (tgt := 69) C dX9_checksum_20 (by decide) (fun c1 => ?_) (fun c1 => absurd (by decide) c1)
  refine h_iconst (v := 0) C dX9_checksum_69 (by decide) ?_
  refine h_ist_1 C dX9_checksum_70 ct_r ?_
  exact kk _ hS _ _ _ _

set_option maxRecDepth 100000 in
set_option maxHeartbeats 1000000 in
theorem bl_c2w {Z : Zx} {mc ms k n : Nat} {Q : Nat → Nat} {μ0 μ : Mem} {S : Sx} {t : Int32} {v : Int64} (C : Cx Z RX9 cX9_checksum 1 mc ms 23) (hk : k ≤ mc) (hn : n ≤ ms) (hS : HS Q μ0 S t v μ) {a b w : Nat} (ha : a < 3) (hb : b < 3) (hw : w < 3) (kk : ∀ m, HS Q μ0 S t (SLw S a b w v) m → ∀ z4 z5 : Option Value, HW Z k n 145 [some (.ref (Q 0)), some (.int (nI a)), some (.int (nI b)), some (.int (nI (w + 1))), z4, z5] [] m) : ∀ z4 z5 : Option Value, HW Z k n 145 [some (.ref (Q 0)), some (.int (nI a)), some (.int (nI b)), some (.int (nI w)), z4, z5] [] μ := by
  intro z4 z5
  have hM := hS.1.1
  refine h_iload_g C dX9_checksum_145 rfl rfl ?_
  refine h_iconst (v := 3) C dX9_checksum_146 (by decide) ?_
  refine h_icmp_ge (tgt := 234) C dX9_checksum_147 (by decide) (fun c1 => absurd c1 ((by exact nI_ge (b := 3) (by omega) (by decide)))) (fun c1 => ?_)
  refine h_al_g C dX9_checksum_150 rfl rfl rfv_r ?_
  refine gs_X9_72 C dX9_checksum_151 hM.kX (hM.fA (i := 18) (by decide)) ?_
  refine h_iload_g C dX9_checksum_154 rfl rfl ?_
  refine h_aald (r := some _) C dX9_checksum_155 (hM.kr (by decide)) (inb (hM.ln3 (by decide)) (vp_in_nI ha (by decide))) (atI (cl_of (n := a) (by have h9 := ha; omega)) (hM.d1 (i := 1) (by decide) ha)) ?_
  refine h_iload_g C dX9_checksum_156 rfl rfl ?_
  refine h_aald (r := some _) C dX9_checksum_157 (hM.kr (by have h0_ := ha; omega)) (inb (hM.ln3 (by have h0_ := ha; omega)) (vp_in_nI hb (by decide))) (atI (cl_of (n := b) (by have h9 := hb; omega)) (hM.d2 (i := 1) (by decide) ha hb)) ?_
  obtain ⟨s, hs1, -⟩ := hM.se ha hb hw (fun z => z)
  refine h_iload_g C dX9_checksum_158 rfl rfl ?_
  refine h_aald (r := some _) C dX9_checksum_159 (hM.kr (by omega)) (inb (hM.ln3 (by omega)) (vp_in_nI hw (by decide))) (atI (cl_of (by omega)) hs1) ?_
  refine h_ast_4 C dX9_checksum_160 ct_i rfv_r ?_
  refine h_al_g C dX9_checksum_162 rfl rfl rfv_r ?_
  refine h_al_g C dX9_checksum_163 rfl rfl rfv_r ?_
  refine h_iload_g C dX9_checksum_164 rfl rfl ?_
  refine h_iload_g C dX9_checksum_165 rfl rfl ?_
  refine h_iload_g C dX9_checksum_166 rfl rfl ?_
  refine h_callV3 (ci := 9) C (k_X9_isThere Z.l Z.G Q S _ _ hM _ ha _ rfl _ hb _ rfl _ hw _ rfl) cw_X9_166 im_X9_isThere sl_X9_isThere rfl (by decide) hM.kX dX9_checksum_167 (by first | decide | exact Nat.le_of_ble_eq_true rfl) (by decide) (by decide) (by omega) (by omega) (kB (fun μ1 hp1 => ?_) (fun μ1 hp1 => ?_)) kN
  · obtain ⟨rfl, r, hr⟩ := hp1
    refine h_if_eq (tgt := 181) C dX9_checksum_170 (by decide) (fun c2 => absurd c2 (by decide)) (fun c2 => ?_)
    refine h_al_w (j := 0) C dX9_checksum_173 rfl rfv_r ?_
    obtain ⟨s2, s3, s4⟩ := hM.seAt ha hb hw (fun z => z) hs1
    rw [hr] at s4
    refine h_iconst (v := 0) C dX9_checksum_175 (by decide) ?_
    refine h_iald C dX9_checksum_176 (by rw [s2]; exact KSE_m _ _ _) (inb s3 (vp_in_nI (n := 0) (by decide) (by decide))) (s4.2 0 (by decide)) ?_
    refine h_i2l C dX9_checksum_177 ?_
    refine h_goto (tgt := 184) C dX9_checksum_178 (by decide) ?_
    refine h_callV1 (ci := 9) C (k_X9_add Z.l Z.G (Q 0) _ hM.kX _) cw_X9_291 im_X9_add sl_X9_add rfl (by decide) hM.kX dX9_checksum_184 (by first | decide | exact Nat.le_of_ble_eq_true rfl) (by decide) (by decide) (by omega) (by omega) (kV fun μ2 hp2 => ?_) kN
    have e9 := hp2
    have hS := hS.add e9
    have hM := hS.1.1
    have hs1 : μ2.er (Q (72 + 3 * a + b)) w = some s := by rw [e9]; exact hs1
    refine h_al_g C dX9_checksum_187 rfl rfl rfv_r ?_
    refine h_iload_g C dX9_checksum_188 rfl rfl ?_
    refine h_iload_g C dX9_checksum_189 rfl rfl ?_
    refine h_iload_g C dX9_checksum_190 rfl rfl ?_
    refine h_callV3 (ci := 9) C (k_X9_isThere Z.l Z.G Q S _ _ hM _ ha _ rfl _ hb _ rfl _ hw _ rfl) cw_X9_166 im_X9_isThere sl_X9_isThere rfl (by decide) hM.kX dX9_checksum_191 (by first | decide | exact Nat.le_of_ble_eq_true rfl) (by decide) (by decide) (by omega) (by omega) (kB (fun μ3 hp3 => ?_) (fun μ3 hp3 => ?_)) kN
    · obtain ⟨rfl, r, hr9⟩ := hp3
      refine h_if_ne (tgt := 200) C dX9_checksum_194 (by decide) (fun c3 => ?_) (fun c3 => absurd c3 (by decide))
      refine h_al_g C dX9_checksum_200 rfl rfl rfv_r ?_
      refine h_al_w (j := 0) C dX9_checksum_201 rfl rfv_r ?_
      obtain ⟨s2, s3, s4⟩ := hM.seAt ha hb hw (fun z => z) hs1
      rw [hr] at s4
      refine h_iconst (v := 3) C dX9_checksum_203 (by decide) ?_
      refine h_iald C dX9_checksum_204 (by rw [s2]; exact KSE_m _ _ _) (inb s3 (vp_in_nI (n := 3) (by decide) (by decide))) (s4.2 3 (by decide)) ?_
      refine h_i2l C dX9_checksum_205 ?_
      refine h_callV1 (ci := 9) C (k_X9_add Z.l Z.G (Q 0) _ hM.kX _) cw_X9_291 im_X9_add sl_X9_add rfl (by decide) hM.kX dX9_checksum_206 (by first | decide | exact Nat.le_of_ble_eq_true rfl) (by decide) (by decide) (by omega) (by omega) (kV fun μ4 hp4 => ?_) kN
      have e9 := hp4
      have hS := hS.add e9
      have hM := hS.1.1
      have hs1 : μ4.er (Q (72 + 3 * a + b)) w = some s := by rw [e9]; exact hs1
      refine h_al_g C dX9_checksum_209 rfl rfl rfv_r ?_
      refine h_al_w (j := 0) C dX9_checksum_210 rfl rfv_r ?_
      obtain ⟨s2, s3, s4⟩ := hM.seAt ha hb hw (fun z => z) hs1
      rw [hr] at s4
      refine h_iconst (v := 5) C dX9_checksum_212 (by decide) ?_
      refine h_iald C dX9_checksum_213 (by rw [s2]; exact KSE_m _ _ _) (inb s3 (vp_in_nI (n := 5) (by decide) (by decide))) (s4.2 5 (by decide)) ?_
      refine h_i2l C dX9_checksum_214 ?_
      refine h_callV1 (ci := 9) C (k_X9_add Z.l Z.G (Q 0) _ hM.kX _) cw_X9_291 im_X9_add sl_X9_add rfl (by decide) hM.kX dX9_checksum_215 (by first | decide | exact Nat.le_of_ble_eq_true rfl) (by decide) (by decide) (by omega) (by omega) (kV fun μ5 hp5 => ?_) kN
      have e9 := hp5
      have hS := hS.add e9
      have hM := hS.1.1
      have hs1 : μ5.er (Q (72 + 3 * a + b)) w = some s := by rw [e9]; exact hs1
      refine h_al_g C dX9_checksum_218 rfl rfl rfv_r ?_
      refine h_al_w (j := 0) C dX9_checksum_219 rfl rfv_r ?_
      obtain ⟨s2, s3, s4⟩ := hM.seAt ha hb hw (fun z => z) hs1
      rw [hr] at s4
      refine h_bipush (v := 8) C dX9_checksum_221 (by decide) ?_
      refine h_iald C dX9_checksum_223 (by rw [s2]; exact KSE_m _ _ _) (inb s3 (vp_in_nI (n := 8) (by decide) (by decide))) (s4.2 8 (by decide)) ?_
      refine h_i2l C dX9_checksum_224 ?_
      refine h_callV1 (ci := 9) C (k_X9_add Z.l Z.G (Q 0) _ hM.kX _) cw_X9_291 im_X9_add sl_X9_add rfl (by decide) hM.kX dX9_checksum_225 (by first | decide | exact Nat.le_of_ble_eq_true rfl) (by decide) (by decide) (by omega) (by omega) (kV fun μ6 hp6 => ?_) kN
      have e9 := hp6
      have hS := hS.add e9
      have hM := hS.1.1
      refine h_iinc_3 (q := 1) C dX9_checksum_228 (by decide) ct_i ?_
      refine h_goto (tgt := 145) C dX9_checksum_231 (by decide) ?_
      rw [nI_1]
      exact kk _ (by unfold SLw; rw [hr]; exact hS) _ _
    · obtain ⟨rfl, hr9⟩ := hp3
      exact absurd (hr.symm.trans hr9) (by intro z; cases z)
  · obtain ⟨rfl, hr⟩ := hp1
    refine h_if_eq (tgt := 181) C dX9_checksum_170 (by decide) (fun c4 => ?_) (fun c4 => absurd (by decide) c4)
    refine h_ldc2 C kc_X9_285 dX9_checksum_181 ?_
    refine h_callV1 (ci := 9) C (k_X9_add Z.l Z.G (Q 0) _ hM.kX _) cw_X9_291 im_X9_add sl_X9_add rfl (by decide) hM.kX dX9_checksum_184 (by first | decide | exact Nat.le_of_ble_eq_true rfl) (by decide) (by decide) (by omega) (by omega) (kV fun μ7 hp7 => ?_) kN
    have e9 := hp7
    have hS := hS.add e9
    have hM := hS.1.1
    refine h_al_g C dX9_checksum_187 rfl rfl rfv_r ?_
    refine h_iload_g C dX9_checksum_188 rfl rfl ?_
    refine h_iload_g C dX9_checksum_189 rfl rfl ?_
    refine h_iload_g C dX9_checksum_190 rfl rfl ?_
    refine h_callV3 (ci := 9) C (k_X9_isThere Z.l Z.G Q S _ _ hM _ ha _ rfl _ hb _ rfl _ hw _ rfl) cw_X9_166 im_X9_isThere sl_X9_isThere rfl (by decide) hM.kX dX9_checksum_191 (by first | decide | exact Nat.le_of_ble_eq_true rfl) (by decide) (by decide) (by omega) (by omega) (kB (fun μ8 hp8 => ?_) (fun μ8 hp8 => ?_)) kN
    · obtain ⟨rfl, r, hr9⟩ := hp8
      exact absurd (hr.symm.trans hr9) (by intro z; cases z)
    · obtain ⟨rfl, hr9⟩ := hp8
      refine h_if_ne (tgt := 200) C dX9_checksum_194 (by decide) (fun c5 => absurd c5 (by decide)) (fun c5 => ?_)
      refine h_goto (tgt := 228) C dX9_checksum_197 (by decide) ?_
      refine h_iinc_3 (q := 1) C dX9_checksum_228 (by decide) ct_i ?_
      refine h_goto (tgt := 145) C dX9_checksum_231 (by decide) ?_
      rw [nI_1]
      exact kk _ (by unfold SLw; rw [hr]; exact hS) _ _

set_option maxRecDepth 100000 in
set_option maxHeartbeats 1000000 in
theorem bl_c2x {Z : Zx} {mc ms k n : Nat} {Q : Nat → Nat} {μ0 μ : Mem} {S : Sx} {t : Int32} {v : Int64} (C : Cx Z RX9 cX9_checksum 1 mc ms 23) (hk : k ≤ mc) (hn : n ≤ ms) (hS : HS Q μ0 S t v μ) {a b : Nat} (ha : a < 3) (hb : b < 3) (kk : ∀ m, HS Q μ0 S t v m → ∀ z3 z4 z5 : Option Value, HW Z k n 78 [some (.ref (Q 0)), some (.int (nI a)), some (.int (nI (b + 1))), z3, z4, z5] [] m) : ∀ z4 z5 : Option Value, HW Z k n 145 [some (.ref (Q 0)), some (.int (nI a)), some (.int (nI b)), some (.int (nI 3)), z4, z5] [] μ := by
  intro z4 z5
  have hM := hS.1.1
  refine h_iload_g C dX9_checksum_145 rfl rfl ?_
  refine h_iconst (v := 3) C dX9_checksum_146 (by decide) ?_
  refine h_icmp_ge (tgt := 234) C dX9_checksum_147 (by decide) (fun c1 => ?_) (fun c1 => absurd (by decide) c1)
  refine h_iinc_2 (q := 1) C dX9_checksum_234 (by decide) ct_i ?_
  refine h_goto (tgt := 78) C dX9_checksum_237 (by decide) ?_
  rw [nI_1]
  exact kk _ hS _ _ _

set_option maxRecDepth 100000 in
set_option maxHeartbeats 1000000 in
theorem bl_c2b {Z : Zx} {mc ms k n : Nat} {Q : Nat → Nat} {μ0 μ : Mem} {S : Sx} {t : Int32} {v : Int64} (C : Cx Z RX9 cX9_checksum 1 mc ms 23) (hk : k ≤ mc) (hn : n ≤ ms) (hS : HS Q μ0 S t v μ) {a b : Nat} (ha : a < 3) (hb : b < 3) (hab : ¬ b = a) (kk : ∀ m, HS Q μ0 S t (SLK S a b v) m → ∀ z3 z4 z5 : Option Value, HW Z k n 78 [some (.ref (Q 0)), some (.int (nI a)), some (.int (nI (b + 1))), z3, z4, z5] [] m) : ∀ z3 z4 z5 : Option Value, HW Z k n 78 [some (.ref (Q 0)), some (.int (nI a)), some (.int (nI b)), z3, z4, z5] [] μ := by
  intro z3 z4 z5
  have hM := hS.1.1
  refine h_iload_g C dX9_checksum_78 rfl rfl ?_
  refine h_iconst (v := 3) C dX9_checksum_79 (by decide) ?_
  refine h_icmp_ge (tgt := 240) C dX9_checksum_80 (by decide) (fun c1 => absurd c1 ((by exact nI_ge (b := 3) (by omega) (by decide)))) (fun c1 => ?_)
  refine h_iload_g C dX9_checksum_83 rfl rfl ?_
  refine h_iload_g C dX9_checksum_84 rfl rfl ?_
  refine h_icmp_ne (tgt := 91) C dX9_checksum_85 (by decide) (fun c2 => ?_) (fun c2 => absurd c2 ((fun z => hab ((nI_eq (by omega) (by omega)).mp z))))
  refine h_al_g C dX9_checksum_91 rfl rfl rfv_r ?_
  refine h_al_g C dX9_checksum_92 rfl rfl rfv_r ?_
  refine gs_X9_37 C dX9_checksum_93 hM.kX (hM.fA (i := 7) (by decide)) ?_
  refine h_iload_g C dX9_checksum_96 rfl rfl ?_
  refine h_aald (r := some _) C dX9_checksum_97 (hM.kr (by decide)) (inb (hM.ln3 (by decide)) (vp_in_nI ha (by decide))) (atI (cl_of (n := a) (by have h9 := ha; omega)) (hM.tb (t := 0) (by decide) ha)) ?_
  refine h_iload_g C dX9_checksum_98 rfl rfl ?_
  refine h_iald C dX9_checksum_99 (hM.k11 (by have h0_ := ha; omega)) (inb (hM.ln3 (by have h0_ := ha; omega)) (vp_in_nI hb (by decide))) (atI (cl_of (n := b) (by have h9 := hb; omega)) (hM.t0 ha hb)) ?_
  refine h_i2l C dX9_checksum_100 ?_
  refine h_callV1 (ci := 9) C (k_X9_add Z.l Z.G (Q 0) _ hM.kX _) cw_X9_291 im_X9_add sl_X9_add rfl (by decide) hM.kX dX9_checksum_101 (by first | decide | exact Nat.le_of_ble_eq_true rfl) (by decide) (by decide) (by omega) (by omega) (kV fun μ1 hp1 => ?_) kN
  have e9 := hp1
  have hS := hS.add e9
  have hM := hS.1.1
  refine h_al_g C dX9_checksum_104 rfl rfl rfv_r ?_
  refine h_al_g C dX9_checksum_105 rfl rfl rfv_r ?_
  refine gs_X9_46 C dX9_checksum_106 hM.kX (hM.fA (i := 10) (by decide)) ?_
  refine h_iload_g C dX9_checksum_109 rfl rfl ?_
  refine h_aald (r := some _) C dX9_checksum_110 (hM.kr (by decide)) (inb (hM.ln3 (by decide)) (vp_in_nI ha (by decide))) (atI (cl_of (n := a) (by have h9 := ha; omega)) (hM.tb (t := 3) (by decide) ha)) ?_
  refine h_iload_g C dX9_checksum_111 rfl rfl ?_
  refine h_iald C dX9_checksum_112 (hM.k11 (by have h0_ := ha; omega)) (inb (hM.ln3 (by have h0_ := ha; omega)) (vp_in_nI hb (by decide))) (atI (cl_of (n := b) (by have h9 := hb; omega)) (hM.t3 ha hb)) ?_
  refine h_i2l C dX9_checksum_113 ?_
  refine h_callV1 (ci := 9) C (k_X9_add Z.l Z.G (Q 0) _ hM.kX _) cw_X9_291 im_X9_add sl_X9_add rfl (by decide) hM.kX dX9_checksum_114 (by first | decide | exact Nat.le_of_ble_eq_true rfl) (by decide) (by decide) (by omega) (by omega) (kV fun μ2 hp2 => ?_) kN
  have e9 := hp2
  have hS := hS.add e9
  have hM := hS.1.1
  refine h_al_g C dX9_checksum_117 rfl rfl rfv_r ?_
  refine h_al_g C dX9_checksum_118 rfl rfl rfv_r ?_
  refine gs_X9_40 C dX9_checksum_119 hM.kX (hM.fA (i := 8) (by decide)) ?_
  refine h_iload_g C dX9_checksum_122 rfl rfl ?_
  refine h_aald (r := some _) C dX9_checksum_123 (hM.kr (by decide)) (inb (hM.ln3 (by decide)) (vp_in_nI ha (by decide))) (atI (cl_of (n := a) (by have h9 := ha; omega)) (hM.tb (t := 1) (by decide) ha)) ?_
  refine h_iload_g C dX9_checksum_124 rfl rfl ?_
  refine h_iald C dX9_checksum_125 (hM.k11 (by have h0_ := ha; omega)) (inb (hM.ln3 (by have h0_ := ha; omega)) (vp_in_nI hb (by decide))) (atI (cl_of (n := b) (by have h9 := hb; omega)) (hM.t1 ha hb)) ?_
  refine h_i2l C dX9_checksum_126 ?_
  refine h_callV1 (ci := 9) C (k_X9_add Z.l Z.G (Q 0) _ hM.kX _) cw_X9_291 im_X9_add sl_X9_add rfl (by decide) hM.kX dX9_checksum_127 (by first | decide | exact Nat.le_of_ble_eq_true rfl) (by decide) (by decide) (by omega) (by omega) (kV fun μ3 hp3 => ?_) kN
  have e9 := hp3
  have hS := hS.add e9
  have hM := hS.1.1
  refine h_al_g C dX9_checksum_130 rfl rfl rfv_r ?_
  refine h_al_g C dX9_checksum_131 rfl rfl rfv_r ?_
  refine gs_X9_64 C dX9_checksum_132 hM.kX (hM.fA (i := 16) (by decide)) ?_
  refine h_iload_g C dX9_checksum_135 rfl rfl ?_
  refine h_aald (r := some _) C dX9_checksum_136 (hM.kr (by decide)) (inb (hM.ln3 (by decide)) (vp_in_nI ha (by decide))) (atI (cl_of (n := a) (by have h9 := ha; omega)) (hM.tb (t := 9) (by decide) ha)) ?_
  refine h_iload_g C dX9_checksum_137 rfl rfl ?_
  refine h_iald C dX9_checksum_138 (hM.k11 (by have h0_ := ha; omega)) (inb (hM.ln3 (by have h0_ := ha; omega)) (vp_in_nI hb (by decide))) (atI (cl_of (n := b) (by have h9 := hb; omega)) (hM.t9 ha hb)) ?_
  refine h_i2l C dX9_checksum_139 ?_
  refine h_callV1 (ci := 9) C (k_X9_add Z.l Z.G (Q 0) _ hM.kX _) cw_X9_291 im_X9_add sl_X9_add rfl (by decide) hM.kX dX9_checksum_140 (by first | decide | exact Nat.le_of_ble_eq_true rfl) (by decide) (by decide) (by omega) (by omega) (kV fun μ4 hp4 => ?_) kN
  have e9 := hp4
  have hS := hS.add e9
  have hM := hS.1.1
  refine h_iconst (v := 0) C dX9_checksum_143 (by decide) ?_
  refine h_ist_3 C dX9_checksum_144 ct_i ?_
  exact bl_c2w C hk hn hS ha hb (w := 0) (by decide) (fun m1 h1 z41 z51 => bl_c2w C hk hn h1 ha hb (w := 1) (by decide) (fun m2 h2 z42 z52 => bl_c2w C hk hn h2 ha hb (w := 2) (by decide) (fun m3 h3 z43 z53 => bl_c2x C hk hn h3 ha hb (fun m4 h4 => kk _ h4) _ _) _ _) _ _) _ _

set_option maxRecDepth 100000 in
set_option maxHeartbeats 1000000 in
theorem bl_c2s {Z : Zx} {mc ms k n : Nat} {Q : Nat → Nat} {μ0 μ : Mem} {S : Sx} {t : Int32} {v : Int64} (C : Cx Z RX9 cX9_checksum 1 mc ms 23) (hk : k ≤ mc) (hn : n ≤ ms) (hS : HS Q μ0 S t v μ) {a : Nat} (ha : a < 3) (kk : ∀ m, HS Q μ0 S t v m → ∀ z3 z4 z5 : Option Value, HW Z k n 78 [some (.ref (Q 0)), some (.int (nI a)), some (.int (nI (a + 1))), z3, z4, z5] [] m) : ∀ z3 z4 z5 : Option Value, HW Z k n 78 [some (.ref (Q 0)), some (.int (nI a)), some (.int (nI a)), z3, z4, z5] [] μ := by
  intro z3 z4 z5
  have hM := hS.1.1
  refine h_iload_g C dX9_checksum_78 rfl rfl ?_
  refine h_iconst (v := 3) C dX9_checksum_79 (by decide) ?_
  refine h_icmp_ge (tgt := 240) C dX9_checksum_80 (by decide) (fun c1 => absurd c1 ((by exact nI_ge (b := 3) (by omega) (by decide)))) (fun c1 => ?_)
  refine h_iload_g C dX9_checksum_83 rfl rfl ?_
  refine h_iload_g C dX9_checksum_84 rfl rfl ?_
  refine h_icmp_ne (tgt := 91) C dX9_checksum_85 (by decide) (fun c2 => absurd c2 ((fun z => z rfl))) (fun c2 => ?_)
  refine h_goto (tgt := 234) C dX9_checksum_88 (by decide) ?_
  refine h_iinc_2 (q := 1) C dX9_checksum_234 (by decide) ct_i ?_
  refine h_goto (tgt := 78) C dX9_checksum_237 (by decide) ?_
  rw [nI_1]
  exact kk _ hS _ _ _

set_option maxRecDepth 100000 in
set_option maxHeartbeats 1000000 in
theorem bl_c2e {Z : Zx} {mc ms k n : Nat} {Q : Nat → Nat} {μ0 μ : Mem} {S : Sx} {t : Int32} {v : Int64} (C : Cx Z RX9 cX9_checksum 1 mc ms 23) (hk : k ≤ mc) (hn : n ≤ ms) (hS : HS Q μ0 S t v μ) {a : Nat} (ha : a < 3) (kk : ∀ m, HS Q μ0 S t v m → ∀ z2 z3 z4 z5 : Option Value, HW Z k n 71 [some (.ref (Q 0)), some (.int (nI (a + 1))), z2, z3, z4, z5] [] m) : ∀ z3 z4 z5 : Option Value, HW Z k n 78 [some (.ref (Q 0)), some (.int (nI a)), some (.int (nI 3)), z3, z4, z5] [] μ := by
  intro z3 z4 z5
  have hM := hS.1.1
  refine h_iload_g C dX9_checksum_78 rfl rfl ?_
  refine h_iconst (v := 3) C dX9_checksum_79 (by decide) ?_
  refine h_icmp_ge (tgt := 240) C dX9_checksum_80 (by decide) (fun c1 => ?_) (fun c1 => absurd (by decide) c1)
  refine h_iinc_1 (q := 1) C dX9_checksum_240 (by decide) ct_r ?_
  refine h_goto (tgt := 71) C dX9_checksum_243 (by decide) ?_
  rw [nI_1]
  exact kk _ hS _ _ _ _

set_option maxRecDepth 100000 in
set_option maxHeartbeats 1000000 in
theorem bl_c2_0 {Z : Zx} {mc ms k n : Nat} {Q : Nat → Nat} {μ0 μ : Mem} {S : Sx} {t : Int32} {v : Int64} (C : Cx Z RX9 cX9_checksum 1 mc ms 23) (hk : k ≤ mc) (hn : n ≤ ms) (hS : HS Q μ0 S t v μ)  (kk : ∀ m, HS Q μ0 S t (CKb S 0 v) m → ∀ z2 z3 z4 z5 : Option Value, HW Z k n 71 [some (.ref (Q 0)), some (.int (nI 1)), z2, z3, z4, z5] [] m) : ∀ z2 z3 z4 z5 : Option Value, HW Z k n 71 [some (.ref (Q 0)), some (.int (nI 0)), z2, z3, z4, z5] [] μ := by
  intro z2 z3 z4 z5
  have hM := hS.1.1
  refine h_iload_g C dX9_checksum_71 rfl rfl ?_
  refine h_iconst (v := 3) C dX9_checksum_72 (by decide) ?_
  refine h_icmp_ge (tgt := 246) C dX9_checksum_73 (by decide) (fun c1 => absurd c1 (by decide)) (fun c1 => ?_)
  refine h_iconst (v := 0) C dX9_checksum_76 (by decide) ?_
  refine h_ist_2 C dX9_checksum_77 ct_i ?_
  exact bl_c2s C hk hn hS (a := 0) (by decide) (fun m1 h1 z31 z41 z51 => bl_c2b C hk hn h1 (a := 0) (b := 1) (by decide) (by decide) (by decide) (fun m2 h2 z32 z42 z52 => bl_c2b C hk hn h2 (a := 0) (b := 2) (by decide) (by decide) (by decide) (fun m3 h3 z33 z43 z53 => bl_c2e C hk hn h3 (a := 0) (by decide) kk _ _ _) _ _ _) _ _ _) _ _ _

set_option maxRecDepth 100000 in
set_option maxHeartbeats 1000000 in
theorem bl_c2_1 {Z : Zx} {mc ms k n : Nat} {Q : Nat → Nat} {μ0 μ : Mem} {S : Sx} {t : Int32} {v : Int64} (C : Cx Z RX9 cX9_checksum 1 mc ms 23) (hk : k ≤ mc) (hn : n ≤ ms) (hS : HS Q μ0 S t v μ)  (kk : ∀ m, HS Q μ0 S t (CKb S 1 v) m → ∀ z2 z3 z4 z5 : Option Value, HW Z k n 71 [some (.ref (Q 0)), some (.int (nI 2)), z2, z3, z4, z5] [] m) : ∀ z2 z3 z4 z5 : Option Value, HW Z k n 71 [some (.ref (Q 0)), some (.int (nI 1)), z2, z3, z4, z5] [] μ := by
  intro z2 z3 z4 z5
  have hM := hS.1.1
  refine h_iload_g C dX9_checksum_71 rfl rfl ?_
  refine h_iconst (v := 3) C dX9_checksum_72 (by decide) ?_
  refine h_icmp_ge (tgt := 246) C dX9_checksum_73 (by decide) (fun c1 => absurd c1 (by decide)) (fun c1 => ?_)
  refine h_iconst (v := 0) C dX9_checksum_76 (by decide) ?_
  refine h_ist_2 C dX9_checksum_77 ct_i ?_
  exact bl_c2b C hk hn hS (a := 1) (b := 0) (by decide) (by decide) (by decide) (fun m1 h1 z31 z41 z51 => bl_c2s C hk hn h1 (a := 1) (by decide) (fun m2 h2 z32 z42 z52 => bl_c2b C hk hn h2 (a := 1) (b := 2) (by decide) (by decide) (by decide) (fun m3 h3 z33 z43 z53 => bl_c2e C hk hn h3 (a := 1) (by decide) kk _ _ _) _ _ _) _ _ _) _ _ _

set_option maxRecDepth 100000 in
set_option maxHeartbeats 1000000 in
theorem bl_c2_2 {Z : Zx} {mc ms k n : Nat} {Q : Nat → Nat} {μ0 μ : Mem} {S : Sx} {t : Int32} {v : Int64} (C : Cx Z RX9 cX9_checksum 1 mc ms 23) (hk : k ≤ mc) (hn : n ≤ ms) (hS : HS Q μ0 S t v μ)  (kk : ∀ m, HS Q μ0 S t (CKb S 2 v) m → ∀ z2 z3 z4 z5 : Option Value, HW Z k n 71 [some (.ref (Q 0)), some (.int (nI 3)), z2, z3, z4, z5] [] m) : ∀ z2 z3 z4 z5 : Option Value, HW Z k n 71 [some (.ref (Q 0)), some (.int (nI 2)), z2, z3, z4, z5] [] μ := by
  intro z2 z3 z4 z5
  have hM := hS.1.1
  refine h_iload_g C dX9_checksum_71 rfl rfl ?_
  refine h_iconst (v := 3) C dX9_checksum_72 (by decide) ?_
  refine h_icmp_ge (tgt := 246) C dX9_checksum_73 (by decide) (fun c1 => absurd c1 (by decide)) (fun c1 => ?_)
  refine h_iconst (v := 0) C dX9_checksum_76 (by decide) ?_
  refine h_ist_2 C dX9_checksum_77 ct_i ?_
  exact bl_c2b C hk hn hS (a := 2) (b := 0) (by decide) (by decide) (by decide) (fun m1 h1 z31 z41 z51 => bl_c2b C hk hn h1 (a := 2) (b := 1) (by decide) (by decide) (by decide) (fun m2 h2 z32 z42 z52 => bl_c2s C hk hn h2 (a := 2) (by decide) (fun m3 h3 z33 z43 z53 => bl_c2e C hk hn h3 (a := 2) (by decide) kk _ _ _) _ _ _) _ _ _) _ _ _

set_option maxRecDepth 100000 in
set_option maxHeartbeats 1000000 in
theorem bl_c2z {Z : Zx} {mc ms k n : Nat} {Q : Nat → Nat} {μ0 μ : Mem} {S : Sx} {t : Int32} {v : Int64} (C : Cx Z RX9 cX9_checksum 1 mc ms 23) (hk : k ≤ mc) (hn : n ≤ ms) (hS : HS Q μ0 S t v μ)  (kk : ∀ m, HS Q μ0 S t v m → ∀ z2 z3 z4 z5 : Option Value, HW Z k n 248 [some (.ref (Q 0)), some (.int (nI 0)), z2, z3, z4, z5] [] m) : ∀ z2 z3 z4 z5 : Option Value, HW Z k n 71 [some (.ref (Q 0)), some (.int (nI 3)), z2, z3, z4, z5] [] μ := by
  intro z2 z3 z4 z5
  have hM := hS.1.1
  refine h_iload_g C dX9_checksum_71 rfl rfl ?_
  refine h_iconst (v := 3) C dX9_checksum_72 (by decide) ?_
  refine h_icmp_ge (tgt := 246) C dX9_checksum_73 (by decide) (fun c1 => ?_) (fun c1 => absurd (by decide) c1)
  refine h_iconst (v := 0) C dX9_checksum_246 (by decide) ?_
  refine h_ist_1 C dX9_checksum_247 ct_r ?_
  exact kk _ hS _ _ _ _

set_option maxRecDepth 100000 in
set_option maxHeartbeats 1000000 in
theorem lp_c3 {Z : Zx} {mc ms k n : Nat} {Q : Nat → Nat} {μ0 : Mem} {S : Sx} {t : Int32} {e A : Nat} {T : Int64} (C : Cx Z RX9 cX9_checksum 1 mc ms 23) (hk : k ≤ mc) (hn : n ≤ ms) (he : e < 3) (h600 : S.ou.length ≤ 600)
    (kk : ∀ m, HS Q μ0 S t T m → ∀ z2 z3 z4 z5 : Option Value, HW Z k n 248 [some (.ref (Q 0)), some (.int (nI (e + 1))), z2, z3, z4, z5] [] m) : ∀ (d j : Nat) (v : Int64) (μ : Mem), j + d = S.ou.length → HS Q μ0 S t v μ → μ.fr 313 (Q 0) = some A → SOs v (OUT e (S.ou.drop j)) = T → ∀ z5 : Option Value, HW Z k n 275 [some (.ref (Q 0)), some (.int (nI e)), some (.ref A), some (.int (nI S.ou.length)), some (.int (nI j)), z5] [] μ := by
  intro d
  induction d with
  | zero =>
    intro j v μ hj hS a1 hI z5
    have hM := hS.1.1
    rw [List.drop_eq_nil_of_le (by omega)] at hI
    have hI : v = T := hI
    rw [hI] at hS
    refine h_iload_w C dX9_checksum_275 rfl ?_
    refine h_iload_g C dX9_checksum_277 rfl rfl ?_
    refine h_icmp_ge (tgt := 310) C dX9_checksum_278 (by decide) (fun c1 => ?_) (fun c1 => absurd ((nI_le (by omega) (by omega))) c1)
    refine h_iinc_1 (q := 1) C dX9_checksum_310 (by decide) ct_r ?_
    refine h_goto (tgt := 248) C dX9_checksum_313 (by decide) ?_
    rw [nI_1]
    exact kk _ hS _ _ _ _
  | succ d ih =>
    intro j v μ hjd hS a1 hI z5
    have hj : j < S.ou.length := by omega
    have hM := hS.1.1
    refine h_iload_w C dX9_checksum_275 rfl ?_
    refine h_iload_g C dX9_checksum_277 rfl rfl ?_
    refine h_icmp_ge (tgt := 310) C dX9_checksum_278 (by decide) (fun c1 => absurd c1 ((nI_ge hj (by omega)))) (fun c1 => ?_)
    obtain ⟨a2, a3, a4⟩ := hM.ouAt a1
    obtain ⟨p, p1, p2⟩ := a4 j _ (List.getElem?_eq_getElem hj)
    refine h_al_g C dX9_checksum_281 rfl rfl rfv_r ?_
    refine h_iload_w C dX9_checksum_282 rfl ?_
    refine h_aald (r := some _) C dX9_checksum_284 ⟨by rw [a2]; decide, by rw [a2]; decide⟩ (inb a3 (vp_in_nI hj (by omega))) (atI (cl_of (by omega)) p1) ?_
    refine h_ast_5 C dX9_checksum_285 ct_i rfv_r ?_
    refine h_al_w (j := 0) C dX9_checksum_287 rfl rfv_r ?_
    refine h_iconst (v := 0) C dX9_checksum_289 (by decide) ?_
    refine h_iald C dX9_checksum_290 (by rw [p2.1]; decide) (inb p2.2.1 (vp_in_nI (n := 0) (by decide) (by decide))) (p2.2.2 0 (by decide)) ?_
    refine h_iload_g C dX9_checksum_291 rfl rfl ?_
    refine h_icmp_ne (tgt := 304) C dX9_checksum_292 (by decide) (fun cA => ?_) (fun cA => ?_)
    · refine h_iinc_4 (q := 1) C dX9_checksum_304 (by decide) ct_i ?_
      refine h_goto (tgt := 275) C dX9_checksum_307 (by decide) ?_
      rw [nI_1]
      rw [OUT_skip hj cA] at hI
      exact ih (j + 1) _ _ (by omega) hS a1 hI _
    · refine h_al_g C dX9_checksum_295 rfl rfl rfv_r ?_
      refine h_al_w (j := 0) C dX9_checksum_296 rfl rfv_r ?_
      refine h_iconst (v := 4) C dX9_checksum_298 (by decide) ?_
      refine h_iald C dX9_checksum_299 (by rw [p2.1]; decide) (inb p2.2.1 (vp_in_nI (n := 4) (by decide) (by decide))) (p2.2.2 4 (by decide)) ?_
      refine h_i2l C dX9_checksum_300 ?_
      refine h_callV1 (ci := 9) C (k_X9_add Z.l Z.G (Q 0) _ hM.kX _) cw_X9_291 im_X9_add sl_X9_add rfl (by decide) hM.kX dX9_checksum_301 (by first | decide | exact Nat.le_of_ble_eq_true rfl) (by decide) (by decide) (by omega) (by omega) (kV fun μ1 hp1 => ?_) kN
      have e9 := hp1
      have hS := hS.add e9
      have hM := hS.1.1
      have a1 : μ1.fr 313 (Q 0) = some A := by rw [e9]; exact a1
      refine h_iinc_4 (q := 1) C dX9_checksum_304 (by decide) ct_i ?_
      refine h_goto (tgt := 275) C dX9_checksum_307 (by decide) ?_
      rw [nI_1]
      rw [OUT_take hj cA] at hI
      exact ih (j + 1) _ _ (by omega) hS a1 hI _

set_option maxRecDepth 100000 in
set_option maxHeartbeats 1000000 in
theorem bl_c3 {Z : Zx} {mc ms k n : Nat} {Q : Nat → Nat} {μ0 μ : Mem} {S : Sx} {t : Int32} {v : Int64} (C : Cx Z RX9 cX9_checksum 1 mc ms 23) (hk : k ≤ mc) (hn : n ≤ ms) (hS : HS Q μ0 S t v μ) {e : Nat} (he : e < 3) (kk : ∀ m, HS Q μ0 S t (SOU S e v) m → ∀ z2 z3 z4 z5 : Option Value, HW Z k n 248 [some (.ref (Q 0)), some (.int (nI (e + 1))), z2, z3, z4, z5] [] m) : ∀ z2 z3 z4 z5 : Option Value, HW Z k n 248 [some (.ref (Q 0)), some (.int (nI e)), z2, z3, z4, z5] [] μ := by
  intro z2 z3 z4 z5
  have hM := hS.1.1
  refine h_iload_g C dX9_checksum_248 rfl rfl ?_
  refine h_iconst (v := 3) C dX9_checksum_249 (by decide) ?_
  refine h_icmp_ge (tgt := 316) C dX9_checksum_250 (by decide) (fun c1 => absurd c1 ((by exact nI_ge (b := 3) (by omega) (by decide)))) (fun c1 => ?_)
  refine h_al_g C dX9_checksum_253 rfl rfl rfv_r ?_
  refine h_al_g C dX9_checksum_254 rfl rfl rfv_r ?_
  refine gs_X9_20 C dX9_checksum_255 hM.kX (hM.fA (i := 3) (by decide)) ?_
  refine h_iload_g C dX9_checksum_258 rfl rfl ?_
  refine h_iald C dX9_checksum_259 (hM.k11 (by decide)) (inb (hM.ln3 (by decide)) (vp_in_nI he (by decide))) (atI (cl_of (n := e) (by have h9 := he; omega)) (hM.a3 he)) ?_
  refine h_i2l C dX9_checksum_260 ?_
  refine h_callV1 (ci := 9) C (k_X9_add Z.l Z.G (Q 0) _ hM.kX _) cw_X9_291 im_X9_add sl_X9_add rfl (by decide) hM.kX dX9_checksum_261 (by first | decide | exact Nat.le_of_ble_eq_true rfl) (by decide) (by decide) (by omega) (by omega) (kV fun μ1 hp1 => ?_) kN
  have e9 := hp1
  have hS := hS.add e9
  have hM := hS.1.1
  obtain ⟨h600, A, a1, a2, a3, a4⟩ := hM.ou
  refine h_al_g C dX9_checksum_264 rfl rfl rfv_r ?_
  refine gs_X9_83 C dX9_checksum_265 hM.kX a1 ?_
  refine h_ast_2 C dX9_checksum_268 ct_i rfv_r ?_
  refine h_al_g C dX9_checksum_269 rfl rfl rfv_r ?_
  refine h_alen C dX9_checksum_270 ⟨by rw [a2]; decide, by rw [a2]; decide⟩ a3 ?_
  refine h_ist_3 C dX9_checksum_271 ct_r ?_
  refine h_iconst (v := 0) C dX9_checksum_272 (by decide) ?_
  refine h_ist_4 C dX9_checksum_273 ct_i ?_
  exact lp_c3 C hk hn he h600 kk S.ou.length 0 _ _ (by omega) hS a1 (by rw [List.drop_zero]; rfl) _

set_option maxRecDepth 100000 in
set_option maxHeartbeats 1000000 in
theorem bl_c3z {Z : Zx} {mc ms k n : Nat} {Q : Nat → Nat} {μ0 μ : Mem} {S : Sx} {t : Int32} {v : Int64} (C : Cx Z RX9 cX9_checksum 1 mc ms 23) (hk : k ≤ mc) (hn : n ≤ ms) (hS : HS Q μ0 S t v μ)  (kk : ∀ m, HS Q μ0 S t v m → ∀ z2 z3 z4 z5 : Option Value, HW Z k n 318 [some (.ref (Q 0)), some (.int (nI 0)), z2, z3, z4, z5] [] m) : ∀ z2 z3 z4 z5 : Option Value, HW Z k n 248 [some (.ref (Q 0)), some (.int (nI 3)), z2, z3, z4, z5] [] μ := by
  intro z2 z3 z4 z5
  have hM := hS.1.1
  refine h_iload_g C dX9_checksum_248 rfl rfl ?_
  refine h_iconst (v := 3) C dX9_checksum_249 (by decide) ?_
  refine h_icmp_ge (tgt := 316) C dX9_checksum_250 (by decide) (fun c1 => ?_) (fun c1 => absurd (by decide) c1)
  refine h_iconst (v := 0) C dX9_checksum_316 (by decide) ?_
  refine h_ist_1 C dX9_checksum_317 ct_r ?_
  exact kk _ hS _ _ _ _

set_option maxRecDepth 100000 in
set_option maxHeartbeats 1000000 in
theorem bl_c4f {Z : Zx} {mc ms k n : Nat} {Q : Nat → Nat} {μ0 μ : Mem} {S : Sx} {t : Int32} {v : Int64} (C : Cx Z RX9 cX9_checksum 1 mc ms 23) (hk : k ≤ mc) (hn : n ≤ ms) (hS : HS Q μ0 S t v μ) {i f : Nat} (hf : f < 9) {r : Row} (hr : S.nt[i]? = some r) (kk : ∀ m, HS Q μ0 S t (ADV v (r f)) m → ∀ z3 z4 z5 : Option Value, HW Z k n 328 [some (.ref (Q 0)), some (.int (nI i)), some (.int (nI (f + 1))), z3, z4, z5] [] m) : ∀ z3 z4 z5 : Option Value, HW Z k n 328 [some (.ref (Q 0)), some (.int (nI i)), some (.int (nI f)), z3, z4, z5] [] μ := by
  intro z3 z4 z5
  have hM := hS.1.1
  refine h_iload_g C dX9_checksum_328 rfl rfl ?_
  refine h_bipush (v := 9) C dX9_checksum_329 (by decide) ?_
  refine h_icmp_ge (tgt := 353) C dX9_checksum_331 (by decide) (fun c1 => absurd c1 ((by exact nI_ge (b := 9) (by omega) (by decide)))) (fun c1 => ?_)
  refine h_al_g C dX9_checksum_334 rfl rfl rfv_r ?_
  refine h_al_g C dX9_checksum_335 rfl rfl rfv_r ?_
  refine gs_X9_80 C dX9_checksum_336 hM.kX (hM.fA (i := 20) (by decide)) ?_
  refine h_iload_g C dX9_checksum_339 rfl rfl ?_
  obtain ⟨z, y1, hR_z⟩ := hM.row hr
  have h60 := hM.nt.1
  have hi := (List.getElem?_eq_some_iff.mp hr).1
  refine h_aald (r := some _) C dX9_checksum_340 (hM.kr (by decide)) (inb hM.ln60 (vp_in_nI (by omega) (by decide))) (atI (cl_of (by omega)) y1) ?_
  refine h_iload_g C dX9_checksum_341 rfl rfl ?_
  refine h_iald C dX9_checksum_342 (by rw [hR_z.1]; decide) (inb hR_z.2.1 (vp_in_nI (by omega) (by decide))) (atI (cl_of (by omega)) (hR_z.2.2 f (by omega))) ?_
  refine h_i2l C dX9_checksum_343 ?_
  refine h_callV1 (ci := 9) C (k_X9_add Z.l Z.G (Q 0) _ hM.kX _) cw_X9_291 im_X9_add sl_X9_add rfl (by decide) hM.kX dX9_checksum_344 (by first | decide | exact Nat.le_of_ble_eq_true rfl) (by decide) (by decide) (by omega) (by omega) (kV fun μ1 hp1 => ?_) kN
  have e9 := hp1
  have hS := hS.add e9
  have hM := hS.1.1
  refine h_iinc_2 (q := 1) C dX9_checksum_347 (by decide) ct_i ?_
  refine h_goto (tgt := 328) C dX9_checksum_350 (by decide) ?_
  rw [nI_1]
  exact kk _ hS _ _ _

set_option maxRecDepth 100000 in
set_option maxHeartbeats 1000000 in
theorem bl_c4g {Z : Zx} {mc ms k n : Nat} {Q : Nat → Nat} {μ0 μ : Mem} {S : Sx} {t : Int32} {v : Int64} (C : Cx Z RX9 cX9_checksum 1 mc ms 23) (hk : k ≤ mc) (hn : n ≤ ms) (hS : HS Q μ0 S t v μ) {i : Nat} (kk : ∀ m, HS Q μ0 S t v m → ∀ z2 z3 z4 z5 : Option Value, HW Z k n 318 [some (.ref (Q 0)), some (.int (nI (i + 1))), z2, z3, z4, z5] [] m) : ∀ z3 z4 z5 : Option Value, HW Z k n 328 [some (.ref (Q 0)), some (.int (nI i)), some (.int (nI 9)), z3, z4, z5] [] μ := by
  intro z3 z4 z5
  have hM := hS.1.1
  refine h_iload_g C dX9_checksum_328 rfl rfl ?_
  refine h_bipush (v := 9) C dX9_checksum_329 (by decide) ?_
  refine h_icmp_ge (tgt := 353) C dX9_checksum_331 (by decide) (fun c1 => ?_) (fun c1 => absurd (by decide) c1)
  refine h_iinc_1 (q := 1) C dX9_checksum_353 (by decide) ct_r ?_
  refine h_goto (tgt := 318) C dX9_checksum_356 (by decide) ?_
  rw [nI_1]
  exact kk _ hS _ _ _ _

set_option maxRecDepth 100000 in
set_option maxHeartbeats 1000000 in
theorem lp_c4 {Z : Zx} {mc ms k n : Nat} {Q : Nat → Nat} {μ0 : Mem} {S : Sx} {t : Int32} {T : Int64} (C : Cx Z RX9 cX9_checksum 1 mc ms 23) (hk : k ≤ mc) (hn : n ≤ ms)
    (kk : ∀ m, HS Q μ0 S t T m → ∀ z1 z2 z3 z4 z5 : Option Value, HW Z k n 359 [some (.ref (Q 0)), z1, z2, z3, z4, z5] [] m) : ∀ (d i : Nat) (v : Int64) (μ : Mem), i + d = S.nt.length → HS Q μ0 S t v μ → SNs v (S.nt.drop i) = T → ∀ z2 z3 z4 z5 : Option Value, HW Z k n 318 [some (.ref (Q 0)), some (.int (nI i)), z2, z3, z4, z5] [] μ := by
  intro d
  induction d with
  | zero =>
    intro i v μ hid hS hI z2 z3 z4 z5
    have hM := hS.1.1
    have h60 := hM.nt.1
    rw [List.drop_eq_nil_of_le (by omega)] at hI
    have hI : v = T := hI
    rw [hI] at hS
    refine h_iload_g C dX9_checksum_318 rfl rfl ?_
    refine h_al_g C dX9_checksum_319 rfl rfl rfv_r ?_
    refine gf_X9_95 C dX9_checksum_320 hM.kX hM.f312 ?_
    refine h_icmp_ge (tgt := 359) C dX9_checksum_323 (by decide) (fun c1 => ?_) (fun c1 => absurd ((nI_le (show S.nt.length ≤ i by omega) (by omega))) c1)
    exact kk _ hS _ _ _ _ _
  | succ d ih =>
    intro i v μ hid hS hI z2 z3 z4 z5
    have hi : i < S.nt.length := by omega
    have hM := hS.1.1
    have h60 := hM.nt.1
    have hr := List.getElem?_eq_getElem hi
    rw [List.drop_eq_getElem_cons hi] at hI
    refine h_iload_g C dX9_checksum_318 rfl rfl ?_
    refine h_al_g C dX9_checksum_319 rfl rfl rfv_r ?_
    refine gf_X9_95 C dX9_checksum_320 hM.kX hM.f312 ?_
    refine h_icmp_ge (tgt := 359) C dX9_checksum_323 (by decide) (fun c1 => absurd c1 ((nI_ge hi (show S.nt.length < 2147483648 by omega)))) (fun c1 => ?_)
    refine h_iconst (v := 0) C dX9_checksum_326 (by decide) ?_
    refine h_ist_2 C dX9_checksum_327 ct_i ?_
    exact bl_c4f C hk hn hS (f := 0) (by decide) hr (fun m1 h1_ _ _ _ => bl_c4f C hk hn h1_ (f := 1) (by decide) hr (fun m2 h2_ _ _ _ => bl_c4f C hk hn h2_ (f := 2) (by decide) hr (fun m3 h3_ _ _ _ => bl_c4f C hk hn h3_ (f := 3) (by decide) hr (fun m4 h4_ _ _ _ => bl_c4f C hk hn h4_ (f := 4) (by decide) hr (fun m5 h5_ _ _ _ => bl_c4f C hk hn h5_ (f := 5) (by decide) hr (fun m6 h6_ _ _ _ => bl_c4f C hk hn h6_ (f := 6) (by decide) hr (fun m7 h7_ _ _ _ => bl_c4f C hk hn h7_ (f := 7) (by decide) hr (fun m8 h8_ _ _ _ => bl_c4f C hk hn h8_ (f := 8) (by decide) hr (fun m9 h9_ _ _ _ => bl_c4g C hk hn h9_ (fun m10 h10 => ih (i + 1) _ _ (by omega) h10 hI) _ _ _) _ _ _) _ _ _) _ _ _) _ _ _) _ _ _) _ _ _) _ _ _) _ _ _) _ _ _

set_option maxRecDepth 100000 in
set_option maxHeartbeats 1000000 in
theorem bl_c5 {Z : Zx} {mc ms k n : Nat} {Q : Nat → Nat} {μ0 μ : Mem} {S : Sx} {t : Int32} {v : Int64} (C : Cx Z RX9 cX9_checksum 1 mc ms 23) (hk : k ≤ mc) (hn : n ≤ ms) (hS : HS Q μ0 S t v μ) {j : Nat} (hj : j < 11) (kk : ∀ m, HS Q μ0 S t (ADV v (S.cd j)) m → ∀ z4 z5 : Option Value, HW Z k n 369 [some (.ref (Q 0)), some (.ref (Q 4)), some (.int 11), some (.int (nI (j + 1))), z4, z5] [] m) : ∀ z4 z5 : Option Value, HW Z k n 369 [some (.ref (Q 0)), some (.ref (Q 4)), some (.int 11), some (.int (nI j)), z4, z5] [] μ := by
  intro z4 z5
  have hM := hS.1.1
  refine h_iload_g C dX9_checksum_369 rfl rfl ?_
  refine h_iload_g C dX9_checksum_370 rfl rfl ?_
  refine h_icmp_ge (tgt := 392) C dX9_checksum_371 (by decide) (fun c1 => absurd c1 ((by exact nI_ge (b := 11) (by omega) (by decide)))) (fun c1 => ?_)
  refine h_al_g C dX9_checksum_374 rfl rfl rfv_r ?_
  refine h_iload_g C dX9_checksum_375 rfl rfl ?_
  refine h_iald C dX9_checksum_376 (hM.k11 (by decide)) (inb hM.ln11 (vp_in_nI hj (by decide))) (atI (cl_of (by omega)) (hM.a4 hj)) ?_
  refine h_ist_4 C dX9_checksum_377 ct_i ?_
  refine h_al_g C dX9_checksum_379 rfl rfl rfv_r ?_
  refine h_iload_w C dX9_checksum_380 rfl ?_
  refine h_i2l C dX9_checksum_382 ?_
  refine h_callV1 (ci := 9) C (k_X9_add Z.l Z.G (Q 0) _ hM.kX _) cw_X9_291 im_X9_add sl_X9_add rfl (by decide) hM.kX dX9_checksum_383 (by first | decide | exact Nat.le_of_ble_eq_true rfl) (by decide) (by decide) (by omega) (by omega) (kV fun μ1 hp1 => ?_) kN
  have e9 := hp1
  have hS := hS.add e9
  have hM := hS.1.1
  refine h_iinc_3 (q := 1) C dX9_checksum_386 (by decide) ct_i ?_
  refine h_goto (tgt := 369) C dX9_checksum_389 (by decide) ?_
  rw [nI_1]
  exact kk _ hS _ _

set_option maxRecDepth 100000 in
set_option maxHeartbeats 1000000 in
theorem bl_c5z {Z : Zx} {mc ms k n : Nat} {Q : Nat → Nat} {μ0 μ : Mem} {S : Sx} {t : Int32} {v : Int64} {Post : Option Value → Mem → Prop} {PostX : String → Mem → Prop} (C : Cx Z RX9 cX9_checksum 1 mc ms 23) (E : Rt Z mc ms (some .long) Post PostX) (hk : k ≤ mc) (hn : n ≤ ms) (hS : HS Q μ0 S t v μ) (hP : ∀ m, MTo Q WAll μ0 S (LXo S t) m → Post (some (.long v)) m) : ∀ z4 z5 : Option Value, HW Z k n 369 [some (.ref (Q 0)), some (.ref (Q 4)), some (.int 11), some (.int (nI 11)), z4, z5] [] μ := by
  intro z4 z5
  have hM := hS.1.1
  refine h_iload_g C dX9_checksum_369 rfl rfl ?_
  refine h_iload_g C dX9_checksum_370 rfl rfl ?_
  refine h_icmp_ge (tgt := 392) C dX9_checksum_371 (by decide) (fun c1 => ?_) (fun c1 => absurd (by decide) c1)
  refine h_al_g C dX9_checksum_392 rfl rfl rfv_r ?_
  refine gf_X9_287 C dX9_checksum_393 hM.kX hS.2 ?_
  refine h_lret C E dX9_checksum_396 (by omega) (by omega) ?_
  exact hP _ hS.1

set_option maxRecDepth 100000 in
set_option maxHeartbeats 1000000 in
theorem bl_c5a {Z : Zx} {mc ms k n : Nat} {Q : Nat → Nat} {μ0 μ : Mem} {S : Sx} {t : Int32} {v : Int64} {Post : Option Value → Mem → Prop} {PostX : String → Mem → Prop} (C : Cx Z RX9 cX9_checksum 1 mc ms 23) (E : Rt Z mc ms (some .long) Post PostX) (hk : k ≤ mc) (hn : n ≤ ms) (hS : HS Q μ0 S t v μ) (hP : ∀ m, MTo Q WAll μ0 S (LXo S t) m → Post (some (.long (TLD S v))) m) : ∀ z1 z2 z3 z4 z5 : Option Value, HW Z k n 359 [some (.ref (Q 0)), z1, z2, z3, z4, z5] [] μ := by
  intro z1 z2 z3 z4 z5
  have hM := hS.1.1
  refine h_al_g C dX9_checksum_359 rfl rfl rfv_r ?_
  refine gs_X9_23 C dX9_checksum_360 hM.kX (hM.fA (i := 4) (by decide)) ?_
  refine h_ast_1 C dX9_checksum_363 ct_r rfv_r ?_
  refine h_al_g C dX9_checksum_364 rfl rfl rfv_r ?_
  refine h_alen C dX9_checksum_365 ⟨by have := hM.k11 (j := 4) (by decide); omega, by have := hM.k11 (j := 4) (by decide); omega⟩ hM.ln11 ?_
  rw [show (Int32.ofNat 11 : Int32) = 11 from rfl]
  refine h_ist_2 C dX9_checksum_366 ct_r ?_
  refine h_iconst (v := 0) C dX9_checksum_367 (by decide) ?_
  refine h_ist_3 C dX9_checksum_368 ct_i ?_
  exact bl_c5 C hk hn hS (j := 0) (by decide) (fun m1 g1 _ _ => bl_c5 C hk hn g1 (j := 1) (by decide) (fun m2 g2 _ _ => bl_c5 C hk hn g2 (j := 2) (by decide) (fun m3 g3 _ _ => bl_c5 C hk hn g3 (j := 3) (by decide) (fun m4 g4 _ _ => bl_c5 C hk hn g4 (j := 4) (by decide) (fun m5 g5 _ _ => bl_c5 C hk hn g5 (j := 5) (by decide) (fun m6 g6 _ _ => bl_c5 C hk hn g6 (j := 6) (by decide) (fun m7 g7 _ _ => bl_c5 C hk hn g7 (j := 7) (by decide) (fun m8 g8 _ _ => bl_c5 C hk hn g8 (j := 8) (by decide) (fun m9 g9 _ _ => bl_c5 C hk hn g9 (j := 9) (by decide) (fun m10 g10 _ _ => bl_c5 C hk hn g10 (j := 10) (by decide) (fun m11 g11 _ _ => bl_c5z C E hk hn g11 hP _ _) _ _) _ _) _ _) _ _) _ _) _ _) _ _) _ _) _ _) _ _) _ _

set_option maxRecDepth 100000 in
set_option maxHeartbeats 1000000 in
theorem k_X9_checksum (l : Launch) (G : Gx) (Q : Nat → Nat) (S : Sx) (t : Int32) (μ : Mem) (hM : MRq Q S (LXo S t) μ) : Kon l yX9_checksum cX9_checksum 6 (some .long) 1 0 0 23 G [.ref (Q 0)] μ (pL fun v μ' => v = CHK S ∧ MTo Q WAll μ S (LXo S t) μ') noX := by
  refine Kon.ofG (by decide +kernel) (Nat.le_of_ble_eq_true rfl) (Nat.le_of_ble_eq_true rfl) (fun Z hZG C E NT MT => ?_)
  subst hZG
  have C : Cx Z RX9 cX9_checksum 1 0 0 23 := C
  show HW Z 0 0 0 [some (.ref (Q 0)), none, none, none, none, none] [] μ
  have hT : MTo Q WAll μ S (LXo S t) μ := MTo.rf hM
  refine h_al_g C dX9_checksum_0 rfl rfl rfv_r ?_
  refine h_ldc2 C kc_X9_110 dX9_checksum_1 ?_
  refine pf_X9_287 C dX9_checksum_4 hM.kX ?_
  refine h_abs (fun m1 em1 => ?_)
  have hT := hT.sfl (Or.inr trivial) em1 (hT.1.w314 em1)
  have hM := hT.1
  have hS : HS Q μ S t 31 m1 := ⟨hT, by rw [em1]; show u2 μ.fl 314 (Q 0) 31 314 (Q 0) = _; exact u2_eq⟩
  refine h_al_g C dX9_checksum_7 rfl rfl rfv_r ?_
  refine h_al_g C dX9_checksum_8 rfl rfl rfv_r ?_
  refine gf_X9_129 C dX9_checksum_9 hM.kX hM.f288 ?_
  refine h_i2l C dX9_checksum_12 ?_
  refine h_callV1 (ci := 9) C (k_X9_add Z.l Z.G (Q 0) _ hM.kX _) cw_X9_291 im_X9_add sl_X9_add rfl (by decide) hM.kX dX9_checksum_13 (by first | decide | exact Nat.le_of_ble_eq_true rfl) (by decide) (by decide) (by decide) (by decide) (kV fun μ1 hp1 => ?_) kN
  have e9 := hp1
  have hS := hS.add e9
  have hM := hS.1.1
  refine h_iconst (v := 0) C dX9_checksum_16 (by decide) ?_
  refine h_ist_1 C dX9_checksum_17 ct_r ?_
  exact bl_c1 C (Nat.zero_le _) (Nat.zero_le _) hS (i := 0) (by decide) (fun m1 g1 _ _ _ _ => bl_c1 C (Nat.zero_le _) (Nat.zero_le _) g1 (i := 1) (by decide) (fun m2 g2 _ _ _ _ => bl_c1 C (Nat.zero_le _) (Nat.zero_le _) g2 (i := 2) (by decide) (fun m3 g3 _ _ _ _ => bl_c1e C (Nat.zero_le _) (Nat.zero_le _) g3  (fun m4 g4 _ _ _ _ => bl_c2_0 C (Nat.zero_le _) (Nat.zero_le _) g4  (fun m5 g5 _ _ _ _ => bl_c2_1 C (Nat.zero_le _) (Nat.zero_le _) g5  (fun m6 g6 _ _ _ _ => bl_c2_2 C (Nat.zero_le _) (Nat.zero_le _) g6  (fun m7 g7 _ _ _ _ => bl_c2z C (Nat.zero_le _) (Nat.zero_le _) g7  (fun m8 g8 _ _ _ _ => bl_c3 C (Nat.zero_le _) (Nat.zero_le _) g8 (e := 0) (by decide) (fun m9 g9 _ _ _ _ => bl_c3 C (Nat.zero_le _) (Nat.zero_le _) g9 (e := 1) (by decide) (fun m10 g10 _ _ _ _ => bl_c3 C (Nat.zero_le _) (Nat.zero_le _) g10 (e := 2) (by decide) (fun m11 g11 _ _ _ _ => bl_c3z C (Nat.zero_le _) (Nat.zero_le _) g11  (fun m12 g12 _ _ _ _ => lp_c4 C (Nat.zero_le _) (Nat.zero_le _) (fun m99 g99 _ _ _ _ _ => bl_c5a C E (Nat.zero_le _) (Nat.zero_le _) g99 (fun m h => ⟨_, rfl, rfl, h⟩) _ _ _ _ _) S.nt.length 0 _ _ (by omega) g12 (by rw [List.drop_zero]) _ _ _ _) _ _ _ _) _ _ _ _) _ _ _ _) _ _ _ _) _ _ _ _) _ _ _ _) _ _ _ _) _ _ _ _) _ _ _ _) _ _ _ _) _ _ _ _) _ _ _ _

end
