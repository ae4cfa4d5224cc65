section
theorem hzs_cong (K : Int) {g g' : Nat → Int} : ∀ (m i : Nat), (∀ j, j < i + m → g j = g' j) → hzs K g i m = hzs K g' i m
  | 0, i, h => rfl
  | m + 1, i, h => by
    unfold hzs
    rw [hzs_cong K m (i + 1) (fun j hj => h j (by omega)), h i (by omega)]
theorem hz_cong (K f : Int) {g g' : Nat → Int} (n : Nat) (h : ∀ j, j < n → g j = g' j) : SEALc K f g n = SEALc K f g' n := by
  unfold SEALc
  rw [hzs_cong K n 0 (fun j hj => h j (by omega))]
abbrev KFLO : Nat := 4 + 32 * 40
theorem u1_eq' {α : Type} {f : Nat → α} {a : Nat} {v : α} : u1 f a v a = v := if_pos rfl
theorem ORIG_t {r r' : Row} (h : r' 15 = r 15) (h2 : ∀ i, r' (9 + i) = r (9 + i) ∨ r 15 = -1) : ORIG r' = ORIG r := by
  unfold ORIG
  rw [h]
  by_cases c : r 15 = -1
  · rw [if_pos c, if_pos c]
  · rw [if_neg c, if_neg c]
    exact (h2 _).resolve_right c
theorem LeAt.s100 {μ : Mem} {k p : Nat} {r : Row} (h : LeAt μ k p r) (v : Int32) : LeAt (μ.sfi 100 p v) k p (u1 r 0 v) := by
  obtain ⟨h0, h1, h2, h3, h4, h5, h6, h7, fa9, g1, g2, g3, g4⟩ := h
  exact ⟨h0, h1, h2, h3, (fi_at rfl).trans (u1_eq (f := r) (a := 0) (v := v)).symm, h5, h6, h7.trans (ORIG_t (r := r) (r' := u1 r 0 v) rfl (fun i => Or.inl (u1_ne (show 9 + i ≠ 0 by omega)))).symm, fa9, g1, g2, g3, fun i hi => (g4 i hi).trans (u1_ne (show 3 + i ≠ 0 by omega)).symm⟩
theorem LeAt.s101 {μ : Mem} {k p : Nat} {r : Row} (h : LeAt μ k p r) (ht : r 15 = -1) (v : Int32) : LeAt (μ.sfi 101 p v) k p (u1 r 16 v) := by
  obtain ⟨h0, h1, h2, h3, h4, h5, h6, h7, fa9, g1, g2, g3, g4⟩ := h
  exact ⟨h0, h1, h2, h3, h4, (fi_at rfl).trans (u1_eq (f := r) (a := 16) (v := v)).symm, h6, h7.trans (ORIG_t (r := r) (r' := u1 r 16 v) rfl (fun i => Or.inr ht)).symm, fa9, g1, g2, g3, fun i hi => (g4 i hi).trans (u1_ne (show 3 + i ≠ 16 by omega)).symm⟩
theorem LeAt.sei {μ : Mem} {k p fa : Nat} {r : Row} (h : LeAt μ k p r) (hf : μ.fr 99 p = some fa) {i : Nat} (hi : i < 6) (v : Int32) : LeAt (μ.sei fa i v) k p (u1 r (3 + i) v) := by
  obtain ⟨h0, h1, h2, h3, h4, h5, h6, h7, fa9, g1, g2, g3, g4⟩ := h
  cases hf.symm.trans g1
  refine ⟨h0, h1.trans (u1_ne (by omega)).symm, h2.trans (u1_ne (by omega)).symm, ?_, h4.trans (u1_ne (by omega)).symm, h5.trans (u1_ne (by omega)).symm, h6.trans (u1_ne (by omega)).symm, h7.trans (ORIG_t (r' := u1 r (3 + i) v) (u1_ne (by omega)) (fun j => Or.inl (u1_ne (by omega)))).symm, fa, g1, g2, g3, fun j hj => ?_⟩
  · rw [u1_ne (by omega)]; exact h3
  · show u2 μ.ei fa i v fa j = u1 r (3 + i) v (3 + j)
    by_cases c : j = i
    · subst c
      rw [u2_eq, u1_eq]
    · rw [u1_ne (by omega)]
      unfold u2
      rw [if_pos rfl, if_neg c]
      exact g4 j hj
/-- the fields as they were sealed -/
def SNT (r : Row) : Row := fun j => if 9 ≤ j ∧ j < 15 then r (j - 6) else r j
theorem LeAt.snt {μ : Mem} {k p : Nat} {r : Row} (h : LeAt μ k p r) (ht : r 15 = -1) : LeAt μ k p (SNT r) := by
  obtain ⟨h0, h1, h2, h3, h4, h5, h6, h7, fa9, g1, g2, g3, g4⟩ := h
  refine ⟨h0, h1, h2, h3, h4, h5, h6, h7.trans (ORIG_t (r := r) (r' := SNT r) rfl (fun i => Or.inr ht)).symm, fa9, g1, g2, g3, fun i hi => (g4 i hi).trans ?_⟩
  unfold SNT
  rw [if_neg (by omega)]
theorem LeAt.mark {μ : Mem} {k k' p : Nat} {r : Row} (h : LeAt μ k p r) (hm : k % 32 = 4) : LeAt (μ.skd p k') k' p r := by
  obtain ⟨h0, h1, h2, h3, h4, h5, h6, h7, fa9, g1, g2, g3, g4⟩ := h
  exact ⟨kd_skd, h1, h2, h3, h4, h5, h6, h7, fa9, g1, (ke_skd (fun e => by rw [e, h0] at g2; unfold FM at g2; omega)).trans g2, g3, g4⟩
theorem LeW_isC {μ : Mem} {q : Nat} (h : isC (μ.kd q)) (k : Nat) (hk : LeW μ q k) : isC k := hk.elim (fun e => by rw [e]; exact h) (fun e => by rw [e]; exact isC_FM q)
theorem LeW_Wf {μ : Mem} {q : Nat} (h : μ.kd q / 32 = 40) (k : Nat) (hk : LeW μ q k) : Wf μ k := hk.elim (fun e => Or.inl (by rw [e]; exact h)) (fun e => Or.inr ⟨q, e, fun z => by rw [z] at h; exact absurd h (by decide)⟩)
theorem LW_isC {G : Gx} {P : Nat → Nat} {S : Sx} {μ : Mem} (h : CRep G P S μ) {j : Nat} (hj : j < 34) (k : Nat) (hk : LW μ (P j) k) : isC k := hk.elim (fun e => by rw [e]; exact isC_P h.1 hj) (fun e => by rw [e]; exact isC_LM _)
/-- a letter that was sealed -/
def SLD (r : Row) (K : Nat) : Row := u1 (u1 r 16 (nI K)) (3 + TPn (r 2)) (SEALR K r)
theorem SEALR_16 (K : Nat) (r : Row) (v : Int32) : SEALR K (u1 r 16 v) = SEALR K r := by
  unfold SEALR
  rw [show (u1 r 16 v) 2 = r 2 from rfl]
  congr 2
  exact hz_cong _ _ _ (fun i hi => by rw [u1_ne (by have := TPn_rng (r 2); omega)])

set_option maxRecDepth 100000 in
set_option maxHeartbeats 4000000 in
theorem k_X2_fld (l : Launch) (G : Gx) (μ : Mem) (p fa i : Nat) (f w : Int32) (hf : f = nI i) (hi : i < 6) (hk : μ.kd p % 32 = 4) (b1 : μ.fr 99 p = some fa) (b2 : μ.kd fa % 32 = 11) (b3 : μ.ln fa = 6) (hw : μ.ei fa i = w) : Kon l yX2_fieldAt cX2_fieldAt 2 (some .int) 0 0 0 0 G [.ref p, .int f] μ (pI fun v μ' => μ = μ' ∧ v = w) noX := by
  refine Kon.ofG (by decide +kernel) (Nat.le_of_ble_eq_true rfl) (Nat.le_of_ble_eq_true rfl) (fun Z hZG C E NT MT => ?_)
  subst hZG
  have C : Cx Z RX2 cX2_fieldAt 0 0 0 0 := C
  show HW Z 0 0 0 [some (.ref p), some (.int f)] [] μ
  subst hf
  have h6 : (nI i).toInt = (i : Int) := nI_toInt (by omega)
  refine h_iload_g C dX2_fieldAt_0 rfl rfl ?_
  refine h_if_lt (tgt := 22) C dX2_fieldAt_1 (by decide) (fun c1 => absurd c1 ((fun h => by rw [Int32.lt_iff_toInt_lt, tl_0, h6] at h; omega))) (fun c1 => ?_)
  refine h_iload_g C dX2_fieldAt_4 rfl rfl ?_
  refine h_al_g C dX2_fieldAt_5 rfl rfl rfv_r ?_
  refine gs_X2_11 C dX2_fieldAt_6 hk b1 ?_
  refine h_alen C dX2_fieldAt_9 (⟨by rw [b2]; decide, by rw [b2]; decide⟩) b3 ?_
  rw [show (Int32.ofNat 6 : Int32) = 6 from rfl]
  refine h_icmp_ge (tgt := 22) C dX2_fieldAt_10 (by decide) (fun c2 => absurd c2 ((fun h => by rw [Int32.le_iff_toInt_le, tl_6, h6] at h; omega))) (fun c2 => ?_)
  refine h_al_g C dX2_fieldAt_13 rfl rfl rfv_r ?_
  refine gs_X2_11 C dX2_fieldAt_14 hk b1 ?_
  refine h_iload_g C dX2_fieldAt_17 rfl rfl ?_
  refine h_iald C dX2_fieldAt_18 b2 (by rw [b3]; exact vp_in_nI hi (by decide)) ((congrArg (μ.ei fa) (nI_clamp (n := i) (by omega))).trans hw) ?_
  refine h_goto (tgt := 23) C dX2_fieldAt_19 (by decide) ?_
  refine h_iret C E dX2_fieldAt_23 (by decide) (by decide) ?_
  exact ⟨_, rfl, rfl, rfl⟩

set_option maxRecDepth 100000 in
set_option maxHeartbeats 4000000 in
theorem k_X2_put (l : Launch) (G : Gx) (μ : Mem) (p fa i : Nat) (f w : Int32) (hf : f = nI i) (hi : i < 6) (hk : μ.kd p % 32 = 4) (b1 : μ.fr 99 p = some fa) (b2 : μ.kd fa % 32 = 11) (b3 : μ.ln fa = 6) : Kon l yX2_put cX2_put 3 none 0 0 0 0 G [.ref p, .int f, .int w] μ (pV fun μ' => μ' = μ.sei fa i w) noX := by
  refine Kon.ofG (by decide +kernel) (Nat.le_of_ble_eq_true rfl) (Nat.le_of_ble_eq_true rfl) (fun Z hZG C E NT MT => ?_)
  subst hZG
  have C : Cx Z RX2 cX2_put 0 0 0 0 := C
  show HW Z 0 0 0 [some (.ref p), some (.int f), some (.int w)] [] μ
  subst hf
  have h6 : (nI i).toInt = (i : Int) := nI_toInt (by omega)
  refine h_iload_g C dX2_put_0 rfl rfl ?_
  refine h_if_lt (tgt := 20) C dX2_put_1 (by decide) (fun c1 => absurd c1 ((fun h => by rw [Int32.lt_iff_toInt_lt, tl_0, h6] at h; omega))) (fun c1 => ?_)
  refine h_iload_g C dX2_put_4 rfl rfl ?_
  refine h_al_g C dX2_put_5 rfl rfl rfv_r ?_
  refine gs_X2_11 C dX2_put_6 hk b1 ?_
  refine h_alen C dX2_put_9 (⟨by rw [b2]; decide, by rw [b2]; decide⟩) b3 ?_
  rw [show (Int32.ofNat 6 : Int32) = 6 from rfl]
  refine h_icmp_ge (tgt := 20) C dX2_put_10 (by decide) (fun c2 => absurd c2 ((fun h => by rw [Int32.le_iff_toInt_le, tl_6, h6] at h; omega))) (fun c2 => ?_)
  refine h_al_g C dX2_put_13 rfl rfl rfv_r ?_
  refine gs_X2_11 C dX2_put_14 hk b1 ?_
  refine h_iload_g C dX2_put_17 rfl rfl ?_
  refine h_iload_g C dX2_put_18 rfl rfl ?_
  refine h_iast C dX2_put_19 b2 (by rw [b3]; exact vp_in_nI hi (by decide)) ?_
  refine h_ret C E dX2_put_20 (by decide) (by decide) ?_
  exact ⟨rfl, congrArg (fun j => μ.sei fa j w) (nI_clamp (n := i) (by omega))⟩

set_option maxRecDepth 100000 in
set_option maxHeartbeats 4000000 in
theorem k_X2_sealWith (l : Launch) (G : Gx) (μ : Mem) (k p : Nat) (r : Row) (hl : LeAt μ k p r) (hk : k % 32 = 4) (ht : r 15 = -1) (x : Int32) (K : Nat) (hx : x = nI K) (hK : K < 65521) : Kon l yX2_sealWith cX2_sealWith 3 (some .int) 2 0 0 126 G [.ref p, .int x] μ (pI fun v μ' => v = SEALR K r ∧ LeAt μ' k p (SLD r K) ∧ FrK (LeW μ p) μ μ') noX := by
  refine Kon.ofG (by decide +kernel) (Nat.le_of_ble_eq_true rfl) (Nat.le_of_ble_eq_true rfl) (fun Z hZG C E NT MT => ?_)
  subst hZG
  have C : Cx Z RX2 cX2_sealWith 2 0 0 126 := C
  show HW Z 0 0 0 [some (.ref p), some (.int x), none] [] μ
  subst hx
  obtain ⟨fa, b1, b2, b3, b4⟩ := LeAt.fa hl
  have h9 := TPn_rng (r 2)
  have hl2 := LeAt.s101 hl ht (nI K)
  have eT : (nI (TPn (r 2))).toInt = (TPn (r 2) : Int) := nI_toInt (by omega)
  have hkp := LeAt.k hl hk
  refine h_al_g C dX2_sealWith_0 rfl rfl rfv_r ?_
  refine h_iload_g C dX2_sealWith_1 rfl rfl ?_
  refine pf_X2_15 C dX2_sealWith_2 (LeAt.k hl hk) ?_
  refine h_iload_g C dX2_sealWith_5 rfl rfl ?_
  refine h_al_g C dX2_sealWith_6 rfl rfl rfv_r ?_
  refine gf_X2_25 C dX2_sealWith_7 hkp hl.f96 ?_
  refine h_al_g C dX2_sealWith_10 rfl rfl rfv_r ?_
  refine gs_X2_11 C dX2_sealWith_11 hkp b1 ?_
  refine h_al_g C dX2_sealWith_14 rfl rfl rfv_r ?_
  refine gf_X2_38 C dX2_sealWith_15 hkp hl.f98 ?_
  refine h_callS4 C (k_X4_sealOf Z.l Z.G _ _ _ fa K (TPn (r 2)) (fun i => r (3 + i)) rfl hK (TP_n _) (by omega) _ b2 (by show μ.ln fa < _; rw [b3]; decide) (by show _ ≤ μ.ln fa; rw [b3]; omega) (fun i hi => b4 i (by omega))) cw_X2_51 st_X4_sealOf dX2_sealWith_18 (by first | decide | exact Nat.le_of_ble_eq_true rfl) (by decide) (by decide) (by decide) (by decide) (kI fun r1 μ1 hp1 => ?_) kN
  obtain ⟨rfl, rfl⟩ := hp1
  refine h_ist_2 C dX2_sealWith_21 ct_i ?_
  refine h_al_g C dX2_sealWith_22 rfl rfl rfv_r ?_
  refine h_al_g C dX2_sealWith_23 rfl rfl rfv_r ?_
  refine gf_X2_38 C dX2_sealWith_24 hkp hl.f98 ?_
  refine h_iload_g C dX2_sealWith_27 rfl rfl ?_
  refine h_callV2 (ci := 3) C (k_X2_put Z.l Z.G _ p fa (TPn (r 2)) _ _ (TP_n _) (by omega) hkp b1 b2 b3) cw_X2_47 im_X2_put sl_X2_put rfl (by decide) hkp dX2_sealWith_28 (by first | decide | exact Nat.le_of_ble_eq_true rfl) (by decide) (by decide) (by decide) (by decide) (kV fun μ2 hp2 => ?_) kN
  obtain rfl := hp2
  refine h_iload_g C dX2_sealWith_31 rfl rfl ?_
  refine h_iret C E dX2_sealWith_32 (by decide) (by decide) ?_
  refine ⟨_, rfl, rfl, ?_, ?_⟩
  · exact LeAt.sei (i := TPn (r 2)) hl2 b1 (by omega) _
  · exact (FrK.sfi (Or.inl rfl)).tr (FrK.sei (Or.inr (by show μ.kd fa = FM p; obtain ⟨fa', c1, c2, -⟩ := hl.2.2.2.2.2.2.2.2; cases b1.symm.trans c1; exact c2)))

theorem tw_step {μ1 m m' : Mem} {fq q i : Nat} {r : Row} {v : Int32} (hs : ∀ z, z ≠ fq → SameAt μ1 m z) (kq : m.kd fq = FM q) (lq : m.ln fq = 6) (el : ∀ j, j < i → m.ei fq j = r (3 + j)) (e : m' = m.sei fq i v) (hv : v = r (3 + i)) : (∀ z, z ≠ fq → SameAt μ1 m' z) ∧ m'.kd fq = FM q ∧ m'.ln fq = 6 ∧ ∀ j, j < i + 1 → m'.ei fq j = r (3 + j) := by
  refine ⟨fun z hz => (hs z hz).tr (by rw [e]; exact same_sei hz), by rw [e]; exact kq, by rw [e]; exact lq, fun j hj => ?_⟩
  rw [e, z_ei_sei, if_pos rfl]
  by_cases c : j = i
  · rw [if_pos c, c]; exact hv
  · rw [if_neg c]; exact el j (by omega)
theorem ei_i' {μ μ' : Mem} {f a : Nat} {v : Int32} (e : μ' = μ.sfi f a v) : μ'.ei = μ.ei := by rw [e]; rfl
set_option maxRecDepth 100000 in
set_option maxHeartbeats 4000000 in
theorem k_X2_twin (l : Launch) (G : Gx) (μ : Mem) (k p : Nat) (r : Row) (hl : LeAt μ k p r) (hk : k % 32 = 4) (h40 : k / 32 ≠ 40) : Kon l yX2_twin cX2_twin 3 (some (.object "Burrowline$Letter")) 2 2 14 43 G [.ref p] μ (pA fun q μ' => μ.kd q = 0 ∧ LeAt μ' KFLO q r ∧ FrK (fun k => k = KFLO ∨ k = FM q) μ μ') noX := by
  refine Kon.ofG (by decide +kernel) (Nat.le_of_ble_eq_true rfl) (Nat.le_of_ble_eq_true rfl) (fun Z hZG C E NT MT => ?_)
  subst hZG
  have C : Cx Z RX2 cX2_twin 2 2 14 43 := C
  show HW Z 0 0 0 [some (.ref p), none, none] [] μ
  have hkp := LeAt.k hl hk
  have hkp0 : μ.kd p ≠ 0 := fun e => by rw [e] at hkp; omega
  refine nw_X2_9 (4 + 32 * 40) C dX2_twin_0 (by first | decide | omega) (by decide) (by decide) (fun q hq => ?_)
  have hpq := ne_of_new hq hkp0
  have hl1 : LeAt (μ.newO q (4 + 32 * 40)) k p r := hl.kept (FrK.newO (W := fun k => k = KFLO) hq rfl) (by omega) (fun e => h40 (by rw [e]; decide)) (fun e => by have e9 : 11 + 32 * (1000 + p) = 4 + 32 * 40 := e; omega)
  refine h_dup C dX2_twin_3 rfl ?_
  refine h_al_g C dX2_twin_4 rfl rfl rfv_r ?_
  refine gf_X2_25 C dX2_twin_5 (LeAt.k hl1 hk) hl1.f96 ?_
  refine h_al_g C dX2_twin_8 rfl rfl rfv_r ?_
  refine gf_X2_28 C dX2_twin_9 (LeAt.k hl1 hk) hl1.f100 ?_
  refine h_al_g C dX2_twin_12 rfl rfl rfv_r ?_
  refine gf_X2_31 C dX2_twin_13 (LeAt.k hl1 hk) hl1.f97 ?_
  refine h_callI3 C (k_X2_init Z.l Z.G q (r 2) (r 0) (r 1) _ (by rw [kd_newO])) cw_X2_41 im_X2_init rfl dX2_twin_16 (by first | decide | exact Nat.le_of_ble_eq_true rfl) (by decide) (by decide) (by decide) (by decide) (kV fun μ1 hp1 => ?_) kN
  obtain ⟨hlq, hfi⟩ := hp1
  rw [kd_newO] at hlq
  have hfr1 : FrK (fun k => k = KFLO ∨ k = FM q) (μ.newO q (4 + 32 * 40)) μ1 := hfi.mono (fun k hk => by
    rcases hk with e | e
    · rw [kd_newO] at e; exact Or.inl e
    · exact Or.inr e)
  have hfq2 : FM p ≠ FM q := fun e => hpq (by have e9 : 11 + 32 * (1000 + p) = 11 + 32 * (1000 + q) := e; omega)
  have hl2 : LeAt μ1 k p r := hl1.kept hfr1 (by omega) (fun e => e.elim (fun z => h40 (by rw [z]; decide)) (fun z => by rw [z] at hk; have e9 : (11 + 32 * (1000 + q)) % 32 = 4 := hk; omega)) (fun e => e.elim (fun z => by have e9 : 11 + 32 * (1000 + p) = 4 + 32 * 40 := z; omega) hfq2)
  obtain ⟨e0, e1, e2, e3, e4, e5, e6, e7, fq, f1, f2, f3, f4⟩ := hlq
  obtain ⟨g0, g1, g2, g3, g4, g5, g6, g7, fp, i1, i2, i3, i4⟩ := hl2
  have hfqk : FM q % 32 = 11 := by unfold FM; omega
  have hff : fp ≠ fq := fun e => by rw [e, f2] at i2; exact hfq2 i2.symm
  have hqf : q ≠ fq := fun e => by rw [← e, e0] at f2; have e9 : 4 + 32 * 40 = 11 + 32 * (1000 + q) := f2; omega
  have hpf : p ≠ fq := fun e => by rw [← e, g0] at f2; rw [f2] at hk; omega
  refine h_abs (fun a0 x0 => ?_)
  have hs0 : ∀ z, z ≠ fq → SameAt μ1 a0 z := fun z _ => by rw [x0]; exact SameAt.rf
  have kq0 : a0.kd fq = FM q := by rw [x0]; exact f2
  have lq0 : a0.ln fq = 6 := by rw [x0]; exact f3
  have el0 : ∀ j, j < 0 → a0.ei fq j = r (3 + j) := fun j hj => absurd hj (Nat.not_lt_zero _)
  refine h_ast_1 C dX2_twin_19 ct_r rfv_r ?_
  refine h_iconst (v := 0) C dX2_twin_20 (by decide) ?_
  refine h_ist_2 C dX2_twin_21 ct_r ?_
  refine h_iload_g C dX2_twin_22 rfl rfl ?_
  refine h_bipush (v := 6) C dX2_twin_23 (by decide) ?_
  refine h_icmp_ge (tgt := 44) C dX2_twin_25 (by decide) (fun c1 => absurd c1 (by decide)) (fun c1 => ?_)
  refine h_al_g C dX2_twin_28 rfl rfl rfv_r ?_
  refine h_iload_g C dX2_twin_29 rfl rfl ?_
  refine h_al_g C dX2_twin_30 rfl rfl rfv_r ?_
  refine h_iload_g C dX2_twin_31 rfl rfl ?_
  refine h_callV1 (ci := 3) C (k_X2_fld Z.l Z.G _ p fp 0 0 (r (3 + 0)) rfl (by decide) (by rw [(hs0 p hpf).1, g0]; exact hk) (((hs0 p hpf).2.2.1 99).trans i1) (by rw [(hs0 fp hff).1, i2]; unfold FM; omega) (by rw [(hs0 fp hff).2.2.2.2.1, i3]) ((congrFun (hs0 fp hff).2.2.2.2.2.1 0).trans (i4 0 (by decide)))) cw_X2_44 im_X2_fieldAt sl_X2_fieldAt rfl (by decide) (by rw [(hs0 p hpf).1, g0]; exact hk) dX2_twin_32 (by first | decide | exact Nat.le_of_ble_eq_true rfl) (by decide) (by decide) (by decide) (by decide) (kI fun r2 μ1 hp2 => ?_) kN
  obtain ⟨rfl, rfl⟩ := hp2
  refine h_callV2 (ci := 3) C (k_X2_put Z.l Z.G _ q fq 0 0 _ rfl (by decide) (by rw [(hs0 q hqf).1, e0]) (((hs0 q hqf).2.2.1 99).trans f1) (by rw [kq0]; exact hfqk) lq0) cw_X2_47 im_X2_put sl_X2_put rfl (by decide) (by rw [(hs0 q hqf).1, e0]) dX2_twin_35 (by first | decide | exact Nat.le_of_ble_eq_true rfl) (by decide) (by decide) (by decide) (by decide) (kV fun a1 hp3 => ?_) kN
  have x1 := hp3
  obtain ⟨hs1, kq1, lq1, el1⟩ := tw_step hs0 kq0 lq0 el0 (x1 : a1 = a0.sei fq 0 (r (3 + 0))) rfl
  refine h_iinc_2 (q := 1) C dX2_twin_38 (by decide) ct_r ?_
  rw [show (0 + 1 : Int32) = 1 from by decide]
  refine h_goto (tgt := 22) C dX2_twin_41 (by decide) ?_
  refine h_iload_g C dX2_twin_22 rfl rfl ?_
  refine h_bipush (v := 6) C dX2_twin_23 (by decide) ?_
  refine h_icmp_ge (tgt := 44) C dX2_twin_25 (by decide) (fun c2 => absurd c2 (by decide)) (fun c2 => ?_)
  refine h_al_g C dX2_twin_28 rfl rfl rfv_r ?_
  refine h_iload_g C dX2_twin_29 rfl rfl ?_
  refine h_al_g C dX2_twin_30 rfl rfl rfv_r ?_
  refine h_iload_g C dX2_twin_31 rfl rfl ?_
  refine h_callV1 (ci := 3) C (k_X2_fld Z.l Z.G _ p fp 1 1 (r (3 + 1)) rfl (by decide) (by rw [(hs1 p hpf).1, g0]; exact hk) (((hs1 p hpf).2.2.1 99).trans i1) (by rw [(hs1 fp hff).1, i2]; unfold FM; omega) (by rw [(hs1 fp hff).2.2.2.2.1, i3]) ((congrFun (hs1 fp hff).2.2.2.2.2.1 1).trans (i4 1 (by decide)))) cw_X2_44 im_X2_fieldAt sl_X2_fieldAt rfl (by decide) (by rw [(hs1 p hpf).1, g0]; exact hk) dX2_twin_32 (by first | decide | exact Nat.le_of_ble_eq_true rfl) (by decide) (by decide) (by decide) (by decide) (kI fun r4 μ2 hp4 => ?_) kN
  obtain ⟨rfl, rfl⟩ := hp4
  refine h_callV2 (ci := 3) C (k_X2_put Z.l Z.G _ q fq 1 1 _ rfl (by decide) (by rw [(hs1 q hqf).1, e0]) (((hs1 q hqf).2.2.1 99).trans f1) (by rw [kq1]; exact hfqk) lq1) cw_X2_47 im_X2_put sl_X2_put rfl (by decide) (by rw [(hs1 q hqf).1, e0]) dX2_twin_35 (by first | decide | exact Nat.le_of_ble_eq_true rfl) (by decide) (by decide) (by decide) (by decide) (kV fun a2 hp5 => ?_) kN
  have x2 := hp5
  obtain ⟨hs2, kq2, lq2, el2⟩ := tw_step hs1 kq1 lq1 el1 (x2 : a2 = a1.sei fq 1 (r (3 + 1))) rfl
  refine h_iinc_2 (q := 1) C dX2_twin_38 (by decide) ct_r ?_
  rw [show (1 + 1 : Int32) = 2 from by decide]
  refine h_goto (tgt := 22) C dX2_twin_41 (by decide) ?_
  refine h_iload_g C dX2_twin_22 rfl rfl ?_
  refine h_bipush (v := 6) C dX2_twin_23 (by decide) ?_
  refine h_icmp_ge (tgt := 44) C dX2_twin_25 (by decide) (fun c3 => absurd c3 (by decide)) (fun c3 => ?_)
  refine h_al_g C dX2_twin_28 rfl rfl rfv_r ?_
  refine h_iload_g C dX2_twin_29 rfl rfl ?_
  refine h_al_g C dX2_twin_30 rfl rfl rfv_r ?_
  refine h_iload_g C dX2_twin_31 rfl rfl ?_
  refine h_callV1 (ci := 3) C (k_X2_fld Z.l Z.G _ p fp 2 2 (r (3 + 2)) rfl (by decide) (by rw [(hs2 p hpf).1, g0]; exact hk) (((hs2 p hpf).2.2.1 99).trans i1) (by rw [(hs2 fp hff).1, i2]; unfold FM; omega) (by rw [(hs2 fp hff).2.2.2.2.1, i3]) ((congrFun (hs2 fp hff).2.2.2.2.2.1 2).trans (i4 2 (by decide)))) cw_X2_44 im_X2_fieldAt sl_X2_fieldAt rfl (by decide) (by rw [(hs2 p hpf).1, g0]; exact hk) dX2_twin_32 (by first | decide | exact Nat.le_of_ble_eq_true rfl) (by decide) (by decide) (by decide) (by decide) (kI fun r6 μ3 hp6 => ?_) kN
  obtain ⟨rfl, rfl⟩ := hp6
  refine h_callV2 (ci := 3) C (k_X2_put Z.l Z.G _ q fq 2 2 _ rfl (by decide) (by rw [(hs2 q hqf).1, e0]) (((hs2 q hqf).2.2.1 99).trans f1) (by rw [kq2]; exact hfqk) lq2) cw_X2_47 im_X2_put sl_X2_put rfl (by decide) (by rw [(hs2 q hqf).1, e0]) dX2_twin_35 (by first | decide | exact Nat.le_of_ble_eq_true rfl) (by decide) (by decide) (by decide) (by decide) (kV fun a3 hp7 => ?_) kN
  have x3 := hp7
  obtain ⟨hs3, kq3, lq3, el3⟩ := tw_step hs2 kq2 lq2 el2 (x3 : a3 = a2.sei fq 2 (r (3 + 2))) rfl
  refine h_iinc_2 (q := 1) C dX2_twin_38 (by decide) ct_r ?_
  rw [show (2 + 1 : Int32) = 3 from by decide]
  refine h_goto (tgt := 22) C dX2_twin_41 (by decide) ?_
  refine h_iload_g C dX2_twin_22 rfl rfl ?_
  refine h_bipush (v := 6) C dX2_twin_23 (by decide) ?_
  refine h_icmp_ge (tgt := 44) C dX2_twin_25 (by decide) (fun c4 => absurd c4 (by decide)) (fun c4 => ?_)
  refine h_al_g C dX2_twin_28 rfl rfl rfv_r ?_
  refine h_iload_g C dX2_twin_29 rfl rfl ?_
  refine h_al_g C dX2_twin_30 rfl rfl rfv_r ?_
  refine h_iload_g C dX2_twin_31 rfl rfl ?_
  refine h_callV1 (ci := 3) C (k_X2_fld Z.l Z.G _ p fp 3 3 (r (3 + 3)) rfl (by decide) (by rw [(hs3 p hpf).1, g0]; exact hk) (((hs3 p hpf).2.2.1 99).trans i1) (by rw [(hs3 fp hff).1, i2]; unfold FM; omega) (by rw [(hs3 fp hff).2.2.2.2.1, i3]) ((congrFun (hs3 fp hff).2.2.2.2.2.1 3).trans (i4 3 (by decide)))) cw_X2_44 im_X2_fieldAt sl_X2_fieldAt rfl (by decide) (by rw [(hs3 p hpf).1, g0]; exact hk) dX2_twin_32 (by first | decide | exact Nat.le_of_ble_eq_true rfl) (by decide) (by decide) (by decide) (by decide) (kI fun r8 μ4 hp8 => ?_) kN
  obtain ⟨rfl, rfl⟩ := hp8
  refine h_callV2 (ci := 3) C (k_X2_put Z.l Z.G _ q fq 3 3 _ rfl (by decide) (by rw [(hs3 q hqf).1, e0]) (((hs3 q hqf).2.2.1 99).trans f1) (by rw [kq3]; exact hfqk) lq3) cw_X2_47 im_X2_put sl_X2_put rfl (by decide) (by rw [(hs3 q hqf).1, e0]) dX2_twin_35 (by first | decide | exact Nat.le_of_ble_eq_true rfl) (by decide) (by decide) (by decide) (by decide) (kV fun a4 hp9 => ?_) kN
  have x4 := hp9
  obtain ⟨hs4, kq4, lq4, el4⟩ := tw_step hs3 kq3 lq3 el3 (x4 : a4 = a3.sei fq 3 (r (3 + 3))) rfl
  refine h_iinc_2 (q := 1) C dX2_twin_38 (by decide) ct_r ?_
  rw [show (3 + 1 : Int32) = 4 from by decide]
  refine h_goto (tgt := 22) C dX2_twin_41 (by decide) ?_
  refine h_iload_g C dX2_twin_22 rfl rfl ?_
  refine h_bipush (v := 6) C dX2_twin_23 (by decide) ?_
  refine h_icmp_ge (tgt := 44) C dX2_twin_25 (by decide) (fun c5 => absurd c5 (by decide)) (fun c5 => ?_)
  refine h_al_g C dX2_twin_28 rfl rfl rfv_r ?_
  refine h_iload_g C dX2_twin_29 rfl rfl ?_
  refine h_al_g C dX2_twin_30 rfl rfl rfv_r ?_
  refine h_iload_g C dX2_twin_31 rfl rfl ?_
  refine h_callV1 (ci := 3) C (k_X2_fld Z.l Z.G _ p fp 4 4 (r (3 + 4)) rfl (by decide) (by rw [(hs4 p hpf).1, g0]; exact hk) (((hs4 p hpf).2.2.1 99).trans i1) (by rw [(hs4 fp hff).1, i2]; unfold FM; omega) (by rw [(hs4 fp hff).2.2.2.2.1, i3]) ((congrFun (hs4 fp hff).2.2.2.2.2.1 4).trans (i4 4 (by decide)))) cw_X2_44 im_X2_fieldAt sl_X2_fieldAt rfl (by decide) (by rw [(hs4 p hpf).1, g0]; exact hk) dX2_twin_32 (by first | decide | exact Nat.le_of_ble_eq_true rfl) (by decide) (by decide) (by decide) (by decide) (kI fun r10 μ5 hp10 => ?_) kN
  obtain ⟨rfl, rfl⟩ := hp10
  refine h_callV2 (ci := 3) C (k_X2_put Z.l Z.G _ q fq 4 4 _ rfl (by decide) (by rw [(hs4 q hqf).1, e0]) (((hs4 q hqf).2.2.1 99).trans f1) (by rw [kq4]; exact hfqk) lq4) cw_X2_47 im_X2_put sl_X2_put rfl (by decide) (by rw [(hs4 q hqf).1, e0]) dX2_twin_35 (by first | decide | exact Nat.le_of_ble_eq_true rfl) (by decide) (by decide) (by decide) (by decide) (kV fun a5 hp11 => ?_) kN
  have x5 := hp11
  obtain ⟨hs5, kq5, lq5, el5⟩ := tw_step hs4 kq4 lq4 el4 (x5 : a5 = a4.sei fq 4 (r (3 + 4))) rfl
  refine h_iinc_2 (q := 1) C dX2_twin_38 (by decide) ct_r ?_
  rw [show (4 + 1 : Int32) = 5 from by decide]
  refine h_goto (tgt := 22) C dX2_twin_41 (by decide) ?_
  refine h_iload_g C dX2_twin_22 rfl rfl ?_
  refine h_bipush (v := 6) C dX2_twin_23 (by decide) ?_
  refine h_icmp_ge (tgt := 44) C dX2_twin_25 (by decide) (fun c6 => absurd c6 (by decide)) (fun c6 => ?_)
  refine h_al_g C dX2_twin_28 rfl rfl rfv_r ?_
  refine h_iload_g C dX2_twin_29 rfl rfl ?_
  refine h_al_g C dX2_twin_30 rfl rfl rfv_r ?_
  refine h_iload_g C dX2_twin_31 rfl rfl ?_
  refine h_callV1 (ci := 3) C (k_X2_fld Z.l Z.G _ p fp 5 5 (r (3 + 5)) rfl (by decide) (by rw [(hs5 p hpf).1, g0]; exact hk) (((hs5 p hpf).2.2.1 99).trans i1) (by rw [(hs5 fp hff).1, i2]; unfold FM; omega) (by rw [(hs5 fp hff).2.2.2.2.1, i3]) ((congrFun (hs5 fp hff).2.2.2.2.2.1 5).trans (i4 5 (by decide)))) cw_X2_44 im_X2_fieldAt sl_X2_fieldAt rfl (by decide) (by rw [(hs5 p hpf).1, g0]; exact hk) dX2_twin_32 (by first | decide | exact Nat.le_of_ble_eq_true rfl) (by decide) (by decide) (by decide) (by decide) (kI fun r12 μ6 hp12 => ?_) kN
  obtain ⟨rfl, rfl⟩ := hp12
  refine h_callV2 (ci := 3) C (k_X2_put Z.l Z.G _ q fq 5 5 _ rfl (by decide) (by rw [(hs5 q hqf).1, e0]) (((hs5 q hqf).2.2.1 99).trans f1) (by rw [kq5]; exact hfqk) lq5) cw_X2_47 im_X2_put sl_X2_put rfl (by decide) (by rw [(hs5 q hqf).1, e0]) dX2_twin_35 (by first | decide | exact Nat.le_of_ble_eq_true rfl) (by decide) (by decide) (by decide) (by decide) (kV fun a6 hp13 => ?_) kN
  have x6 := hp13
  obtain ⟨hs6, kq6, lq6, el6⟩ := tw_step hs5 kq5 lq5 el5 (x6 : a6 = a5.sei fq 5 (r (3 + 5))) rfl
  refine h_iinc_2 (q := 1) C dX2_twin_38 (by decide) ct_r ?_
  rw [show (5 + 1 : Int32) = 6 from by decide]
  refine h_goto (tgt := 22) C dX2_twin_41 (by decide) ?_
  refine h_iload_g C dX2_twin_22 rfl rfl ?_
  refine h_bipush (v := 6) C dX2_twin_23 (by decide) ?_
  refine h_icmp_ge (tgt := 44) C dX2_twin_25 (by decide) (fun c7 => ?_) (fun c7 => absurd (by decide) c7)
  have k9 : a6.kd q % 32 = 4 := by rw [(hs6 q hqf).1, e0]
  have kq20 : a6.kd q = KFLO := (hs6 q hqf).1.trans e0
  have fr9 : FrK (fun k => k = KFLO ∨ k = FM q) μ1 a6 := fun z => by
    by_cases c : z = fq
    · subst c
      exact ⟨fun _ => ⟨kq6.trans f2.symm, fun hn => absurd (Or.inr f2) hn⟩, fun h0 => absurd (f2.symm.trans h0) (by unfold FM; omega)⟩
    · exact ⟨fun _ => ⟨(hs6 z c).1, fun _ => hs6 z c⟩, fun h0 => Or.inl ((hs6 z c).1.trans h0)⟩
  refine h_al_g C dX2_twin_44 rfl rfl rfv_r ?_
  refine h_al_g C dX2_twin_45 rfl rfl rfv_r ?_
  refine gf_X2_15 C dX2_twin_46 (by rw [(hs6 p hpf).1, g0]; exact hk) (((hs6 p hpf).2.1 101).trans g5) ?_
  refine pf_X2_15 C dX2_twin_49 k9 ?_
  refine h_abs (fun m21 e21 => ?_)
  have k21 : m21.kd q % 32 = 4 := by rw [kd_sfi' e21]; exact k9
  have w21 := fk_sfi fr9 e21 (Or.inl kq20)
  have kq21 : m21.kd q = KFLO := (kd_sfi' e21).trans kq20
  refine h_al_g C dX2_twin_52 rfl rfl rfv_r ?_
  refine h_al_g C dX2_twin_53 rfl rfl rfv_r ?_
  refine gf_X2_19 C dX2_twin_54 (by rw [kd_sfi' e21, (hs6 p hpf).1, g0]; exact hk) ((fi_ap e21 (Or.inl (by decide))).trans (((hs6 p hpf).2.1 102).trans g6)) ?_
  refine pf_X2_19 C dX2_twin_57 k21 ?_
  refine h_abs (fun m22 e22 => ?_)
  have k22 : m22.kd q % 32 = 4 := by rw [kd_sfi' e22]; exact k21
  have w22 := fk_sfi w21 e22 (Or.inl kq21)
  have kq22 : m22.kd q = KFLO := (kd_sfi' e22).trans kq21
  refine h_al_g C dX2_twin_60 rfl rfl rfv_r ?_
  refine h_al_g C dX2_twin_61 rfl rfl rfv_r ?_
  refine gf_X2_22 C dX2_twin_62 (by rw [kd_sfi' e22, kd_sfi' e21, (hs6 p hpf).1, g0]; exact hk) ((fi_ap e22 (Or.inl (by decide))).trans ((fi_ap e21 (Or.inl (by decide))).trans (((hs6 p hpf).2.1 103).trans g7))) ?_
  refine pf_X2_22 C dX2_twin_65 k22 ?_
  refine h_abs (fun m23 e23 => ?_)
  have k23 : m23.kd q % 32 = 4 := by rw [kd_sfi' e23]; exact k22
  have w23 := fk_sfi w22 e23 (Or.inl kq22)
  have kq23 : m23.kd q = KFLO := (kd_sfi' e23).trans kq22
  refine h_al_g C dX2_twin_68 rfl rfl rfv_r ?_
  refine h_aret (r := (some _)) C E (by first | exact Or.inl ⟨_, rfl⟩ | exact Or.inr ⟨_, rfl⟩) dX2_twin_69 (by decide) (by decide) ?_
  exact ⟨_, rfl, hq, LeAt.mk (fa := fq) kq23 (((fi_ap e23 (Or.inl (by decide))).trans ((fi_ap e22 (Or.inl (by decide))).trans ((fi_ap e21 (Or.inl (by decide))).trans (((hs6 q hqf).2.1 96).trans (e1.trans row0_2)))))) (((fi_ap e23 (Or.inl (by decide))).trans ((fi_ap e22 (Or.inl (by decide))).trans ((fi_ap e21 (Or.inl (by decide))).trans (((hs6 q hqf).2.1 97).trans (e2.trans row0_1)))))) (((fi_ap e23 (Or.inl (by decide))).trans ((fi_ap e22 (Or.inl (by decide))).trans ((fi_ap e21 (Or.inl (by decide))).trans (((hs6 q hqf).2.1 98).trans (e3.trans (congrArg TP row0_2))))))) (((fi_ap e23 (Or.inl (by decide))).trans ((fi_ap e22 (Or.inl (by decide))).trans ((fi_ap e21 (Or.inl (by decide))).trans (((hs6 q hqf).2.1 100).trans (e4.trans row0_0)))))) ((fi_ap e23 (Or.inl (by decide))).trans ((fi_ap e22 (Or.inl (by decide))).trans (fi_at e21))) ((fi_ap e23 (Or.inl (by decide))).trans (fi_at e22)) (fi_at e23) ((by rw [fr_i e23, fr_i e22, fr_i e21]; exact ((hs6 q hqf).2.2.1 99).trans f1)) ((by rw [kd_sfi' e23, kd_sfi' e22, kd_sfi' e21]; exact kq6)) ((by rw [ln_i e23, ln_i e22, ln_i e21]; exact lq6)) (fun i hi => (by rw [ei_i e23, ei_i e22, ei_i e21]; exact el6 i hi)), ((FrK.newO hq (Or.inl rfl)).tr hfr1).tr w23⟩

def TRN (r : Row) (f by9 : Int32) : Row := u1 (u1 r 15 f) (3 + cl f) (r (3 + cl f) + by9)
theorem TRN_ORIG {r : Row} {f by9 : Int32} (h0 : 0 ≤ f.toInt) (h : f.toInt < 6) : ORIG (TRN r f by9) = r (9 + cl f) := by
  have hc := cl_eq h0
  have e1 : TRN r f by9 15 = f := (u1_ne (by omega)).trans u1_eq
  unfold ORIG
  rw [e1, if_neg (fun z => by rw [z] at h0; exact absurd h0 (by decide))]
  exact (u1_ne (show 9 + cl f ≠ 3 + cl f by omega)).trans (u1_ne (show 9 + cl f ≠ 15 by omega))
set_option maxRecDepth 100000 in
set_option maxHeartbeats 4000000 in
theorem k_X2_turnBy (l : Launch) (G : Gx) (μ : Mem) (k p : Nat) (r : Row) (hl : LeAt μ k p r) (hk : k % 32 = 4) (f z : Int32) (hf : 0 ≤ f.toInt ∧ f.toInt < 6) (hst : (r 15 = -1 ∧ r (9 + cl f) = r (3 + cl f)) ∨ (r 15 = f)) : Kon l yX2_turnBy cX2_turnBy 3 (some .int) 1 0 0 22 G [.ref p, .int f, .int z] μ (pI fun v μ' => v = r (3 + cl f) + z ∧ LeAt μ' k p (TRN r f z) ∧ μ'.kd = μ.kd ∧ ∀ q fa, μ.fr 99 p = some fa → q ≠ p → q ≠ fa → SameAt μ μ' q) noX := by
  refine Kon.ofG (by decide +kernel) (Nat.le_of_ble_eq_true rfl) (Nat.le_of_ble_eq_true rfl) (fun Z hZG C E NT MT => ?_)
  subst hZG
  have C : Cx Z RX2 cX2_turnBy 1 0 0 22 := C
  show HW Z 0 0 0 [some (.ref p), some (.int f), some (.int z)] [] μ
  have hf6 : 0 ≤ f.toInt ∧ f.toInt < 6 := hf
  have hc := cl_eq hf6.1
  have hkp := LeAt.k hl hk
  obtain ⟨h0, h1, h2, h3, h4, h5, h6, h7, fa, b1, b2, b3, b4⟩ := hl
  have hfk : μ.kd fa % 32 = 11 := by rw [b2]; unfold FM; omega
  have hin : vp_in f (μ.ln fa) := by rw [b3]; exact vp_isE hf6.1 hf6.2 (by decide)
  have hb := b4 (cl f) (by omega)
  have hcf : f = nI (cl f) := cl_nI hf6.1
  refine h_al_g C dX2_turnBy_0 rfl rfl rfv_r ?_
  refine gf_X2_19 C dX2_turnBy_1 hkp h6 ?_
  refine h_iconst (v := (-1)) C dX2_turnBy_4 (by decide) ?_
  refine h_icmp_ne (tgt := 22) C dX2_turnBy_5 (by decide) (fun c3 => ?_) (fun c3 => ?_)
  · have hst2 := hst.resolve_left (fun h => c3 h.1)
    refine h_al_g C dX2_turnBy_22 rfl rfl rfv_r ?_
    refine h_iload_g C dX2_turnBy_23 rfl rfl ?_
    refine h_al_g C dX2_turnBy_24 rfl rfl rfv_r ?_
    refine h_iload_g C dX2_turnBy_25 rfl rfl ?_
    refine h_callV1 (ci := 3) C (k_X2_fld Z.l Z.G _ p fa (cl f) f (r (3 + cl f)) hcf (by omega) hkp b1 hfk b3 hb) cw_X2_44 im_X2_fieldAt sl_X2_fieldAt rfl (by decide) hkp dX2_turnBy_26 (by first | decide | exact Nat.le_of_ble_eq_true rfl) (by decide) (by decide) (by decide) (by decide) (kI fun r1 μ1 hp1 => ?_) kN
    obtain ⟨rfl, rfl⟩ := hp1
    refine h_iload_g C dX2_turnBy_29 rfl rfl ?_
    refine h_iadd C dX2_turnBy_30 ?_
    refine h_callV2 (ci := 3) C (k_X2_put Z.l Z.G _ p fa (cl f) f _ hcf (by omega) hkp b1 hfk b3) cw_X2_47 im_X2_put sl_X2_put rfl (by decide) hkp dX2_turnBy_31 (by first | decide | exact Nat.le_of_ble_eq_true rfl) (by decide) (by decide) (by decide) (by decide) (kV fun μ2 hp2 => ?_) kN
    obtain rfl := hp2
    refine h_al_g C dX2_turnBy_34 rfl rfl rfv_r ?_
    refine h_iload_g C dX2_turnBy_35 rfl rfl ?_
    refine h_callV1 (ci := 3) C (k_X2_fld Z.l Z.G _ p fa (cl f) f _ hcf (by omega) hkp b1 hfk b3 u2_eq) cw_X2_44 im_X2_fieldAt sl_X2_fieldAt rfl (by decide) hkp dX2_turnBy_36 (by first | decide | exact Nat.le_of_ble_eq_true rfl) (by decide) (by decide) (by decide) (by decide) (kI fun r3 μ3 hp3 => ?_) kN
    obtain ⟨rfl, rfl⟩ := hp3
    refine h_iret C E dX2_turnBy_39 (by decide) (by decide) ?_
    refine ⟨_, rfl, ?_, ⟨h0, ?_, ?_, ?_, ?_, ?_, ?_, ?_, fa, b1, b2, b3, fun i hi => ?_⟩, ?_⟩
    · exact rfl
    · exact h1.trans ((u1_ne (by omega)).trans (u1_ne (by omega))).symm
    · exact h2.trans ((u1_ne (by omega)).trans (u1_ne (by omega))).symm
    · exact h3.trans (congrArg TP ((u1_ne (by omega)).trans (u1_ne (by omega))).symm)
    · exact h4.trans ((u1_ne (by omega)).trans (u1_ne (by omega))).symm
    · exact h5.trans ((u1_ne (by omega)).trans (u1_ne (by omega))).symm
    · exact (h6.trans hst2).trans ((u1_ne (by omega)).trans u1_eq).symm
    · rw [TRN_ORIG hf6.1 hf6.2]; rw [z_fi_sei, h7]; unfold ORIG; rw [if_neg (fun e => by rw [← hst2, e] at hf6; exact absurd hf6.1 (by decide)), hst2]
    · show u2 μ.ei fa (cl f) _ fa i = TRN r f z (3 + i)
      unfold TRN
      by_cases c : i = cl f
      · rw [c, u2_eq, u1_eq]
      · rw [u1_ne (by omega), u1_ne (by omega)]
        unfold u2
        rw [if_pos rfl, if_neg c]
        exact b4 i hi
    · exact ⟨rfl, fun q fb e h1 h2 => by cases b1.symm.trans e; exact same_sei h2⟩
  · have c3 := c3
    have hst1 : r (9 + cl f) = r (3 + cl f) := by
      rcases hst with h | h
      · exact h.2
      · exact absurd (h.symm.trans c3) (fun e => by rw [e] at hf6; exact absurd hf6.1 (by decide))
    refine h_al_g C dX2_turnBy_8 rfl rfl rfv_r ?_
    refine h_iload_g C dX2_turnBy_9 rfl rfl ?_
    refine pf_X2_19 C dX2_turnBy_10 hkp ?_
    refine h_al_g C dX2_turnBy_13 rfl rfl rfv_r ?_
    refine h_al_g C dX2_turnBy_14 rfl rfl rfv_r ?_
    refine h_iload_g C dX2_turnBy_15 rfl rfl ?_
    refine h_callV1 (ci := 3) C (k_X2_fld Z.l Z.G _ p fa (cl f) f (r (3 + cl f)) hcf (by omega) hkp b1 hfk b3 hb) cw_X2_44 im_X2_fieldAt sl_X2_fieldAt rfl (by decide) hkp dX2_turnBy_16 (by first | decide | exact Nat.le_of_ble_eq_true rfl) (by decide) (by decide) (by decide) (by decide) (kI fun r4 μ4 hp4 => ?_) kN
    obtain ⟨rfl, rfl⟩ := hp4
    refine pf_X2_22 C dX2_turnBy_19 hkp ?_
    refine h_al_g C dX2_turnBy_22 rfl rfl rfv_r ?_
    refine h_iload_g C dX2_turnBy_23 rfl rfl ?_
    refine h_al_g C dX2_turnBy_24 rfl rfl rfv_r ?_
    refine h_iload_g C dX2_turnBy_25 rfl rfl ?_
    refine h_callV1 (ci := 3) C (k_X2_fld Z.l Z.G _ p fa (cl f) f (r (3 + cl f)) hcf (by omega) hkp b1 hfk b3 hb) cw_X2_44 im_X2_fieldAt sl_X2_fieldAt rfl (by decide) hkp dX2_turnBy_26 (by first | decide | exact Nat.le_of_ble_eq_true rfl) (by decide) (by decide) (by decide) (by decide) (kI fun r5 μ5 hp5 => ?_) kN
    obtain ⟨rfl, rfl⟩ := hp5
    refine h_iload_g C dX2_turnBy_29 rfl rfl ?_
    refine h_iadd C dX2_turnBy_30 ?_
    refine h_callV2 (ci := 3) C (k_X2_put Z.l Z.G _ p fa (cl f) f _ hcf (by omega) hkp b1 hfk b3) cw_X2_47 im_X2_put sl_X2_put rfl (by decide) hkp dX2_turnBy_31 (by first | decide | exact Nat.le_of_ble_eq_true rfl) (by decide) (by decide) (by decide) (by decide) (kV fun μ6 hp6 => ?_) kN
    obtain rfl := hp6
    refine h_al_g C dX2_turnBy_34 rfl rfl rfv_r ?_
    refine h_iload_g C dX2_turnBy_35 rfl rfl ?_
    refine h_callV1 (ci := 3) C (k_X2_fld Z.l Z.G _ p fa (cl f) f _ hcf (by omega) hkp b1 hfk b3 u2_eq) cw_X2_44 im_X2_fieldAt sl_X2_fieldAt rfl (by decide) hkp dX2_turnBy_36 (by first | decide | exact Nat.le_of_ble_eq_true rfl) (by decide) (by decide) (by decide) (by decide) (kI fun r7 μ7 hp7 => ?_) kN
    obtain ⟨rfl, rfl⟩ := hp7
    refine h_iret C E dX2_turnBy_39 (by decide) (by decide) ?_
    refine ⟨_, rfl, ?_, ⟨h0, ?_, ?_, ?_, ?_, ?_, ?_, ?_, fa, b1, b2, b3, fun i hi => ?_⟩, ?_⟩
    · exact rfl
    · exact h1.trans ((u1_ne (by omega)).trans (u1_ne (by omega))).symm
    · exact h2.trans ((u1_ne (by omega)).trans (u1_ne (by omega))).symm
    · exact h3.trans (congrArg TP ((u1_ne (by omega)).trans (u1_ne (by omega))).symm)
    · exact h4.trans ((u1_ne (by omega)).trans (u1_ne (by omega))).symm
    · exact h5.trans ((u1_ne (by omega)).trans (u1_ne (by omega))).symm
    · exact (show _ = f by simp only [z_fi_sfi, z_fi_sfr, z_fi_sfl, z_fi_sei, z_fi_ser, z_fi_sel, z_fi_skd, z_fi_newO, z_fi_newA, eq_self, if_true, if_false, Nat.reduceEqDiff, reduceIte]).trans ((u1_ne (by omega)).trans u1_eq).symm
    · rw [TRN_ORIG hf6.1 hf6.2]; rw [hst1]; simp only [z_fi_sfi, z_fi_sfr, z_fi_sfl, z_fi_sei, z_fi_ser, z_fi_sel, z_fi_skd, z_fi_newO, z_fi_newA, eq_self, if_true, if_false, Nat.reduceEqDiff, reduceIte]
    · show u2 μ.ei fa (cl f) _ fa i = TRN r f z (3 + i)
      unfold TRN
      by_cases c : i = cl f
      · rw [c, u2_eq, u1_eq]
      · rw [u1_ne (by omega), u1_ne (by omega)]
        unfold u2
        rw [if_pos rfl, if_neg c]
        exact b4 i hi
    · exact ⟨rfl, fun q fb e h1 h2 => by cases b1.symm.trans e; exact ((same_sfi h1).tr (same_sfi h1)).tr (same_sei h2)⟩

end
