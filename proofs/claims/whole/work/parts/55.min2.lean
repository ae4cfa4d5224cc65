section
variable {Q : Nat → Nat} {W : Nat → Prop} {S : Sx} {l : LX} {μ0 μ m : Mem} {k z n q : Nat} {r : Row}
theorem RowAt.wQ (h : RowAt μ k z n r) (hM : MRq Q S l μ) (hk : 190 ≤ k / 32) {j i : Nat} {v : Int32} (hj : j < 90) (e : m = μ.sei (Q j) i v) : RowAt m k z n r := h.same (by rw [e]; exact same_sei (hM.neD hj (by rw [h.1]; exact hk)))
theorem RowAt.w0i (h : RowAt μ k z n r) (hM : MRq Q S l μ) (hk : 190 ≤ k / 32) {f : Nat} {v : Int32} (e : m = μ.sfi f (Q 0) v) : RowAt m k z n r := h.same (by rw [e]; exact same_sfi (hM.neD (by decide) (by rw [h.1]; exact hk)))
theorem RowAt.w0r (h : RowAt μ k z n r) (hM : MRq Q S l μ) (hk : 190 ≤ k / 32) {f : Nat} {v : Option Nat} (e : m = μ.sfr f (Q 0) v) : RowAt m k z n r := h.same (by rw [e]; exact same_sfr (hM.neD (by decide) (by rw [h.1]; exact hk)))
theorem RowAt.w0l (h : RowAt μ k z n r) (hM : MRq Q S l μ) (hk : 190 ≤ k / 32) {f : Nat} {v : Int64} (e : m = μ.sfl f (Q 0) v) : RowAt m k z n r := h.same (by rw [e]; exact same_sfl (hM.neD (by decide) (by rw [h.1]; exact hk)))
theorem RowAt.newA (h : RowAt μ k z n r) (hk : k ≠ 0) {K N : Nat} (hq : μ.kd q = 0) (e : m = μ.newA q K N) : RowAt m k z n r := h.same (by rw [e]; exact same_newA (fun e9 => hk (by rw [← h.1, e9]; exact hq)))
theorem RowAt.tmp (h : RowAt μ k z n r) {N i : Nat} {vs : List Int32} {v : Int32} (hL : NL μ q N vs) (hk : k ≠ KTMP) (e : m = μ.sei q i v) : RowAt m k z n r := h.same (by rw [e]; exact same_sei (fun e9 => hk (by rw [← h.1, e9]; exact hL.1)))
theorem RowAt.nw (h : RowAt μ k z n r) (hk : k ≠ 0) (hn : Nw μ m) : RowAt m k z n r := h.same ((hn z).1 (by rw [h.1]; exact hk))
theorem RowAt.put (h : RowAt μ k z n r) {i : Nat} {v : Int32} (e : m = μ.sei z i v) : RowAt m k z n (u1 r i v) := ⟨by rw [e]; exact h.1, by rw [e]; exact h.2.1, fun j hj => by
  by_cases c : j = i
  · subst c
    exact (mei_at e).trans u1_eq.symm
  · exact (mei_ap e (Or.inr c)).trans ((h.2.2 j hj).trans (u1_ne c).symm)⟩
theorem RowAt.ext (h : RowAt μ k z n r) {r' : Row} (he : ∀ j, j < n → r j = r' j) : RowAt μ k z n r' := ⟨h.1, h.2.1, fun j hj => (h.2.2 j hj).trans (he j hj)⟩
theorem RowAt.mark (h : RowAt μ k z n r) {k' : Nat} : RowAt (μ.skd z k') k' z n r := ⟨kd_skd, h.2.1, h.2.2⟩
theorem MTo.rowT (h : MTo Q W μ0 S l μ) {i : Nat} {v : Int32} (hR : RowAt μ KTMP z n r) (h0 : μ0.kd z = 0 ∨ W (μ0.kd z)) (e : m = μ.sei z i v) : MTo Q W μ0 S l m := h.step (a := z) (fun y hy => by rw [e]; exact same_sei hy) h0 (Or.inr (by rw [hR.1]; unfold isMk; decide)) (by rw [e]; show isMk (μ.kd z); rw [hR.1]; unfold isMk; decide) (h.1.same fun y hy => by
  rw [e]
  exact same_sei (fun e9 => by rw [e9, hR.1] at hy; exact usK_tmp hy rfl))
theorem MTo.newM (h : MTo Q W μ0 S l μ) {K N : Nat} (hq : μ.kd q = 0) (e : m = μ.newA q K N) (hk : isMk K) : MTo Q W μ0 S l m := h.step (a := q) (fun y hy => by rw [e]; exact same_newA hy) (h.fresh hq) (Or.inl hq) (by rw [e, kd_newA]; exact hk) (h.1.same fun y hy => by
  rw [e]
  exact same_newA (fun e9 => isMk_nz (usK_mk hy) (by rw [e9]; exact hq)))
theorem MTo.lx (h : MTo Q W μ0 S l μ) (q1 : l.n = S.nt.length) (q2 : ∀ e, e < 3 → l.rl e = (S.rt e).length) (q3 : ∀ e, e < 3 → l.ol e = (OUT e S.ou).length) (q4 : ∀ a b, a < 3 → b < 3 → l.wl a b = (S.wt a b).length) (q5 : ∀ a b w, a < 3 → b < 3 → w < 3 → l.tk a b w = TKo (S.ses a b w)) (q6 : ∀ a b w, a < 3 → b < 3 → w < 3 → ¬ l.hs a b w) (q7 : ∀ a b w, a < 3 → b < 3 → w < 3 → ¬ l.ht a b w) : MTo Q W μ0 S (LXo S l.th) μ := ⟨h.1.toLX q1 q2 q3 q4 q5 q6 q7, h.2⟩
def WPut (k : Nat) : Prop := k = KM 0 ∨ k = KM 20
theorem POSTS_lt {r9 : Row} (h : S.nt.length < 60) : POSTS S r9 = S.sNt (S.nt ++ [r9]) := by unfold POSTS; rw [if_pos h]
theorem POSTS_ge {r9 : Row} (h : ¬ S.nt.length < 60) : POSTS S r9 = S := by unfold POSTS; rw [if_neg h]; rfl
/-- a letter's row while it is filled -/
def PUR (fr to kind : Int32) (fs : List Int32) (k : Nat) : Row := fun j => if j = 0 then fr else if j = 1 then to else if j = 2 then kind else if j < 3 + k then fs.getD (j - 3) 0 else if j < 9 then 0 else if j < 9 + k then fs.getD (j - 9) 0 else 0
theorem getD_out {fs : List Int32} {i : Nat} (h : fs.length ≤ i) : fs.getD i 0 = 0 := by rw [List.getD_eq_getElem?_getD, List.getElem?_eq_none h]; rfl
theorem PUR_0 (fr to kind : Int32) (fs : List Int32) (j : Nat) : u1 (u1 (u1 (fun _ => (0 : Int32)) 0 fr) 1 to) 2 kind j = PUR fr to kind fs 0 j := by
  unfold u1 PUR
  repeat' split
  all_goals first | rfl | (exfalso; omega)
theorem PUR_s {fr to kind : Int32} {fs : List Int32} {k9 : Nat} (h6 : k9 < 6) (j : Nat) : u1 (u1 (PUR fr to kind fs k9) (3 + k9) (fs.getD k9 0)) (9 + k9) (fs.getD k9 0) j = PUR fr to kind fs (k9 + 1) j := by
  unfold u1 PUR
  repeat' split
  all_goals first | rfl | (exfalso; omega) | (congr 1; omega)
theorem PUR_e {fr to kind key : Int32} {fs : List Int32} (h6 : fs.length ≤ 6) (j : Nat) (hj : j < 16) : u1 (PUR fr to kind fs fs.length) 15 (-1) j = mkL fr to kind fs key j := by
  unfold u1 PUR mkL
  repeat' split
  all_goals first | rfl | (exfalso; omega) | exact (getD_out (by omega)).symm
set_option maxRecDepth 100000 in
set_option maxHeartbeats 1000000 in
theorem lp_X9_put {Z : Zx} {Post : Option Value → Mem → Prop} {PostX : String → Mem → Prop} {mc ms : Nat} {Q : Nat → Nat} {S : Sx} {t : Int32} {μ : Mem} {q z : Nat} {fs : List Int32} {fr to kind key : Int32} (hM0 : MRq Q S (LXo S t) μ) (h6 : fs.length ≤ 6) (hlt : S.nt.length < 60) (hqz : q ≠ z) (hwz : μ.kd z = 0 ∨ WPut (μ.kd z)) (C : Cx Z RX9 cX9_put 0 mc ms 0) (E : Rt Z mc ms none Post PostX) (hP : ∀ m, MTo Q WPut μ (POSTS S (mkL fr to kind fs key)) (LXo (POSTS S (mkL fr to kind fs key)) t) m → Post none m) :
    ∀ (m j : Nat) (mz : Mem), j + m = fs.length → MTo Q WPut μ S (LXo S t) mz → NL mz q fs.length fs → RowAt mz KTMP z 16 (PUR fr to kind fs j) → HW Z mc ms 34 [some (.ref (Q 0)), some (.int fr), some (.int to), some (.int kind), some (.ref q), some (.ref z), some (.int (nI j))] [] mz := by
  intro m
  induction m with
  | zero =>
    intro j mz hj hT hL hR
    have hM := hT.1
    have hjE : j = fs.length := by omega
    subst hjE
    refine h_iload_w C dX9_put_34 rfl ?_
    refine h_al_w (j := 0) C dX9_put_36 rfl rfv_r ?_
    refine h_alen C dX9_put_38 ⟨by rw [hL.k]; decide, by rw [hL.k]; decide⟩ hL.2.1 ?_
    refine h_icmp_ge (tgt := 73) C dX9_put_39 (by decide) (fun c1 => ?_) (fun c1 => absurd ((nI_le (by omega) (by omega))) c1)
    refine h_al_w (j := 0) C dX9_put_73 rfl rfv_r ?_
    refine h_bipush (v := 15) C dX9_put_75 (by decide) ?_
    refine h_iconst (v := (-1)) C dX9_put_77 (by decide) ?_
    refine h_iast C dX9_put_78 (by rw [hR.1]; decide) (inb hR.2.1 (vp_in_nI (n := 15) (by decide) (by decide))) ?_
    refine h_abs (fun m9 em9 => ?_)
    rw [show Int32.toNatClampNeg 15 = 15 from rfl] at em9
    have hT := hT.rowT hR hwz em9
    have hM := hT.1
    have hL := hL.sei hqz em9
    have hR := hR.put em9
    have hM0 := hM0
    have hR2 := (hR.ext (fun j hj => PUR_e (key := key) h6 j hj))
    have hn : ∀ i, i < S.nt.length → m9.er (Q 20) i ≠ some z := fun i hi e => by
      obtain ⟨y, y1, y2⟩ := hM.row (List.getElem?_eq_getElem hi)
      cases e.symm.trans y1
      have y3 := y2.1
      rw [hR2.1] at y3
      exact absurd y3 (by decide)
    refine h_skd z KLR (by first | (rw [hR2.1]; done) | (rw [hR2.1]; decide)) (by rw [hR2.1]; decide) ?_
    have hT := hT.mark hR2.1 (k := KLR) ⟨by decide, by decide⟩ hwz
    have hM := hT.1
    have hR := hR2.mark (k' := KLR)
    refine h_al_g C dX9_put_79 rfl rfl rfv_r ?_
    refine gs_X9_80 C dX9_put_80 hM.kX (hM.fA (i := 20) (by decide)) ?_
    refine h_al_g C dX9_put_83 rfl rfl rfv_r ?_
    refine gf_X9_95 C dX9_put_84 hM.kX hM.f312 ?_
    refine h_al_w (j := 0) C dX9_put_87 rfl rfv_r ?_
    refine h_aast C dX9_put_89 (by rw [hM.k17 (by decide), kd_skd]; decide) (inb hM.ln60 (vp_in_nI hlt (by decide))) ?_
    refine h_abs (fun m8 e8 => ?_)
    rw [show (nI (LXo S t).n).toNatClampNeg = S.nt.length from cl_of (show S.nt.length < 2 ^ 31 by omega)] at e8
    have hT := hT.ser (j := 20) (by decide) (Or.inr (Or.inr (hM0.kd (by decide)))) e8 (hM.addL e8 hR hn hlt)
    have hM := hT.1
    refine h_al_g C dX9_put_90 rfl rfl rfv_r ?_
    refine h_dup C dX9_put_91 rfl ?_
    refine gf_X9_95 C dX9_put_92 hM.kX hM.f312 ?_
    refine h_iconst (v := 1) C dX9_put_95 (by decide) ?_
    refine h_iadd C dX9_put_96 ?_
    refine pf_X9_95 C dX9_put_97 hM.kX ?_
    refine h_abs (fun m1 em1 => ?_)
    have hT := hT.sfi (Or.inr (Or.inl (hM0.kd (by decide)))) em1 (hT.1.w312 (n := S.nt.length + 1) (em1.trans (congrArg (fun v => Mem.sfi _ 312 (Q 0) v) (nI_add S.nt.length 1))))
    have hM := hT.1
    refine h_ret C E dX9_put_100 (Nat.le_refl _) (Nat.le_refl _) ?_
    refine hP _ ?_
    rw [POSTS_lt hlt]
    exact hT.lx (List.length_append (as := S.nt) (bs := [_])).symm (fun _ _ => rfl) (fun _ _ => rfl) (fun _ _ _ _ => rfl) (fun _ _ _ _ _ _ => rfl) (fun _ _ _ _ _ _ z => z) (fun _ _ _ _ _ _ z => z)
  | succ m ih =>
    intro j mz hj hT hL hR
    have hM := hT.1
    have hjl : j < fs.length := by omega
    refine h_iload_w C dX9_put_34 rfl ?_
    refine h_al_w (j := 0) C dX9_put_36 rfl rfv_r ?_
    refine h_alen C dX9_put_38 ⟨by rw [hL.k]; decide, by rw [hL.k]; decide⟩ hL.2.1 ?_
    refine h_icmp_ge (tgt := 73) C dX9_put_39 (by decide) (fun c1 => absurd c1 ((nI_ge (by omega) (by omega)))) (fun c1 => ?_)
    refine h_al_w (j := 0) C dX9_put_42 rfl rfv_r ?_
    refine h_iconst (v := 3) C dX9_put_44 (by decide) ?_
    refine h_iload_w C dX9_put_45 rfl ?_
    refine h_iadd C dX9_put_47 ?_
    refine h_al_w (j := 0) C dX9_put_48 rfl rfv_r ?_
    refine h_iload_w C dX9_put_50 rfl ?_
    refine h_iald C dX9_put_52 hL.k (inb hL.2.1 (vp_in_nI hjl (by omega))) (show _ = fs.getD j 0 from by rw [show (nI j).toNatClampNeg = j from cl_of (by omega), hL.2.2 j hjl, List.getD_eq_getElem?_getD, List.getElem?_eq_getElem hjl]; rfl) ?_
    refine h_iast C dX9_put_53 (by rw [hR.1]; decide) (inb hR.2.1 (show vp_in (3 + nI j) 16 from by rw [show (3 + nI j : Int32) = nI (3 + j) from nI_add 3 j]; exact vp_in_nI (by omega) (by decide))) ?_
    refine h_abs (fun m7 em7 => ?_)
    rw [show (3 + nI j : Int32).toNatClampNeg = 3 + j from by rw [show (3 + nI j : Int32) = nI (3 + j) from nI_add 3 j]; exact cl_of (by omega)] at em7
    have hT := hT.rowT hR hwz em7
    have hM := hT.1
    have hL := hL.sei hqz em7
    have hR := hR.put em7
    refine h_al_w (j := 0) C dX9_put_54 rfl rfv_r ?_
    refine h_bipush (v := 9) C dX9_put_56 (by decide) ?_
    refine h_iload_w C dX9_put_58 rfl ?_
    refine h_iadd C dX9_put_60 ?_
    refine h_al_w (j := 0) C dX9_put_61 rfl rfv_r ?_
    refine h_iload_w C dX9_put_63 rfl ?_
    refine h_iald C dX9_put_65 hL.k (inb hL.2.1 (vp_in_nI hjl (by omega))) (show _ = fs.getD j 0 from by rw [show (nI j).toNatClampNeg = j from cl_of (by omega), hL.2.2 j hjl, List.getD_eq_getElem?_getD, List.getElem?_eq_getElem hjl]; rfl) ?_
    refine h_iast C dX9_put_66 (by rw [hR.1]; decide) (inb hR.2.1 (show vp_in (9 + nI j) 16 from by rw [show (9 + nI j : Int32) = nI (9 + j) from nI_add 9 j]; exact vp_in_nI (by omega) (by decide))) ?_
    refine h_abs (fun m8 em8 => ?_)
    rw [show (9 + nI j : Int32).toNatClampNeg = 9 + j from by rw [show (9 + nI j : Int32) = nI (9 + j) from nI_add 9 j]; exact cl_of (by omega)] at em8
    have hT := hT.rowT hR hwz em8
    have hM := hT.1
    have hL := hL.sei hqz em8
    have hR := hR.put em8
    refine h_iinc_6 (q := 1) C dX9_put_67 (by decide) ct_r ?_
    refine h_goto (tgt := 34) C dX9_put_70 (by decide) ?_
    rw [nI_1]
    exact ih (j + 1) _ (by omega) hT hL (hR.ext (fun j9 _ => PUR_s (by omega) j9))

set_option maxRecDepth 100000 in
set_option maxHeartbeats 1000000 in
theorem k_X9_put (l : Launch) (G : Gx) (Q : Nat → Nat) (S : Sx) (t : Int32) (μ : Mem) (hM : MRq Q S (LXo S t) μ) (fr to kind : Int32) (q : Nat) (fs : List Int32) (hL : NL μ q fs.length fs) (h6 : fs.length ≤ 6) (key : Int32) : Kon l yX9_put cX9_put 7 none 0 1 16 0 G [.ref (Q 0), .int fr, .int to, .int kind, .ref q] μ (pV fun μ' => MTo Q WPut μ (POSTS S (mkL fr to kind fs key)) (LXo (POSTS S (mkL fr to kind fs key)) t) μ') noX := by
  refine Kon.ofG (by decide +kernel) (Nat.le_of_ble_eq_true rfl) (Nat.le_of_ble_eq_true rfl) (fun Z hZG C E NT MT => ?_)
  subst hZG
  have C : Cx Z RX9 cX9_put 0 1 16 0 := C
  show HW Z 0 0 0 [some (.ref (Q 0)), some (.int fr), some (.int to), some (.int kind), some (.ref q), none, none] [] μ
  have hM0 := hM
  have hT : MTo Q WPut μ S (LXo S t) μ := MTo.rf hM
  have hl60 := hM.nt.1
  refine h_al_g C dX9_put_0 rfl rfl rfv_r ?_
  refine gf_X9_95 C dX9_put_1 hM.kX hM.f312 ?_
  refine h_bipush (v := 60) C dX9_put_4 (by decide) ?_
  refine h_icmp_ne (tgt := 10) C dX9_put_6 (by decide) (fun c1 => ?_) (fun c1 => ?_)
  · have hlt : S.nt.length < 60 := by
      have h9 : S.nt.length ≠ 60 := fun h => c1 (by show nI S.nt.length = 60; rw [h]; rfl)
      omega
    refine h_bipush (v := 16) C dX9_put_10 (by decide) ?_
    refine h_newarr (atype := .int) (N := 16) (11 + 32 * 100) C ac_11 (by rw [(show (11 + 32 * 100) % 32 = 11 by first | decide | omega | (unfold FM; omega))]; rfl) (Or.inl (show (11 + 32 * 100) % 32 = 11 by first | decide | omega | (unfold FM; omega))) dX9_put_12 (by decide) (by decide) (by decide) (by first | decide | omega) (by first | decide | omega) (fun z hz => ?_)
    refine h_abs (fun m0 e0 => ?_)
    have hwz := hT.fresh hz
    have hqz := hL.ne hz
    have hT := hT.newT hz e0
    have hM := hT.1
    have hL := hL.newA hz e0
    have hR : RowAt m0 KTMP z 16 (fun _ => 0) := ⟨by rw [e0]; exact kd_newA, by rw [e0]; exact ln_newA, fun j hj => by rw [e0, z_ei_newA, if_pos rfl]⟩
    refine h_ast_5 C dX9_put_14 ct_r rfv_r ?_
    refine h_al_w (j := 0) C dX9_put_16 rfl rfv_r ?_
    refine h_iconst (v := 0) C dX9_put_18 (by decide) ?_
    refine h_iload_g C dX9_put_19 rfl rfl ?_
    refine h_iast C dX9_put_20 (by rw [hR.1]; decide) (inb hR.2.1 (vp_in_nI (n := 0) (by decide) (by decide))) ?_
    refine h_abs (fun m1 em1 => ?_)
    rw [show Int32.toNatClampNeg 0 = 0 from rfl] at em1
    have hT := hT.rowT hR hwz em1
    have hM := hT.1
    have hL := hL.sei hqz em1
    have hR := hR.put em1
    refine h_al_w (j := 0) C dX9_put_21 rfl rfv_r ?_
    refine h_iconst (v := 1) C dX9_put_23 (by decide) ?_
    refine h_iload_g C dX9_put_24 rfl rfl ?_
    refine h_iast C dX9_put_25 (by rw [hR.1]; decide) (inb hR.2.1 (vp_in_nI (n := 1) (by decide) (by decide))) ?_
    refine h_abs (fun m2 em2 => ?_)
    rw [show Int32.toNatClampNeg 1 = 1 from rfl] at em2
    have hT := hT.rowT hR hwz em2
    have hM := hT.1
    have hL := hL.sei hqz em2
    have hR := hR.put em2
    refine h_al_w (j := 0) C dX9_put_26 rfl rfv_r ?_
    refine h_iconst (v := 2) C dX9_put_28 (by decide) ?_
    refine h_iload_g C dX9_put_29 rfl rfl ?_
    refine h_iast C dX9_put_30 (by rw [hR.1]; decide) (inb hR.2.1 (vp_in_nI (n := 2) (by decide) (by decide))) ?_
    refine h_abs (fun m3 em3 => ?_)
    rw [show Int32.toNatClampNeg 2 = 2 from rfl] at em3
    have hT := hT.rowT hR hwz em3
    have hM := hT.1
    have hL := hL.sei hqz em3
    have hR := hR.put em3
    refine h_iconst (v := 0) C dX9_put_31 (by decide) ?_
    refine h_ist_6 C dX9_put_32 ct_r ?_
    exact lp_X9_put hM0 h6 hlt hqz hwz C E (fun m9 h9 => ⟨rfl, h9⟩) fs.length 0 _ (by omega) hT hL (hR.ext (fun j _ => PUR_0 fr to kind fs j))
  · have hlt : ¬ S.nt.length < 60 := by
      have h9 : S.nt.length = 60 := (nI_eq (a := S.nt.length) (b := 60) (by omega) (by decide)).mp c1
      omega
    refine h_ret C E dX9_put_9 (by decide) (by decide) ?_
    exact ⟨rfl, by rw [POSTS_ge hlt]; exact hT⟩

end
