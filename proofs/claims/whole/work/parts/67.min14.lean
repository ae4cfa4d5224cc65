section
theorem pairC_n1 {x y : Int32} (h : ¬ pairC x y = 1) : isE x ∧ isE y := Decidable.byContradiction fun z => h (pairC_1 z)
theorem pairC_e1 {x y : Int32} (h : pairC x y = 1) : ¬ (isE x ∧ isE y) := fun z => by
  by_cases c : x = y
  · rw [pairC_2 z.1 z.2 c] at h
    exact absurd h (by decide)
  · rw [pairC_ok z.1 z.2 c] at h
    exact absurd h (by decide)
theorem u1_u1 {α : Type} {f : Nat → α} {a : Nat} {v w : α} : u1 (u1 f a v) a w = u1 f a w := funext fun i => by
  by_cases c : i = a
  · subst c
    rw [u1_eq, u1_eq]
  · rw [u1_ne c, u1_ne c, u1_ne c]
theorem sRt_sRt {S : Sx} {e : Nat} {v w : List Row} : (S.sRt e v).sRt e w = S.sRt e w := congrArg (fun f => (S.sc, S.ef, S.lf, S.cd, S.fl, S.ses, S.wt, f, S.ou, S.nt)) u1_u1
theorem sRt_id {S : Sx} {a : Nat} : S.sRt a (S.rt a) = S := by
  have e : u1 S.rt a (S.rt a) = S.rt := funext fun i => by
    by_cases c : i = a
    · subst c
      exact u1_eq
    · exact u1_ne c
  show (S.sc, S.ef, S.lf, S.cd, S.fl, S.ses, S.wt, u1 S.rt a (S.rt a), S.ou, S.nt) = S
  rw [e]
  rfl
theorem MTo.lxR {Q : Nat → Nat} {W : Nat → Prop} {S : Sx} {t : Int32} {μ0 μ : Mem} {e n : Nat} {rs : List Row} (h : MTo Q W μ0 (S.sRt e rs) ((LXo S t).sRl e n) μ) (hn : n = rs.length) : MTo Q W μ0 (S.sRt e rs) (LXo (S.sRt e rs) t) μ := by
  refine h.lx rfl (fun e9 _ => ?_) (fun _ _ => rfl) (fun _ _ _ _ => rfl) (fun _ _ _ _ _ _ => rfl) (fun _ _ _ _ _ _ z => z) (fun _ _ _ _ _ _ z => z)
  show u1 (fun x => (S.rt x).length) e n e9 = (u1 S.rt e rs e9).length
  by_cases c : e9 = e
  · subst c
    rw [u1_eq, u1_eq, hn]
  · rw [u1_ne c, u1_ne c]
theorem MTo.lxR0 {Q : Nat → Nat} {W : Nat → Prop} {S : Sx} {t : Int32} {μ0 μ : Mem} {e : Nat} {rs : List Row} (h : MTo Q W μ0 (S.sRt e rs) (LXo S t) μ) (hn : (S.rt e).length = rs.length) : MTo Q W μ0 (S.sRt e rs) (LXo (S.sRt e rs) t) μ := by
  refine h.lx rfl (fun e9 _ => ?_) (fun _ _ => rfl) (fun _ _ _ _ => rfl) (fun _ _ _ _ _ _ => rfl) (fun _ _ _ _ _ _ z => z) (fun _ _ _ _ _ _ z => z)
  show (S.rt e9).length = (u1 S.rt e rs e9).length
  by_cases c : e9 = e
  · subst c
    rw [u1_eq, hn]
  · rw [u1_ne c]
theorem CNT_I {p b : Int32} (hp : inR p 0 255) (hb : inR b 0 8) : CNT p b = TOPB p b := by
  have p1 : (0 : Int) ≤ p.toInt := hp.1
  have p2 : p.toInt ≤ 255 := hp.2
  have b1 : (0 : Int) ≤ b.toInt := hb.1
  have b2 : b.toInt ≤ 8 := hb.2
  have h1 := cl_eq p1
  have h2 := cl_eq b1
  rw [cl_nI p1, cl_nI b1]
  exact CNT_TOPB _ (by omega) _ (by omega)
set_option maxRecDepth 100000 in
set_option maxHeartbeats 1000000 in
theorem k_X9_allow (l : Launch) (G : Gx) (Q : Nat → Nat) (S : Sx) (t : Int32) (μ : Mem) (hM : MRq Q S (LXo S t) μ) (x y p b : Int32) : Kon l yX9_allow cX9_allow 9 (some .int) 3 1 3 66 G [.ref (Q 0), .int x, .int y, .int p, .int b] μ (pI fun v μ' => (allC S x y p b = 0 ∧ v = nI (ALR (S.rt (cl x)) (TOPB p b) b y).length ∧ MTo Q WAll μ (S.sRt (cl x) (ALR (S.rt (cl x)) (TOPB p b) b y)) (LXo (S.sRt (cl x) (ALR (S.rt (cl x)) (TOPB p b) b y)) 0) μ') ∨ (¬ allC S x y p b = 0 ∧ MTo Q WAll μ S (LXo S (allC S x y p b)) μ')) noX := by
  refine Kon.ofG (by decide +kernel) (Nat.le_of_ble_eq_true rfl) (Nat.le_of_ble_eq_true rfl) (fun Z hZG C E NT MT => ?_)
  subst hZG
  have C : Cx Z RX9 cX9_allow 3 1 3 66 := C
  show HW Z 0 0 0 [some (.ref (Q 0)), some (.int x), some (.int y), some (.int p), some (.int b), none, none, none, none] [] μ
  have hT : MTo Q WAll μ S (LXo S t) μ := MTo.rf hM
  have h60_ := hM.nt.1
  refine h_iload_g C dX9_allow_0 rfl rfl ?_
  refine h_i2l C dX9_allow_1 ?_
  refine h_lconst (v := 0) C dX9_allow_2 (by decide) ?_
  refine h_ldc2 C kc_X9_220 dX9_allow_3 ?_
  refine h_callS3 C (k_X9_isBetween Z.l Z.G _ _ _ _) cw_X9_91 st_X9_isBetween dX9_allow_6 (by first | decide | exact Nat.le_of_ble_eq_true rfl) (by decide) (by decide) (by decide) (by decide) (kB (fun μ1 hp1 => ?_) (fun μ1 hp1 => ?_)) kN
  · obtain ⟨rfl, hBt⟩ := hp1
    rw [btw_i] at hBt
    have hB1 : inR p 0 255 := hBt
    refine h_if_eq (tgt := 29) C dX9_allow_9 (by decide) (fun c1 => absurd c1 (by decide)) (fun c1 => ?_)
    refine h_iload_w C dX9_allow_12 rfl ?_
    refine h_i2l C dX9_allow_14 ?_
    refine h_lconst (v := 0) C dX9_allow_15 (by decide) ?_
    refine h_ldc2 C kc_X9_222 dX9_allow_16 ?_
    refine h_callS3 C (k_X9_isBetween Z.l Z.G _ _ _ _) cw_X9_91 st_X9_isBetween dX9_allow_19 (by first | decide | exact Nat.le_of_ble_eq_true rfl) (by decide) (by decide) (by decide) (by decide) (kB (fun μ2 hp2 => ?_) (fun μ2 hp2 => ?_)) kN
    · obtain ⟨rfl, hBt⟩ := hp2
      rw [btw_i] at hBt
      have hB2 : inR b 0 8 := hBt
      refine h_if_eq (tgt := 29) C dX9_allow_22 (by decide) (fun c2 => absurd c2 (by decide)) (fun c2 => ?_)
      refine h_iconst (v := 1) C dX9_allow_25 (by decide) ?_
      refine h_goto (tgt := 30) C dX9_allow_26 (by decide) ?_
      refine h_ist_5 C dX9_allow_30 ct_i ?_
      refine h_iload_g C dX9_allow_32 rfl rfl ?_
      refine h_iload_g C dX9_allow_33 rfl rfl ?_
      refine h_callS2 C (k_X9_pair Z.l Z.G _ _ _) cw_X9_224 st_X9_pair dX9_allow_34 (by first | decide | exact Nat.le_of_ble_eq_true rfl) (by decide) (by decide) (by decide) (by decide) (kI fun r3 μ3 hp3 => ?_) kN
      obtain ⟨rfl, rfl⟩ := hp3
      refine h_iconst (v := 1) C dX9_allow_37 (by decide) ?_
      refine h_icmp_ne (tgt := 45) C dX9_allow_38 (by decide) (fun cQ => ?_) (fun cQ => ?_)
      · have hxy := pairC_n1 cQ
        obtain ⟨hx, hy⟩ := hxy
        have hxy : isE x ∧ isE y := ⟨hx, hy⟩
        refine h_iload_g C dX9_allow_45 rfl rfl ?_
        refine h_iload_g C dX9_allow_46 rfl rfl ?_
        refine h_icmp_eq (tgt := 55) C dX9_allow_47 (by decide) (fun cE => ?_) (fun cE => ?_)
        · refine h_iconst (v := 2) C dX9_allow_55 (by decide) ?_
          refine h_goto (tgt := 60) C dX9_allow_56 (by decide) ?_
          refine h_ist_6 C dX9_allow_60 ct_i ?_
          refine h_iload_w C dX9_allow_62 rfl ?_
          refine h_if_ne (tgt := 98) C dX9_allow_64 (by decide) (fun c5 => ?_) (fun c5 => absurd c5 (by decide))
          refine h_al_g C dX9_allow_98 rfl rfl rfv_r ?_
          refine h_iload_w C dX9_allow_99 rfl ?_
          refine h_callV1 (ci := 9) C (k_X9_isWrong Z.l Z.G (Q 0) _ hM.kX (2)) cw_X9_215 im_X9_isWrong sl_X9_isWrong rfl (by decide) hM.kX dX9_allow_101 (by first | decide | exact Nat.le_of_ble_eq_true rfl) (by decide) (by decide) (by decide) (by decide) (kB (fun μ4 hp4 => ?_) (fun μ4 hp4 => ?_)) kN
          · obtain ⟨hc, e9⟩ := hp4
            have hT := hT.sfi (Or.inr trivial) e9 (hT.1.w290 e9)
            have hM := hT.1
            refine h_if_eq (tgt := 109) C dX9_allow_104 (by decide) (fun c6 => absurd c6 (by decide)) (fun c6 => ?_)
            refine h_iconst (v := 0) C dX9_allow_107 (by decide) ?_
            refine h_iret C E dX9_allow_108 (by decide) (by decide) ?_
            exact ⟨_, rfl, Or.inr ⟨by rw [show allC S x y p b = 2 from (if_pos hxy).trans (if_neg (fun z => z cE))]; decide, by rw [show allC S x y p b = 2 from (if_pos hxy).trans (if_neg (fun z => z cE))]; exact hT⟩⟩
          · obtain ⟨hc, e9⟩ := hp4
            exact absurd hc (by decide)
        · refine h_iload_w C dX9_allow_50 rfl ?_
          refine h_if_ne (tgt := 59) C dX9_allow_52 (by decide) (fun c7 => ?_) (fun c7 => absurd c7 (by decide))
          refine h_iconst (v := 0) C dX9_allow_59 (by decide) ?_
          refine h_ist_6 C dX9_allow_60 ct_i ?_
          refine h_iload_w C dX9_allow_62 rfl ?_
          refine h_if_ne (tgt := 98) C dX9_allow_64 (by decide) (fun c8 => absurd c8 (by decide)) (fun c8 => ?_)
          refine h_al_g C dX9_allow_67 rfl rfl rfv_r ?_
          refine h_iload_g C dX9_allow_68 rfl rfl ?_
          refine h_iload_g C dX9_allow_69 rfl rfl ?_
          refine h_iload_w C dX9_allow_70 rfl ?_
          refine h_callS2 C (k_X9_counting Z.l Z.G _ _ _) cw_X9_227 st_X9_counting dX9_allow_72 (by first | decide | exact Nat.le_of_ble_eq_true rfl) (by decide) (by decide) (by decide) (by decide) (kI fun r5 μ5 hp5 => ?_) kN
          obtain ⟨rfl, rfl⟩ := hp5
          rw [CNT_I hB1 hB2]
          refine h_iload_w C dX9_allow_75 rfl ?_
          refine h_callV3 (ci := 9) C (k_X9_place Z.l Z.G Q S _ _ hM _ hx.lt _ hx.nI _ _) cw_X9_230 im_X9_place sl_X9_place rfl (by decide) hM.kX dX9_allow_77 (by first | decide | exact Nat.le_of_ble_eq_true rfl) (by decide) (by decide) (by decide) (by decide) (kI fun r6 μ6 hp6 => ?_) kN
          obtain ⟨rfl, rfl⟩ := hp6
          have hr8 := (hM.rt hx.lt).1
          refine h_iconst (v := (-1)) C dX9_allow_80 (by decide) ?_
          refine h_icmp_ne (tgt := 98) C dX9_allow_81 (by decide) (fun cP => ?_) (fun cP => ?_)
          · refine h_al_g C dX9_allow_98 rfl rfl rfv_r ?_
            refine h_iload_w C dX9_allow_99 rfl ?_
            refine h_callV1 (ci := 9) C (k_X9_isWrong Z.l Z.G (Q 0) _ hM.kX (0)) cw_X9_215 im_X9_isWrong sl_X9_isWrong rfl (by decide) hM.kX dX9_allow_101 (by first | decide | exact Nat.le_of_ble_eq_true rfl) (by decide) (by decide) (by decide) (by decide) (kB (fun μ7 hp7 => ?_) (fun μ7 hp7 => ?_)) kN
            · obtain ⟨hc, e9⟩ := hp7
              exact absurd rfl hc
            · obtain ⟨hc, e9⟩ := hp7
              have hT := hT.sfi (Or.inr trivial) e9 (hT.1.w290 e9)
              have hM := hT.1
              have hcode : allC S x y p b = 0 := (if_pos hxy).trans ((if_pos cE).trans ((if_pos hB1).trans ((if_pos hB2).trans (if_neg (fun z => cP z.1)))))
              refine h_if_eq (tgt := 109) C dX9_allow_104 (by decide) (fun c10 => ?_) (fun c10 => absurd (by decide) c10)
              refine h_iload_g C dX9_allow_109 rfl rfl ?_
              refine h_iload_w C dX9_allow_110 rfl ?_
              refine h_callS2 C (k_X9_counting Z.l Z.G _ _ _) cw_X9_227 st_X9_counting dX9_allow_112 (by first | decide | exact Nat.le_of_ble_eq_true rfl) (by decide) (by decide) (by decide) (by decide) (kI fun r8 μ8 hp8 => ?_) kN
              obtain ⟨rfl, rfl⟩ := hp8
              rw [CNT_I hB1 hB2]
              refine h_ist_7 C dX9_allow_115 ct_i ?_
              refine h_al_g C dX9_allow_117 rfl rfl rfv_r ?_
              refine h_iload_g C dX9_allow_118 rfl rfl ?_
              refine h_iload_w C dX9_allow_119 rfl ?_
              refine h_iload_w C dX9_allow_121 rfl ?_
              refine h_callV3 (ci := 9) C (k_X9_place Z.l Z.G Q S _ _ hM _ hx.lt _ hx.nI _ _) cw_X9_230 im_X9_place sl_X9_place rfl (by decide) hM.kX dX9_allow_123 (by first | decide | exact Nat.le_of_ble_eq_true rfl) (by decide) (by decide) (by decide) (by decide) (kI fun r9 μ9 hp9 => ?_) kN
              obtain ⟨rfl, rfl⟩ := hp9
              refine h_ist_8 C dX9_allow_126 ct_i ?_
              refine h_iload_w C dX9_allow_128 rfl ?_
              refine h_iconst (v := (-1)) C dX9_allow_130 (by decide) ?_
              refine h_icmp_ne (tgt := 147) C dX9_allow_131 (by decide) (fun c11 => ?_) (fun c11 => absurd c11 (cP))
              obtain ⟨i, r9, hi, hPe, -, -⟩ := (PRI_spec (TOPB p b) b (S.rt (cl x)) 0).resolve_left cP
              rw [Nat.zero_add] at hPe
              have hi8 : i < 8 := by have := (List.getElem?_eq_some_iff.mp hi).1; omega
              have hA : ALR (S.rt (cl x)) (TOPB p b) b y = (S.rt (cl x)).set i (mkR (TOPB p b) b y) := by
                unfold ALR
                rw [if_neg cP, hPe, cl_of (by omega)]
              rw [hPe]
              refine h_al_g C dX9_allow_147 rfl rfl rfv_r ?_
              refine gs_X9_32 C dX9_allow_148 hM.kX (hM.fA (i := 6) (by decide)) ?_
              refine h_iload_g C dX9_allow_151 rfl rfl ?_
              refine h_aald (r := some _) C dX9_allow_152 (hM.kr (by decide)) (inb (hM.ln3 (by decide)) (vp_isE hx.1 hx.2 (by decide))) (atI rfl (hM.ro hx.lt)) ?_
              refine h_iload_w C dX9_allow_153 rfl ?_
              refine h_iconst (v := 3) C dX9_allow_155 (by decide) ?_
              refine h_newarr (atype := .int) (N := 3) (11 + 32 * 100) C ac_11 (by decide) (Or.inl (by decide)) dX9_allow_156 (by decide) (by decide) (by decide) (by first | decide | omega) (by first | decide | omega) (fun qa hqa => ?_)
              refine h_abs (fun m1 em1 => ?_)
              have hLqa := NL.new em1
              have hwqa := hT.fresh hqa
              have hT := hT.newT hqa em1
              have hM := hT.1
              refine h_dup C dX9_allow_158 rfl ?_
              refine h_iconst (v := 0) C dX9_allow_159 (by decide) ?_
              refine h_iload_w C dX9_allow_160 rfl ?_
              refine h_iast C dX9_allow_162 hLqa.k (inb hLqa.2.1 (vp_in_nI (n := 0) (by decide) (by decide))) ?_
              refine h_abs (fun m2 em2 => ?_)
              rw [show Int32.toNatClampNeg 0 = 0 from rfl] at em2
              have hT := hT.tmp hLqa hwqa em2
              have hM := hT.1
              have hLqa := hLqa.push em2 rfl
              refine h_dup C dX9_allow_163 rfl ?_
              refine h_iconst (v := 1) C dX9_allow_164 (by decide) ?_
              refine h_iload_w C dX9_allow_165 rfl ?_
              refine h_iast C dX9_allow_167 hLqa.k (inb hLqa.2.1 (vp_in_nI (n := 1) (by decide) (by decide))) ?_
              refine h_abs (fun m3 em3 => ?_)
              rw [show Int32.toNatClampNeg 1 = 1 from rfl] at em3
              have hT := hT.tmp hLqa hwqa em3
              have hM := hT.1
              have hLqa := hLqa.push em3 rfl
              refine h_dup C dX9_allow_168 rfl ?_
              refine h_iconst (v := 2) C dX9_allow_169 (by decide) ?_
              refine h_iload_g C dX9_allow_170 rfl rfl ?_
              refine h_iast C dX9_allow_171 hLqa.k (inb hLqa.2.1 (vp_in_nI (n := 2) (by decide) (by decide))) ?_
              refine h_abs (fun m4 em4 => ?_)
              rw [show Int32.toNatClampNeg 2 = 2 from rfl] at em4
              have hT := hT.tmp hLqa hwqa em4
              have hM := hT.1
              have hLqa := hLqa.push em4 rfl
              refine h_skd qa KIM (by rw [hLqa.1]; decide) (by rw [hLqa.1]; decide) ?_
              have hT := hT.mark hLqa.1 (k := KIM) ⟨by decide, by decide⟩ hwqa
              have hR := hLqa.row (k := KIM) (r := mkR (TOPB p b) b y) rfl (fun i hi => by
                have h9 : i = 0 ∨ i = 1 ∨ i = 2 := by have : i < 3 := hi; omega
                rcases h9 with h9 | h9 | h9
                · subst h9; rfl
                · subst h9; rfl
                · subst h9; rfl)
              have hM := hT.1
              refine h_aast C dX9_allow_172 (by rw [hM.k17 (by have : Int32.toNatClampNeg x < 3 := hx.lt; omega), kd_skd]; decide) (inb (hM.ln8 (by have : Int32.toNatClampNeg x < 3 := hx.lt; omega)) (vp_in_nI hi8 (by decide))) ?_
              refine h_abs (fun m9 e9 => ?_)
              rw [show (nI i).toNatClampNeg = i from cl_of (by omega)] at e9
              have hT := hT.ser (j := 51 + cl x) (by have := hx.lt; omega) (Or.inr trivial) e9 (hM.pRt hx.lt e9 hR (rs' := (S.rt (cl x)).set i (mkR (TOPB p b) b y)) PutAt.set (by rw [List.length_set]; exact hr8))
              have hT := hT.lxR0 (List.length_set).symm
              rw [← hA] at hT
              have hM := hT.1
              refine h_al_g C dX9_allow_173 rfl rfl rfv_r ?_
              refine gs_X9_17 C dX9_allow_174 hM.kX (hM.fA (i := 2) (by decide)) ?_
              refine h_iload_g C dX9_allow_177 rfl rfl ?_
              refine h_iald C dX9_allow_178 (hM.k11 (by decide)) (inb (hM.ln3 (by decide)) (vp_isE hx.1 hx.2 (by decide))) (atI rfl (hM.a2 hx.lt)) ?_
              refine h_iret C E dX9_allow_179 (by decide) (by decide) ?_
              exact ⟨_, rfl, Or.inl ⟨hcode, (show nI (u1 S.rt (cl x) _ (cl x)).length = _ from by rw [u1_eq]), hT⟩⟩
          · refine h_al_g C dX9_allow_84 rfl rfl rfv_r ?_
            refine gs_X9_17 C dX9_allow_85 hM.kX (hM.fA (i := 2) (by decide)) ?_
            refine h_iload_g C dX9_allow_88 rfl rfl ?_
            refine h_iald C dX9_allow_89 (hM.k11 (by decide)) (inb (hM.ln3 (by decide)) (vp_isE hx.1 hx.2 (by decide))) (atI rfl (hM.a2 hx.lt)) ?_
            refine h_bipush (v := 8) C dX9_allow_90 (by decide) ?_
            refine h_icmp_ne (tgt := 98) C dX9_allow_92 (by decide) (fun cN => ?_) (fun cN => ?_)
            · have hlt : (S.rt (cl x)).length < 8 := by
                have h9 : (S.rt (cl x)).length ≠ 8 := fun z => cN (by show nI (S.rt (cl x)).length = 8; rw [z]; rfl)
                omega
              refine h_al_g C dX9_allow_98 rfl rfl rfv_r ?_
              refine h_iload_w C dX9_allow_99 rfl ?_
              refine h_callV1 (ci := 9) C (k_X9_isWrong Z.l Z.G (Q 0) _ hM.kX (0)) cw_X9_215 im_X9_isWrong sl_X9_isWrong rfl (by decide) hM.kX dX9_allow_101 (by first | decide | exact Nat.le_of_ble_eq_true rfl) (by decide) (by decide) (by decide) (by decide) (kB (fun μ10 hp10 => ?_) (fun μ10 hp10 => ?_)) kN
              · obtain ⟨hc, e9⟩ := hp10
                exact absurd rfl hc
              · obtain ⟨hc, e9⟩ := hp10
                have hT := hT.sfi (Or.inr trivial) e9 (hT.1.w290 e9)
                have hM := hT.1
                have hcode : allC S x y p b = 0 := (if_pos hxy).trans ((if_pos cE).trans ((if_pos hB1).trans ((if_pos hB2).trans (if_neg (fun z => by have := z.2; omega)))))
                refine h_if_eq (tgt := 109) C dX9_allow_104 (by decide) (fun c13 => ?_) (fun c13 => absurd (by decide) c13)
                refine h_iload_g C dX9_allow_109 rfl rfl ?_
                refine h_iload_w C dX9_allow_110 rfl ?_
                refine h_callS2 C (k_X9_counting Z.l Z.G _ _ _) cw_X9_227 st_X9_counting dX9_allow_112 (by first | decide | exact Nat.le_of_ble_eq_true rfl) (by decide) (by decide) (by decide) (by decide) (kI fun r11 μ11 hp11 => ?_) kN
                obtain ⟨rfl, rfl⟩ := hp11
                rw [CNT_I hB1 hB2]
                refine h_ist_7 C dX9_allow_115 ct_i ?_
                refine h_al_g C dX9_allow_117 rfl rfl rfv_r ?_
                refine h_iload_g C dX9_allow_118 rfl rfl ?_
                refine h_iload_w C dX9_allow_119 rfl ?_
                refine h_iload_w C dX9_allow_121 rfl ?_
                refine h_callV3 (ci := 9) C (k_X9_place Z.l Z.G Q S _ _ hM _ hx.lt _ hx.nI _ _) cw_X9_230 im_X9_place sl_X9_place rfl (by decide) hM.kX dX9_allow_123 (by first | decide | exact Nat.le_of_ble_eq_true rfl) (by decide) (by decide) (by decide) (by decide) (kI fun r12 μ12 hp12 => ?_) kN
                obtain ⟨rfl, rfl⟩ := hp12
                refine h_ist_8 C dX9_allow_126 ct_i ?_
                refine h_iload_w C dX9_allow_128 rfl ?_
                refine h_iconst (v := (-1)) C dX9_allow_130 (by decide) ?_
                refine h_icmp_ne (tgt := 147) C dX9_allow_131 (by decide) (fun c14 => absurd c14 ((fun z => z cP))) (fun c14 => ?_)
                refine h_al_g C dX9_allow_134 rfl rfl rfv_r ?_
                refine gs_X9_17 C dX9_allow_135 hM.kX (hM.fA (i := 2) (by decide)) ?_
                refine h_iload_g C dX9_allow_138 rfl rfl ?_
                refine h_dup2 C dX9_allow_139 rfl rfl ?_
                refine h_iald C dX9_allow_140 (hM.k11 (by decide)) (inb (hM.ln3 (by decide)) (vp_isE hx.1 hx.2 (by decide))) (atI rfl (hM.a2 hx.lt)) ?_
                refine h_dup_x2 C dX9_allow_141 rfl rfl rfl ?_
                refine h_iconst (v := 1) C dX9_allow_142 (by decide) ?_
                refine h_iadd C dX9_allow_143 ?_
                refine h_iast C dX9_allow_144 (hM.k11 (by decide)) (inb (hM.ln3 (by decide)) (vp_isE hx.1 hx.2 (by decide))) ?_
                refine h_abs (fun m5 em5 => ?_)
                rw [show (nI (((LXo S t).sTh 0).rl (cl x)) + 1 : Int32) = nI ((S.rt (cl x)).length + 1) from nI_1 _] at em5
                have hT := hT.sei (j := 2) (by omega) (Or.inr trivial) em5 (hT.1.wRl hx.lt _ em5)
                have hM := hT.1
                refine h_ist_8 C dX9_allow_145 ct_i ?_
                have hA : ALR (S.rt (cl x)) (TOPB p b) b y = S.rt (cl x) ++ [mkR (TOPB p b) b y] := by
                  unfold ALR
                  rw [if_pos cP]
                rw [show (nI (((LXo S t).sTh 0).rl (cl x)) : Int32) = nI (S.rt (cl x)).length from rfl]
                refine h_al_g C dX9_allow_147 rfl rfl rfv_r ?_
                refine gs_X9_32 C dX9_allow_148 hM.kX (hM.fA (i := 6) (by decide)) ?_
                refine h_iload_g C dX9_allow_151 rfl rfl ?_
                refine h_aald (r := some _) C dX9_allow_152 (hM.kr (by decide)) (inb (hM.ln3 (by decide)) (vp_isE hx.1 hx.2 (by decide))) (atI rfl (hM.ro hx.lt)) ?_
                refine h_iload_w C dX9_allow_153 rfl ?_
                refine h_iconst (v := 3) C dX9_allow_155 (by decide) ?_
                refine h_newarr (atype := .int) (N := 3) (11 + 32 * 100) C ac_11 (by decide) (Or.inl (by decide)) dX9_allow_156 (by decide) (by decide) (by decide) (by first | decide | omega) (by first | decide | omega) (fun qa hqa => ?_)
                refine h_abs (fun m6 em6 => ?_)
                have hLqa := NL.new em6
                have hwqa := hT.fresh hqa
                have hT := hT.newT hqa em6
                have hM := hT.1
                refine h_dup C dX9_allow_158 rfl ?_
                refine h_iconst (v := 0) C dX9_allow_159 (by decide) ?_
                refine h_iload_w C dX9_allow_160 rfl ?_
                refine h_iast C dX9_allow_162 hLqa.k (inb hLqa.2.1 (vp_in_nI (n := 0) (by decide) (by decide))) ?_
                refine h_abs (fun m7 em7 => ?_)
                rw [show Int32.toNatClampNeg 0 = 0 from rfl] at em7
                have hT := hT.tmp hLqa hwqa em7
                have hM := hT.1
                have hLqa := hLqa.push em7 rfl
                refine h_dup C dX9_allow_163 rfl ?_
                refine h_iconst (v := 1) C dX9_allow_164 (by decide) ?_
                refine h_iload_w C dX9_allow_165 rfl ?_
                refine h_iast C dX9_allow_167 hLqa.k (inb hLqa.2.1 (vp_in_nI (n := 1) (by decide) (by decide))) ?_
                refine h_abs (fun m8 em8 => ?_)
                rw [show Int32.toNatClampNeg 1 = 1 from rfl] at em8
                have hT := hT.tmp hLqa hwqa em8
                have hM := hT.1
                have hLqa := hLqa.push em8 rfl
                refine h_dup C dX9_allow_168 rfl ?_
                refine h_iconst (v := 2) C dX9_allow_169 (by decide) ?_
                refine h_iload_g C dX9_allow_170 rfl rfl ?_
                refine h_iast C dX9_allow_171 hLqa.k (inb hLqa.2.1 (vp_in_nI (n := 2) (by decide) (by decide))) ?_
                refine h_abs (fun m9 em9 => ?_)
                rw [show Int32.toNatClampNeg 2 = 2 from rfl] at em9
                have hT := hT.tmp hLqa hwqa em9
                have hM := hT.1
                have hLqa := hLqa.push em9 rfl
                refine h_skd qa KIM (by rw [hLqa.1]; decide) (by rw [hLqa.1]; decide) ?_
                have hT := hT.mark hLqa.1 (k := KIM) ⟨by decide, by decide⟩ hwqa
                have hR := hLqa.row (k := KIM) (r := mkR (TOPB p b) b y) rfl (fun i hi => by
                  have h9 : i = 0 ∨ i = 1 ∨ i = 2 := by have : i < 3 := hi; omega
                  rcases h9 with h9 | h9 | h9
                  · subst h9; rfl
                  · subst h9; rfl
                  · subst h9; rfl)
                have hM := hT.1
                refine h_aast C dX9_allow_172 (by rw [hM.k17 (by have : Int32.toNatClampNeg x < 3 := hx.lt; omega), kd_skd]; decide) (inb (hM.ln8 (by have : Int32.toNatClampNeg x < 3 := hx.lt; omega)) (vp_in_nI hlt (by decide))) ?_
                refine h_abs (fun m9 e9 => ?_)
                rw [show (nI (S.rt (cl x)).length).toNatClampNeg = (S.rt (cl x)).length from cl_of (by omega)] at e9
                have hT := hT.ser (j := 51 + cl x) (by have := hx.lt; omega) (Or.inr trivial) e9 (hM.pRt hx.lt e9 hR (rs' := S.rt (cl x) ++ [mkR (TOPB p b) b y]) PutAt.app (by rw [List.length_append]; show _ + 1 ≤ 8; omega))
                have hT := hT.lxR (List.length_append (as := S.rt (cl x)) (bs := [_])).symm
                rw [← hA] at hT
                have hM := hT.1
                refine h_al_g C dX9_allow_173 rfl rfl rfv_r ?_
                refine gs_X9_17 C dX9_allow_174 hM.kX (hM.fA (i := 2) (by decide)) ?_
                refine h_iload_g C dX9_allow_177 rfl rfl ?_
                refine h_iald C dX9_allow_178 (hM.k11 (by decide)) (inb (hM.ln3 (by decide)) (vp_isE hx.1 hx.2 (by decide))) (atI rfl (hM.a2 hx.lt)) ?_
                refine h_iret C E dX9_allow_179 (by decide) (by decide) ?_
                exact ⟨_, rfl, Or.inl ⟨hcode, (show nI (u1 S.rt (cl x) _ (cl x)).length = _ from by rw [u1_eq]), hT⟩⟩
            · have hlt : (S.rt (cl x)).length = 8 := by
                have h9 := congrArg cl cN
                have h8 : cl (nI (S.rt (cl x)).length) = cl 8 := h9
                rw [cl_of (by omega)] at h8
                exact h8
              refine h_iconst (v := 3) C dX9_allow_95 (by decide) ?_
              refine h_ist_6 C dX9_allow_96 ct_i ?_
              refine h_al_g C dX9_allow_98 rfl rfl rfv_r ?_
              refine h_iload_w C dX9_allow_99 rfl ?_
              refine h_callV1 (ci := 9) C (k_X9_isWrong Z.l Z.G (Q 0) _ hM.kX (3)) cw_X9_215 im_X9_isWrong sl_X9_isWrong rfl (by decide) hM.kX dX9_allow_101 (by first | decide | exact Nat.le_of_ble_eq_true rfl) (by decide) (by decide) (by decide) (by decide) (kB (fun μ13 hp13 => ?_) (fun μ13 hp13 => ?_)) kN
              · obtain ⟨hc, e9⟩ := hp13
                have hT := hT.sfi (Or.inr trivial) e9 (hT.1.w290 e9)
                have hM := hT.1
                refine h_if_eq (tgt := 109) C dX9_allow_104 (by decide) (fun c15 => absurd c15 (by decide)) (fun c15 => ?_)
                refine h_iconst (v := 0) C dX9_allow_107 (by decide) ?_
                refine h_iret C E dX9_allow_108 (by decide) (by decide) ?_
                exact ⟨_, rfl, Or.inr ⟨by rw [show allC S x y p b = 3 from (if_pos hxy).trans ((if_pos cE).trans ((if_pos hB1).trans ((if_pos hB2).trans (if_pos ⟨cP, by omega⟩))))]; decide, by rw [show allC S x y p b = 3 from (if_pos hxy).trans ((if_pos cE).trans ((if_pos hB1).trans ((if_pos hB2).trans (if_pos ⟨cP, by omega⟩))))]; exact hT⟩⟩
              · obtain ⟨hc, e9⟩ := hp13
                exact absurd hc (by decide)
      · have hxy := pairC_e1 cQ
        refine h_iconst (v := 1) C dX9_allow_41 (by decide) ?_
        refine h_goto (tgt := 60) C dX9_allow_42 (by decide) ?_
        refine h_ist_6 C dX9_allow_60 ct_i ?_
        refine h_iload_w C dX9_allow_62 rfl ?_
        refine h_if_ne (tgt := 98) C dX9_allow_64 (by decide) (fun c16 => ?_) (fun c16 => absurd c16 (by decide))
        refine h_al_g C dX9_allow_98 rfl rfl rfv_r ?_
        refine h_iload_w C dX9_allow_99 rfl ?_
        refine h_callV1 (ci := 9) C (k_X9_isWrong Z.l Z.G (Q 0) _ hM.kX (1)) cw_X9_215 im_X9_isWrong sl_X9_isWrong rfl (by decide) hM.kX dX9_allow_101 (by first | decide | exact Nat.le_of_ble_eq_true rfl) (by decide) (by decide) (by decide) (by decide) (kB (fun μ14 hp14 => ?_) (fun μ14 hp14 => ?_)) kN
        · obtain ⟨hc, e9⟩ := hp14
          have hT := hT.sfi (Or.inr trivial) e9 (hT.1.w290 e9)
          have hM := hT.1
          refine h_if_eq (tgt := 109) C dX9_allow_104 (by decide) (fun c17 => absurd c17 (by decide)) (fun c17 => ?_)
          refine h_iconst (v := 0) C dX9_allow_107 (by decide) ?_
          refine h_iret C E dX9_allow_108 (by decide) (by decide) ?_
          exact ⟨_, rfl, Or.inr ⟨by rw [show allC S x y p b = 1 from if_neg hxy]; decide, by rw [show allC S x y p b = 1 from if_neg hxy]; exact hT⟩⟩
        · obtain ⟨hc, e9⟩ := hp14
          exact absurd hc (by decide)
    · obtain ⟨rfl, hBt⟩ := hp2
      rw [btw_i] at hBt
      have hB2 : ¬ inR b 0 8 := hBt
      refine h_if_eq (tgt := 29) C dX9_allow_22 (by decide) (fun c18 => ?_) (fun c18 => absurd (by decide) c18)
      refine h_iconst (v := 0) C dX9_allow_29 (by decide) ?_
      refine h_ist_5 C dX9_allow_30 ct_i ?_
      refine h_iload_g C dX9_allow_32 rfl rfl ?_
      refine h_iload_g C dX9_allow_33 rfl rfl ?_
      refine h_callS2 C (k_X9_pair Z.l Z.G _ _ _) cw_X9_224 st_X9_pair dX9_allow_34 (by first | decide | exact Nat.le_of_ble_eq_true rfl) (by decide) (by decide) (by decide) (by decide) (kI fun r15 μ15 hp15 => ?_) kN
      obtain ⟨rfl, rfl⟩ := hp15
      refine h_iconst (v := 1) C dX9_allow_37 (by decide) ?_
      refine h_icmp_ne (tgt := 45) C dX9_allow_38 (by decide) (fun cQ => ?_) (fun cQ => ?_)
      · have hxy := pairC_n1 cQ
        obtain ⟨hx, hy⟩ := hxy
        have hxy : isE x ∧ isE y := ⟨hx, hy⟩
        refine h_iload_g C dX9_allow_45 rfl rfl ?_
        refine h_iload_g C dX9_allow_46 rfl rfl ?_
        refine h_icmp_eq (tgt := 55) C dX9_allow_47 (by decide) (fun cE => ?_) (fun cE => ?_)
        · refine h_iconst (v := 2) C dX9_allow_55 (by decide) ?_
          refine h_goto (tgt := 60) C dX9_allow_56 (by decide) ?_
          refine h_ist_6 C dX9_allow_60 ct_i ?_
          refine h_iload_w C dX9_allow_62 rfl ?_
          refine h_if_ne (tgt := 98) C dX9_allow_64 (by decide) (fun c21 => ?_) (fun c21 => absurd c21 (by decide))
          refine h_al_g C dX9_allow_98 rfl rfl rfv_r ?_
          refine h_iload_w C dX9_allow_99 rfl ?_
          refine h_callV1 (ci := 9) C (k_X9_isWrong Z.l Z.G (Q 0) _ hM.kX (2)) cw_X9_215 im_X9_isWrong sl_X9_isWrong rfl (by decide) hM.kX dX9_allow_101 (by first | decide | exact Nat.le_of_ble_eq_true rfl) (by decide) (by decide) (by decide) (by decide) (kB (fun μ16 hp16 => ?_) (fun μ16 hp16 => ?_)) kN
          · obtain ⟨hc, e9⟩ := hp16
            have hT := hT.sfi (Or.inr trivial) e9 (hT.1.w290 e9)
            have hM := hT.1
            refine h_if_eq (tgt := 109) C dX9_allow_104 (by decide) (fun c22 => absurd c22 (by decide)) (fun c22 => ?_)
            refine h_iconst (v := 0) C dX9_allow_107 (by decide) ?_
            refine h_iret C E dX9_allow_108 (by decide) (by decide) ?_
            exact ⟨_, rfl, Or.inr ⟨by rw [show allC S x y p b = 2 from (if_pos hxy).trans (if_neg (fun z => z cE))]; decide, by rw [show allC S x y p b = 2 from (if_pos hxy).trans (if_neg (fun z => z cE))]; exact hT⟩⟩
          · obtain ⟨hc, e9⟩ := hp16
            exact absurd hc (by decide)
        · refine h_iload_w C dX9_allow_50 rfl ?_
          refine h_if_ne (tgt := 59) C dX9_allow_52 (by decide) (fun c23 => absurd c23 (by decide)) (fun c23 => ?_)
          refine h_iconst (v := 2) C dX9_allow_55 (by decide) ?_
          refine h_goto (tgt := 60) C dX9_allow_56 (by decide) ?_
          refine h_ist_6 C dX9_allow_60 ct_i ?_
          refine h_iload_w C dX9_allow_62 rfl ?_
          refine h_if_ne (tgt := 98) C dX9_allow_64 (by decide) (fun c24 => ?_) (fun c24 => absurd c24 (by decide))
          refine h_al_g C dX9_allow_98 rfl rfl rfv_r ?_
          refine h_iload_w C dX9_allow_99 rfl ?_
          refine h_callV1 (ci := 9) C (k_X9_isWrong Z.l Z.G (Q 0) _ hM.kX (2)) cw_X9_215 im_X9_isWrong sl_X9_isWrong rfl (by decide) hM.kX dX9_allow_101 (by first | decide | exact Nat.le_of_ble_eq_true rfl) (by decide) (by decide) (by decide) (by decide) (kB (fun μ17 hp17 => ?_) (fun μ17 hp17 => ?_)) kN
          · obtain ⟨hc, e9⟩ := hp17
            have hT := hT.sfi (Or.inr trivial) e9 (hT.1.w290 e9)
            have hM := hT.1
            refine h_if_eq (tgt := 109) C dX9_allow_104 (by decide) (fun c25 => absurd c25 (by decide)) (fun c25 => ?_)
            refine h_iconst (v := 0) C dX9_allow_107 (by decide) ?_
            refine h_iret C E dX9_allow_108 (by decide) (by decide) ?_
            exact ⟨_, rfl, Or.inr ⟨by rw [show allC S x y p b = 2 from (if_pos hxy).trans ((if_pos cE).trans ((if_pos hB1).trans (if_neg hB2)))]; decide, by rw [show allC S x y p b = 2 from (if_pos hxy).trans ((if_pos cE).trans ((if_pos hB1).trans (if_neg hB2)))]; exact hT⟩⟩
          · obtain ⟨hc, e9⟩ := hp17
            exact absurd hc (by decide)
      · have hxy := pairC_e1 cQ
        refine h_iconst (v := 1) C dX9_allow_41 (by decide) ?_
        refine h_goto (tgt := 60) C dX9_allow_42 (by decide) ?_
        refine h_ist_6 C dX9_allow_60 ct_i ?_
        refine h_iload_w C dX9_allow_62 rfl ?_
        refine h_if_ne (tgt := 98) C dX9_allow_64 (by decide) (fun c26 => ?_) (fun c26 => absurd c26 (by decide))
        refine h_al_g C dX9_allow_98 rfl rfl rfv_r ?_
        refine h_iload_w C dX9_allow_99 rfl ?_
        refine h_callV1 (ci := 9) C (k_X9_isWrong Z.l Z.G (Q 0) _ hM.kX (1)) cw_X9_215 im_X9_isWrong sl_X9_isWrong rfl (by decide) hM.kX dX9_allow_101 (by first | decide | exact Nat.le_of_ble_eq_true rfl) (by decide) (by decide) (by decide) (by decide) (kB (fun μ18 hp18 => ?_) (fun μ18 hp18 => ?_)) kN
        · obtain ⟨hc, e9⟩ := hp18
          have hT := hT.sfi (Or.inr trivial) e9 (hT.1.w290 e9)
          have hM := hT.1
          refine h_if_eq (tgt := 109) C dX9_allow_104 (by decide) (fun c27 => absurd c27 (by decide)) (fun c27 => ?_)
          refine h_iconst (v := 0) C dX9_allow_107 (by decide) ?_
          refine h_iret C E dX9_allow_108 (by decide) (by decide) ?_
          exact ⟨_, rfl, Or.inr ⟨by rw [show allC S x y p b = 1 from if_neg hxy]; decide, by rw [show allC S x y p b = 1 from if_neg hxy]; exact hT⟩⟩
        · obtain ⟨hc, e9⟩ := hp18
          exact absurd hc (by decide)
  · obtain ⟨rfl, hBt⟩ := hp1
    rw [btw_i] at hBt
    have hB1 : ¬ inR p 0 255 := hBt
    refine h_if_eq (tgt := 29) C dX9_allow_9 (by decide) (fun c28 => ?_) (fun c28 => absurd (by decide) c28)
    refine h_iconst (v := 0) C dX9_allow_29 (by decide) ?_
    refine h_ist_5 C dX9_allow_30 ct_i ?_
    refine h_iload_g C dX9_allow_32 rfl rfl ?_
    refine h_iload_g C dX9_allow_33 rfl rfl ?_
    refine h_callS2 C (k_X9_pair Z.l Z.G _ _ _) cw_X9_224 st_X9_pair dX9_allow_34 (by first | decide | exact Nat.le_of_ble_eq_true rfl) (by decide) (by decide) (by decide) (by decide) (kI fun r19 μ19 hp19 => ?_) kN
    obtain ⟨rfl, rfl⟩ := hp19
    refine h_iconst (v := 1) C dX9_allow_37 (by decide) ?_
    refine h_icmp_ne (tgt := 45) C dX9_allow_38 (by decide) (fun cQ => ?_) (fun cQ => ?_)
    · have hxy := pairC_n1 cQ
      obtain ⟨hx, hy⟩ := hxy
      have hxy : isE x ∧ isE y := ⟨hx, hy⟩
      refine h_iload_g C dX9_allow_45 rfl rfl ?_
      refine h_iload_g C dX9_allow_46 rfl rfl ?_
      refine h_icmp_eq (tgt := 55) C dX9_allow_47 (by decide) (fun cE => ?_) (fun cE => ?_)
      · refine h_iconst (v := 2) C dX9_allow_55 (by decide) ?_
        refine h_goto (tgt := 60) C dX9_allow_56 (by decide) ?_
        refine h_ist_6 C dX9_allow_60 ct_i ?_
        refine h_iload_w C dX9_allow_62 rfl ?_
        refine h_if_ne (tgt := 98) C dX9_allow_64 (by decide) (fun c31 => ?_) (fun c31 => absurd c31 (by decide))
        refine h_al_g C dX9_allow_98 rfl rfl rfv_r ?_
        refine h_iload_w C dX9_allow_99 rfl ?_
        refine h_callV1 (ci := 9) C (k_X9_isWrong Z.l Z.G (Q 0) _ hM.kX (2)) cw_X9_215 im_X9_isWrong sl_X9_isWrong rfl (by decide) hM.kX dX9_allow_101 (by first | decide | exact Nat.le_of_ble_eq_true rfl) (by decide) (by decide) (by decide) (by decide) (kB (fun μ20 hp20 => ?_) (fun μ20 hp20 => ?_)) kN
        · obtain ⟨hc, e9⟩ := hp20
          have hT := hT.sfi (Or.inr trivial) e9 (hT.1.w290 e9)
          have hM := hT.1
          refine h_if_eq (tgt := 109) C dX9_allow_104 (by decide) (fun c32 => absurd c32 (by decide)) (fun c32 => ?_)
          refine h_iconst (v := 0) C dX9_allow_107 (by decide) ?_
          refine h_iret C E dX9_allow_108 (by decide) (by decide) ?_
          exact ⟨_, rfl, Or.inr ⟨by rw [show allC S x y p b = 2 from (if_pos hxy).trans (if_neg (fun z => z cE))]; decide, by rw [show allC S x y p b = 2 from (if_pos hxy).trans (if_neg (fun z => z cE))]; exact hT⟩⟩
        · obtain ⟨hc, e9⟩ := hp20
          exact absurd hc (by decide)
      · refine h_iload_w C dX9_allow_50 rfl ?_
        refine h_if_ne (tgt := 59) C dX9_allow_52 (by decide) (fun c33 => absurd c33 (by decide)) (fun c33 => ?_)
        refine h_iconst (v := 2) C dX9_allow_55 (by decide) ?_
        refine h_goto (tgt := 60) C dX9_allow_56 (by decide) ?_
        refine h_ist_6 C dX9_allow_60 ct_i ?_
        refine h_iload_w C dX9_allow_62 rfl ?_
        refine h_if_ne (tgt := 98) C dX9_allow_64 (by decide) (fun c34 => ?_) (fun c34 => absurd c34 (by decide))
        refine h_al_g C dX9_allow_98 rfl rfl rfv_r ?_
        refine h_iload_w C dX9_allow_99 rfl ?_
        refine h_callV1 (ci := 9) C (k_X9_isWrong Z.l Z.G (Q 0) _ hM.kX (2)) cw_X9_215 im_X9_isWrong sl_X9_isWrong rfl (by decide) hM.kX dX9_allow_101 (by first | decide | exact Nat.le_of_ble_eq_true rfl) (by decide) (by decide) (by decide) (by decide) (kB (fun μ21 hp21 => ?_) (fun μ21 hp21 => ?_)) kN
        · obtain ⟨hc, e9⟩ := hp21
          have hT := hT.sfi (Or.inr trivial) e9 (hT.1.w290 e9)
          have hM := hT.1
          refine h_if_eq (tgt := 109) C dX9_allow_104 (by decide) (fun c35 => absurd c35 (by decide)) (fun c35 => ?_)
          refine h_iconst (v := 0) C dX9_allow_107 (by decide) ?_
          refine h_iret C E dX9_allow_108 (by decide) (by decide) ?_
          exact ⟨_, rfl, Or.inr ⟨by rw [show allC S x y p b = 2 from (if_pos hxy).trans ((if_pos cE).trans (if_neg hB1))]; decide, by rw [show allC S x y p b = 2 from (if_pos hxy).trans ((if_pos cE).trans (if_neg hB1))]; exact hT⟩⟩
        · obtain ⟨hc, e9⟩ := hp21
          exact absurd hc (by decide)
    · have hxy := pairC_e1 cQ
      refine h_iconst (v := 1) C dX9_allow_41 (by decide) ?_
      refine h_goto (tgt := 60) C dX9_allow_42 (by decide) ?_
      refine h_ist_6 C dX9_allow_60 ct_i ?_
      refine h_iload_w C dX9_allow_62 rfl ?_
      refine h_if_ne (tgt := 98) C dX9_allow_64 (by decide) (fun c36 => ?_) (fun c36 => absurd c36 (by decide))
      refine h_al_g C dX9_allow_98 rfl rfl rfv_r ?_
      refine h_iload_w C dX9_allow_99 rfl ?_
      refine h_callV1 (ci := 9) C (k_X9_isWrong Z.l Z.G (Q 0) _ hM.kX (1)) cw_X9_215 im_X9_isWrong sl_X9_isWrong rfl (by decide) hM.kX dX9_allow_101 (by first | decide | exact Nat.le_of_ble_eq_true rfl) (by decide) (by decide) (by decide) (by decide) (kB (fun μ22 hp22 => ?_) (fun μ22 hp22 => ?_)) kN
      · obtain ⟨hc, e9⟩ := hp22
        have hT := hT.sfi (Or.inr trivial) e9 (hT.1.w290 e9)
        have hM := hT.1
        refine h_if_eq (tgt := 109) C dX9_allow_104 (by decide) (fun c37 => absurd c37 (by decide)) (fun c37 => ?_)
        refine h_iconst (v := 0) C dX9_allow_107 (by decide) ?_
        refine h_iret C E dX9_allow_108 (by decide) (by decide) ?_
        exact ⟨_, rfl, Or.inr ⟨by rw [show allC S x y p b = 1 from if_neg hxy]; decide, by rw [show allC S x y p b = 1 from if_neg hxy]; exact hT⟩⟩
      · obtain ⟨hc, e9⟩ := hp22
        exact absurd hc (by decide)

set_option maxRecDepth 100000 in
set_option maxHeartbeats 1000000 in
theorem lp_X9_forbid {Z : Zx} {Post : Option Value → Mem → Prop} {PostX : String → Mem → Prop} {rf mc ms rl : Nat} {Q : Nat → Nat} {S : Sx} {t : Int32} {μ0 : Mem} {x p b : Int32} (C : Cx Z RX9 cX9_forbid rf mc ms rl) (E : Rt Z mc ms (some .int) Post PostX) (hx : isE x) {L : List Row} {n i0 : Nat} (hLw : S.rt (cl x) = L) (hLn : L.length = n + 1) (h8n : n + 1 ≤ 8) (hi0 : i0 ≤ n) (z4 z5 : Int32)
    (hP : ∀ v m, v = nI n → MTo Q WAll μ0 (S.sRt (cl x) (L.eraseIdx i0)) (LXo (S.sRt (cl x) (L.eraseIdx i0)) t) m → Post (some (.int v)) m) :
    ∀ (m j : Nat) (mz : Mem) (M : List Row), j + m = n → i0 ≤ j → M.length = n + 1 → (∀ i, M[i]? = if i0 ≤ i ∧ i < j then L[i + 1]? else L[i]?) → MTo Q WAll μ0 (S.sRt (cl x) M) (LXo S t) mz → HW Z 0 0 94 [some (.ref (Q 0)), some (.int x), some (.int p), some (.int b), some (.int z4), some (.int z5), some (.int (nI j))] [] mz := by
  subst hLw
  have e1 : (nI ((LXo S t).rl (cl x)) - 1 : Int32) = nI n := by
    show (nI (S.rt (cl x)).length - 1 : Int32) = nI n
    rw [hLn]
    exact pk_sub (b := 1) (by omega)
  intro m
  induction m with
  | zero =>
    intro j mz M hj hij hM1 hM2 hT
    have hM := hT.1
    refine h_iload_w C dX9_forbid_94 rfl ?_
    refine h_al_g C dX9_forbid_96 rfl rfl rfv_r ?_
    refine gs_X9_17 C dX9_forbid_97 hM.kX (hM.fA (i := 2) (by decide)) ?_
    refine h_iload_g C dX9_forbid_100 rfl rfl ?_
    refine h_iald C dX9_forbid_101 (hM.k11 (by decide)) (inb (hM.ln3 (by decide)) (vp_isE hx.1 hx.2 (by decide))) (atI rfl (hM.a2 hx.lt)) ?_
    refine h_iconst (v := 1) C dX9_forbid_102 (by decide) ?_
    refine h_isub C dX9_forbid_103 ?_
    rw [e1]
    refine h_icmp_ge (tgt := 133) C dX9_forbid_104 (by decide) (fun c1 => ?_) (fun c1 => absurd ((nI_le (by omega) (by omega))) c1)
    refine h_al_g C dX9_forbid_133 rfl rfl rfv_r ?_
    refine gs_X9_17 C dX9_forbid_134 hM.kX (hM.fA (i := 2) (by decide)) ?_
    refine h_iload_g C dX9_forbid_137 rfl rfl ?_
    refine h_dup2 C dX9_forbid_138 rfl rfl ?_
    refine h_iald C dX9_forbid_139 (hM.k11 (by decide)) (inb (hM.ln3 (by decide)) (vp_isE hx.1 hx.2 (by decide))) (atI rfl (hM.a2 hx.lt)) ?_
    refine h_iconst (v := 1) C dX9_forbid_140 (by decide) ?_
    refine h_isub C dX9_forbid_141 ?_
    refine h_dup_x2 C dX9_forbid_142 rfl rfl rfl ?_
    refine h_iast C dX9_forbid_143 (hM.k11 (by decide)) (inb (hM.ln3 (by decide)) (vp_isE hx.1 hx.2 (by decide))) ?_
    refine h_abs (fun m1 em1 => ?_)
    rw [e1] at em1
    have hT := hT.sei (j := 2) (by omega) (Or.inr trivial) em1 (hT.1.wRl (n := n) hx.lt (em1))
    have hM := hT.1
    have h7 : MTo Q WAll μ0 (S.sRt (cl x) ((S.rt (cl x)).eraseIdx i0)) ((LXo S t).sRl (cl x) n) m1 := by
      have h8 := hT.1.subRt (e := cl x) (rs' := (S.rt (cl x)).eraseIdx i0) (fun k r hk => by
        rw [show (S.sRt (cl x) M).rt (cl x) = M from u1_eq, hM2]
        have hk9 : k < ((S.rt (cl x)).eraseIdx i0).length := (List.getElem?_eq_some_iff.mp hk).1
        rw [List.length_eraseIdx, if_pos (by omega)] at hk9
        rw [List.getElem?_eraseIdx] at hk
        by_cases c9 : k < i0
        · rw [if_pos c9] at hk
          rw [if_neg (by omega)]
          exact hk
        · rw [if_neg c9] at hk
          rw [if_pos (by omega)]
          exact hk) (by rw [List.length_eraseIdx, if_pos (by omega)]; omega)
      rw [sRt_sRt] at h8
      exact ⟨h8, hT.2⟩
    refine h_iret C E dX9_forbid_144 (Nat.zero_le _) (Nat.zero_le _) ?_
    exact hP _ _ e1 (h7.lxR (by rw [List.length_eraseIdx, if_pos (by omega)]; omega))
  | succ m ih =>
    intro j mz M hj hij hM1 hM2 hT
    have hM := hT.1
    refine h_iload_w C dX9_forbid_94 rfl ?_
    refine h_al_g C dX9_forbid_96 rfl rfl rfv_r ?_
    refine gs_X9_17 C dX9_forbid_97 hM.kX (hM.fA (i := 2) (by decide)) ?_
    refine h_iload_g C dX9_forbid_100 rfl rfl ?_
    refine h_iald C dX9_forbid_101 (hM.k11 (by decide)) (inb (hM.ln3 (by decide)) (vp_isE hx.1 hx.2 (by decide))) (atI rfl (hM.a2 hx.lt)) ?_
    refine h_iconst (v := 1) C dX9_forbid_102 (by decide) ?_
    refine h_isub C dX9_forbid_103 ?_
    rw [e1]
    refine h_icmp_ge (tgt := 133) C dX9_forbid_104 (by decide) (fun c1 => absurd c1 ((nI_ge (by omega) (by omega)))) (fun c1 => ?_)
    refine h_al_g C dX9_forbid_107 rfl rfl rfv_r ?_
    refine gs_X9_32 C dX9_forbid_108 hM.kX (hM.fA (i := 6) (by decide)) ?_
    refine h_iload_g C dX9_forbid_111 rfl rfl ?_
    refine h_aald (r := some _) C dX9_forbid_112 (hM.kr (by decide)) (inb (hM.ln3 (by decide)) (vp_isE hx.1 hx.2 (by decide))) (atI rfl (hM.ro hx.lt)) ?_
    refine h_iload_w C dX9_forbid_113 rfl ?_
    refine h_al_g C dX9_forbid_115 rfl rfl rfv_r ?_
    refine gs_X9_32 C dX9_forbid_116 hM.kX (hM.fA (i := 6) (by decide)) ?_
    refine h_iload_g C dX9_forbid_119 rfl rfl ?_
    refine h_aald (r := some _) C dX9_forbid_120 (hM.kr (by decide)) (inb (hM.ln3 (by decide)) (vp_isE hx.1 hx.2 (by decide))) (atI rfl (hM.ro hx.lt)) ?_
    refine h_iload_w C dX9_forbid_121 rfl ?_
    refine h_iconst (v := 1) C dX9_forbid_123 (by decide) ?_
    refine h_iadd C dX9_forbid_124 ?_
    have hj1 : j + 1 < (S.rt (cl x)).length := by omega
    obtain ⟨y, y1, y2⟩ := (hM.rt hx.lt).2 (j + 1) (S.rt (cl x))[j + 1] (by rw [show (S.sRt (cl x) M).rt (cl x) = M from u1_eq, hM2, if_neg (by omega)]; exact List.getElem?_eq_getElem hj1)
    refine h_aald (r := some _) C dX9_forbid_125 (hM.kr (by have : Int32.toNatClampNeg x < 3 := hx.lt; omega)) (inb (hM.ln8 (by have : Int32.toNatClampNeg x < 3 := hx.lt; omega)) (by rw [nI_1]; exact vp_in_nI (by omega) (by decide))) (atI (show (nI j + 1 : Int32).toNatClampNeg = j + 1 from by rw [nI_1]; exact cl_of (by omega)) y1) ?_
    refine h_aast C dX9_forbid_126 (by rw [hM.k17 (by have : Int32.toNatClampNeg x < 3 := hx.lt; omega), y2.1]; decide) (inb (hM.ln8 (by have : Int32.toNatClampNeg x < 3 := hx.lt; omega)) (vp_in_nI (by omega) (by decide))) ?_
    refine h_abs (fun m9 e9 => ?_)
    rw [show (nI j).toNatClampNeg = j from cl_of (by omega)] at e9
    have hT := hT.ser (j := 51 + cl x) (by have := hx.lt; omega) (Or.inr trivial) e9 (hM.pRt hx.lt e9 y2 (rs' := M.set j ((S.rt (cl x))[j + 1])) (by rw [show (S.sRt (cl x) M).rt (cl x) = M from u1_eq]; exact PutAt.set) (by rw [List.length_set]; omega))
    rw [sRt_sRt] at hT
    refine h_iinc_6 (q := 1) C dX9_forbid_127 (by decide) ct_i ?_
    refine h_goto (tgt := 94) C dX9_forbid_130 (by decide) ?_
    rw [nI_1]
    exact ih (j + 1) m9 (M.set j ((S.rt (cl x))[j + 1])) (by omega) (by omega) (by rw [List.length_set]; exact hM1) (fun i => by
      rw [List.getElem?_set]
      by_cases c9 : j = i
      · subst c9
        rw [if_pos rfl, if_pos (by omega), if_pos (by omega)]
        exact (List.getElem?_eq_getElem hj1).symm
      · rw [if_neg c9, hM2]
        by_cases c8 : i0 ≤ i ∧ i < j
        · rw [if_pos c8, if_pos (by omega)]
        · rw [if_neg c8, if_neg (by omega)]) hT

set_option maxRecDepth 100000 in
set_option maxHeartbeats 1000000 in
theorem k_X9_forbid (l : Launch) (G : Gx) (Q : Nat → Nat) (S : Sx) (t : Int32) (μ : Mem) (hM : MRq Q S (LXo S t) μ) (x p b : Int32) : Kon l yX9_forbid cX9_forbid 7 (some .int) 2 0 0 45 G [.ref (Q 0), .int x, .int p, .int b] μ (pI fun v μ' => (forC S x p b = 0 ∧ v = nI (FOR (S.rt (cl x)) (TOPB p b) b).length ∧ MTo Q WAll μ (S.sRt (cl x) (FOR (S.rt (cl x)) (TOPB p b) b)) (LXo (S.sRt (cl x) (FOR (S.rt (cl x)) (TOPB p b) b)) 0) μ') ∨ (¬ forC S x p b = 0 ∧ MTo Q WAll μ S (LXo S (forC S x p b)) μ')) noX := by
  refine Kon.ofG (by decide +kernel) (Nat.le_of_ble_eq_true rfl) (Nat.le_of_ble_eq_true rfl) (fun Z hZG C E NT MT => ?_)
  subst hZG
  have C : Cx Z RX9 cX9_forbid 2 0 0 45 := C
  show HW Z 0 0 0 [some (.ref (Q 0)), some (.int x), some (.int p), some (.int b), none, none, none] [] μ
  have hT : MTo Q WAll μ S (LXo S t) μ := MTo.rf hM
  have h60_ := hM.nt.1
  refine h_iload_g C dX9_forbid_0 rfl rfl ?_
  refine h_callS1 C (k_X9_isEnd Z.l Z.G _ _) cw_X9_98 st_X9_isEnd dX9_forbid_1 (by first | decide | exact Nat.le_of_ble_eq_true rfl) (by decide) (by decide) (by decide) (by decide) (kB (fun μ1 hp1 => ?_) (fun μ1 hp1 => ?_)) kN
  · obtain ⟨rfl, hx⟩ := hp1
    refine h_if_ne (tgt := 11) C dX9_forbid_4 (by decide) (fun c1 => ?_) (fun c1 => absurd c1 (by decide))
    refine h_iload_g C dX9_forbid_11 rfl rfl ?_
    refine h_i2l C dX9_forbid_12 ?_
    refine h_lconst (v := 0) C dX9_forbid_13 (by decide) ?_
    refine h_ldc2 C kc_X9_220 dX9_forbid_14 ?_
    refine h_callS3 C (k_X9_isBetween Z.l Z.G _ _ _ _) cw_X9_91 st_X9_isBetween dX9_forbid_17 (by first | decide | exact Nat.le_of_ble_eq_true rfl) (by decide) (by decide) (by decide) (by decide) (kB (fun μ2 hp2 => ?_) (fun μ2 hp2 => ?_)) kN
    · obtain ⟨rfl, hBt⟩ := hp2
      rw [btw_i] at hBt
      have hB1 : inR p 0 255 := hBt
      refine h_if_eq (tgt := 35) C dX9_forbid_20 (by decide) (fun c2 => absurd c2 (by decide)) (fun c2 => ?_)
      refine h_iload_g C dX9_forbid_23 rfl rfl ?_
      refine h_i2l C dX9_forbid_24 ?_
      refine h_lconst (v := 0) C dX9_forbid_25 (by decide) ?_
      refine h_ldc2 C kc_X9_222 dX9_forbid_26 ?_
      refine h_callS3 C (k_X9_isBetween Z.l Z.G _ _ _ _) cw_X9_91 st_X9_isBetween dX9_forbid_29 (by first | decide | exact Nat.le_of_ble_eq_true rfl) (by decide) (by decide) (by decide) (by decide) (kB (fun μ3 hp3 => ?_) (fun μ3 hp3 => ?_)) kN
      · obtain ⟨rfl, hBt⟩ := hp3
        rw [btw_i] at hBt
        have hB2 : inR b 0 8 := hBt
        refine h_if_ne (tgt := 39) C dX9_forbid_32 (by decide) (fun c3 => ?_) (fun c3 => absurd c3 (by decide))
        refine h_iconst (v := 0) C dX9_forbid_39 (by decide) ?_
        refine h_ist_4 C dX9_forbid_40 ct_i ?_
        refine h_iload_w C dX9_forbid_42 rfl ?_
        refine h_if_ne (tgt := 61) C dX9_forbid_44 (by decide) (fun c4 => absurd c4 (by decide)) (fun c4 => ?_)
        refine h_al_g C dX9_forbid_47 rfl rfl rfv_r ?_
        refine h_iload_g C dX9_forbid_48 rfl rfl ?_
        refine h_iload_g C dX9_forbid_49 rfl rfl ?_
        refine h_iload_g C dX9_forbid_50 rfl rfl ?_
        refine h_callS2 C (k_X9_counting Z.l Z.G _ _ _) cw_X9_227 st_X9_counting dX9_forbid_51 (by first | decide | exact Nat.le_of_ble_eq_true rfl) (by decide) (by decide) (by decide) (by decide) (kI fun r4 μ4 hp4 => ?_) kN
        obtain ⟨rfl, rfl⟩ := hp4
        rw [CNT_I hB1 hB2]
        refine h_iload_g C dX9_forbid_54 rfl rfl ?_
        refine h_callV3 (ci := 9) C (k_X9_place Z.l Z.G Q S _ _ hM _ hx.lt _ hx.nI _ _) cw_X9_230 im_X9_place sl_X9_place rfl (by decide) hM.kX dX9_forbid_55 (by first | decide | exact Nat.le_of_ble_eq_true rfl) (by decide) (by decide) (by decide) (by decide) (kI fun r5 μ5 hp5 => ?_) kN
        obtain ⟨rfl, rfl⟩ := hp5
        refine h_goto (tgt := 62) C dX9_forbid_58 (by decide) ?_
        refine h_ist_5 C dX9_forbid_62 ct_i ?_
        refine h_al_g C dX9_forbid_64 rfl rfl rfv_r ?_
        refine h_iload_w C dX9_forbid_65 rfl ?_
        refine h_if_ne (tgt := 80) C dX9_forbid_67 (by decide) (fun c5 => absurd c5 (by decide)) (fun c5 => ?_)
        refine h_iload_w C dX9_forbid_70 rfl ?_
        refine h_iconst (v := (-1)) C dX9_forbid_72 (by decide) ?_
        refine h_icmp_ne (tgt := 80) C dX9_forbid_73 (by decide) (fun cP => ?_) (fun cP => ?_)
        · refine h_iload_w C dX9_forbid_80 rfl ?_
          refine h_callV1 (ci := 9) C (k_X9_isWrong Z.l Z.G (Q 0) _ hM.kX (0)) cw_X9_215 im_X9_isWrong sl_X9_isWrong rfl (by decide) hM.kX dX9_forbid_82 (by first | decide | exact Nat.le_of_ble_eq_true rfl) (by decide) (by decide) (by decide) (by decide) (kB (fun μ6 hp6 => ?_) (fun μ6 hp6 => ?_)) kN
          · obtain ⟨hc, e9⟩ := hp6
            exact absurd rfl hc
          · obtain ⟨hc, e9⟩ := hp6
            have hT := hT.sfi (Or.inr trivial) e9 (hT.1.w290 e9)
            have hM := hT.1
            refine h_if_eq (tgt := 90) C dX9_forbid_85 (by decide) (fun c7 => ?_) (fun c7 => absurd (by decide) c7)
            refine h_iload_w C dX9_forbid_90 rfl ?_
            refine h_ist_6 C dX9_forbid_92 ct_i ?_
            obtain ⟨i, r9, hi, hPe, -, -⟩ := (PRI_spec (TOPB p b) b (S.rt (cl x)) 0).resolve_left cP
            rw [Nat.zero_add] at hPe
            have hil := (List.getElem?_eq_some_iff.mp hi).1
            have hr8 := (hM.rt hx.lt).1
            have hF : FOR (S.rt (cl x)) (TOPB p b) b = (S.rt (cl x)).eraseIdx i := by
              unfold FOR
              rw [hPe, cl_of (by omega)]
            rw [hPe]
            have hcode : forC S x p b = 0 := (if_pos hx).trans ((if_pos hB1).trans ((if_pos hB2).trans (if_neg cP)))
            exact lp_X9_forbid C E hx (L := S.rt (cl x)) (n := (S.rt (cl x)).length - 1) (i0 := i) rfl (by omega) (by omega) (by omega) _ _ (fun v m hv hTm => ⟨v, rfl, Or.inl ⟨hcode, by rw [hF, hv, List.length_eraseIdx, if_pos hil], by rw [hF]; exact hTm⟩⟩) ((S.rt (cl x)).length - 1 - i) i _ (S.rt (cl x)) (by omega) (Nat.le_refl _) (by omega) (fun k => by rw [if_neg (by omega)]) (by rw [show S.sRt (cl x) (S.rt (cl x)) = S from sRt_id]; exact hT)
        · refine h_iconst (v := 3) C dX9_forbid_76 (by decide) ?_
          refine h_goto (tgt := 82) C dX9_forbid_77 (by decide) ?_
          refine h_callV1 (ci := 9) C (k_X9_isWrong Z.l Z.G (Q 0) _ hM.kX (3)) cw_X9_215 im_X9_isWrong sl_X9_isWrong rfl (by decide) hM.kX dX9_forbid_82 (by first | decide | exact Nat.le_of_ble_eq_true rfl) (by decide) (by decide) (by decide) (by decide) (kB (fun μ7 hp7 => ?_) (fun μ7 hp7 => ?_)) kN
          · obtain ⟨hc, e9⟩ := hp7
            have hT := hT.sfi (Or.inr trivial) e9 (hT.1.w290 e9)
            have hM := hT.1
            refine h_if_eq (tgt := 90) C dX9_forbid_85 (by decide) (fun c8 => absurd c8 (by decide)) (fun c8 => ?_)
            refine h_iconst (v := 0) C dX9_forbid_88 (by decide) ?_
            refine h_iret C E dX9_forbid_89 (by decide) (by decide) ?_
            exact ⟨_, rfl, Or.inr ⟨by rw [show forC S x p b = 3 from (if_pos hx).trans ((if_pos hB1).trans ((if_pos hB2).trans (if_pos cP)))]; decide, by rw [show forC S x p b = 3 from (if_pos hx).trans ((if_pos hB1).trans ((if_pos hB2).trans (if_pos cP)))]; exact hT⟩⟩
          · obtain ⟨hc, e9⟩ := hp7
            exact absurd hc (by decide)
      · obtain ⟨rfl, hBt⟩ := hp3
        rw [btw_i] at hBt
        have hB2 : ¬ inR b 0 8 := hBt
        refine h_if_ne (tgt := 39) C dX9_forbid_32 (by decide) (fun c9 => absurd c9 (by decide)) (fun c9 => ?_)
        refine h_iconst (v := 2) C dX9_forbid_35 (by decide) ?_
        refine h_goto (tgt := 40) C dX9_forbid_36 (by decide) ?_
        refine h_ist_4 C dX9_forbid_40 ct_i ?_
        refine h_iload_w C dX9_forbid_42 rfl ?_
        refine h_if_ne (tgt := 61) C dX9_forbid_44 (by decide) (fun c10 => ?_) (fun c10 => absurd c10 (by decide))
        refine h_iconst (v := (-1)) C dX9_forbid_61 (by decide) ?_
        refine h_ist_5 C dX9_forbid_62 ct_i ?_
        refine h_al_g C dX9_forbid_64 rfl rfl rfv_r ?_
        refine h_iload_w C dX9_forbid_65 rfl ?_
        refine h_if_ne (tgt := 80) C dX9_forbid_67 (by decide) (fun c11 => ?_) (fun c11 => absurd c11 (by decide))
        refine h_iload_w C dX9_forbid_80 rfl ?_
        refine h_callV1 (ci := 9) C (k_X9_isWrong Z.l Z.G (Q 0) _ hM.kX (2)) cw_X9_215 im_X9_isWrong sl_X9_isWrong rfl (by decide) hM.kX dX9_forbid_82 (by first | decide | exact Nat.le_of_ble_eq_true rfl) (by decide) (by decide) (by decide) (by decide) (kB (fun μ8 hp8 => ?_) (fun μ8 hp8 => ?_)) kN
        · obtain ⟨hc, e9⟩ := hp8
          have hT := hT.sfi (Or.inr trivial) e9 (hT.1.w290 e9)
          have hM := hT.1
          refine h_if_eq (tgt := 90) C dX9_forbid_85 (by decide) (fun c12 => absurd c12 (by decide)) (fun c12 => ?_)
          refine h_iconst (v := 0) C dX9_forbid_88 (by decide) ?_
          refine h_iret C E dX9_forbid_89 (by decide) (by decide) ?_
          exact ⟨_, rfl, Or.inr ⟨by rw [show forC S x p b = 2 from (if_pos hx).trans ((if_pos hB1).trans (if_neg hB2))]; decide, by rw [show forC S x p b = 2 from (if_pos hx).trans ((if_pos hB1).trans (if_neg hB2))]; exact hT⟩⟩
        · obtain ⟨hc, e9⟩ := hp8
          exact absurd hc (by decide)
    · obtain ⟨rfl, hBt⟩ := hp2
      rw [btw_i] at hBt
      have hB1 : ¬ inR p 0 255 := hBt
      refine h_if_eq (tgt := 35) C dX9_forbid_20 (by decide) (fun c13 => ?_) (fun c13 => absurd (by decide) c13)
      refine h_iconst (v := 2) C dX9_forbid_35 (by decide) ?_
      refine h_goto (tgt := 40) C dX9_forbid_36 (by decide) ?_
      refine h_ist_4 C dX9_forbid_40 ct_i ?_
      refine h_iload_w C dX9_forbid_42 rfl ?_
      refine h_if_ne (tgt := 61) C dX9_forbid_44 (by decide) (fun c14 => ?_) (fun c14 => absurd c14 (by decide))
      refine h_iconst (v := (-1)) C dX9_forbid_61 (by decide) ?_
      refine h_ist_5 C dX9_forbid_62 ct_i ?_
      refine h_al_g C dX9_forbid_64 rfl rfl rfv_r ?_
      refine h_iload_w C dX9_forbid_65 rfl ?_
      refine h_if_ne (tgt := 80) C dX9_forbid_67 (by decide) (fun c15 => ?_) (fun c15 => absurd c15 (by decide))
      refine h_iload_w C dX9_forbid_80 rfl ?_
      refine h_callV1 (ci := 9) C (k_X9_isWrong Z.l Z.G (Q 0) _ hM.kX (2)) cw_X9_215 im_X9_isWrong sl_X9_isWrong rfl (by decide) hM.kX dX9_forbid_82 (by first | decide | exact Nat.le_of_ble_eq_true rfl) (by decide) (by decide) (by decide) (by decide) (kB (fun μ9 hp9 => ?_) (fun μ9 hp9 => ?_)) kN
      · obtain ⟨hc, e9⟩ := hp9
        have hT := hT.sfi (Or.inr trivial) e9 (hT.1.w290 e9)
        have hM := hT.1
        refine h_if_eq (tgt := 90) C dX9_forbid_85 (by decide) (fun c16 => absurd c16 (by decide)) (fun c16 => ?_)
        refine h_iconst (v := 0) C dX9_forbid_88 (by decide) ?_
        refine h_iret C E dX9_forbid_89 (by decide) (by decide) ?_
        exact ⟨_, rfl, Or.inr ⟨by rw [show forC S x p b = 2 from (if_pos hx).trans (if_neg hB1)]; decide, by rw [show forC S x p b = 2 from (if_pos hx).trans (if_neg hB1)]; exact hT⟩⟩
      · obtain ⟨hc, e9⟩ := hp9
        exact absurd hc (by decide)
  · obtain ⟨rfl, hx⟩ := hp1
    refine h_if_ne (tgt := 11) C dX9_forbid_4 (by decide) (fun c17 => absurd c17 (by decide)) (fun c17 => ?_)
    refine h_iconst (v := 1) C dX9_forbid_7 (by decide) ?_
    refine h_goto (tgt := 40) C dX9_forbid_8 (by decide) ?_
    refine h_ist_4 C dX9_forbid_40 ct_i ?_
    refine h_iload_w C dX9_forbid_42 rfl ?_
    refine h_if_ne (tgt := 61) C dX9_forbid_44 (by decide) (fun c18 => ?_) (fun c18 => absurd c18 (by decide))
    refine h_iconst (v := (-1)) C dX9_forbid_61 (by decide) ?_
    refine h_ist_5 C dX9_forbid_62 ct_i ?_
    refine h_al_g C dX9_forbid_64 rfl rfl rfv_r ?_
    refine h_iload_w C dX9_forbid_65 rfl ?_
    refine h_if_ne (tgt := 80) C dX9_forbid_67 (by decide) (fun c19 => ?_) (fun c19 => absurd c19 (by decide))
    refine h_iload_w C dX9_forbid_80 rfl ?_
    refine h_callV1 (ci := 9) C (k_X9_isWrong Z.l Z.G (Q 0) _ hM.kX (1)) cw_X9_215 im_X9_isWrong sl_X9_isWrong rfl (by decide) hM.kX dX9_forbid_82 (by first | decide | exact Nat.le_of_ble_eq_true rfl) (by decide) (by decide) (by decide) (by decide) (kB (fun μ10 hp10 => ?_) (fun μ10 hp10 => ?_)) kN
    · obtain ⟨hc, e9⟩ := hp10
      have hT := hT.sfi (Or.inr trivial) e9 (hT.1.w290 e9)
      have hM := hT.1
      refine h_if_eq (tgt := 90) C dX9_forbid_85 (by decide) (fun c20 => absurd c20 (by decide)) (fun c20 => ?_)
      refine h_iconst (v := 0) C dX9_forbid_88 (by decide) ?_
      refine h_iret C E dX9_forbid_89 (by decide) (by decide) ?_
      exact ⟨_, rfl, Or.inr ⟨by rw [show forC S x p b = 1 from if_neg hx]; decide, by rw [show forC S x p b = 1 from if_neg hx]; exact hT⟩⟩
    · obtain ⟨hc, e9⟩ := hp10
      exact absurd hc (by decide)

end
