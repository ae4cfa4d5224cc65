section
def CTNb (k f : Int32) : Bool := decide ((k = 1 ∧ (f = 3 ∨ f = 4)) ∨ (k = 2 ∧ f = 3) ∨ (k = 3 ∧ (f = 1 ∨ f = 2)) ∨ (¬ k = 1 ∧ ¬ k = 2 ∧ ¬ k = 3 ∧ 1 ≤ f ∧ f ≤ 5))
theorem CTN_iff {k f : Int32} : CTN k f ↔ CTNb k f = true := ⟨fun h => by unfold CTNb; rw [decide_eq_true_iff]; exact h, fun h => by unfold CTNb at h; rw [decide_eq_true_iff] at h; exact h⟩
theorem CTN_rng {k f : Int32} (h : CTN k f) : 0 ≤ f.toInt ∧ f.toInt < 6 := by
  rcases h with ⟨_, h | h⟩ | ⟨_, h⟩ | ⟨_, h | h⟩ | ⟨_, _, _, h1, h2⟩
  · rw [h]; decide
  · rw [h]; decide
  · rw [h]; decide
  · rw [h]; decide
  · rw [h]; decide
  · rw [Int32.le_iff_toInt_le, tl_1] at h1
    rw [Int32.le_iff_toInt_le, tl_5] at h2
    omega
def trnC (S : Sx) (x f z : Int32) : Int32 := if isL S x then (if CTNb (LTR S (cl x) 2) f = true then (if inR z (-500) 500 then (if ¬ z = 0 then (if LTR S (cl x) 15 = f then (if inR (FLDv (LTR S (cl x)) f + z - ORIG (LTR S (cl x))) (-10000) 10000 then 0 else 2) else (if LTR S (cl x) 15 = -1 then 0 else 3)) else 2) else 2) else 2) else 1
def okSent (g : Row) : Prop := g 15 = -1 → ∀ i, i < 6 → g (9 + i) = g (3 + i)
def twiC (S : Sx) (x : Int32) : Int32 := if isL S x then (if S.nt.length < 60 then 0 else 2) else 1
def mkR (p b y : Int32) : Row := fun j => if j = 0 then p else if j = 1 then b else y
theorem PRI_spec (p b : Int32) : ∀ (rs : List Row) (j : Nat), (PRI p b rs j = -1) ∨ ∃ i r, rs[i]? = some r ∧ PRI p b rs j = nI (j + i) ∧ r 0 = p ∧ r 1 = b
  | [], j => Or.inl rfl
  | r :: rs, j => by
    unfold PRI
    by_cases c : r 0 = p ∧ r 1 = b
    · rw [if_pos c]
      exact Or.inr ⟨0, r, rfl, rfl, c.1, c.2⟩
    · rw [if_neg c]
      rcases PRI_spec p b rs (j + 1) with h | ⟨i, r9, h1, h2, h3⟩
      · exact Or.inl h
      · exact Or.inr ⟨i + 1, r9, h1, by rw [h2, show j + 1 + i = j + (i + 1) by omega], h3⟩
def allC (S : Sx) (x y p b : Int32) : Int32 := if isE x ∧ isE y then (if ¬ x = y then (if inR p 0 255 then (if inR b 0 8 then (if PRI (TOPB p b) b (S.rt (cl x)) 0 = -1 ∧ 8 ≤ (S.rt (cl x)).length then 3 else 0) else 2) else 2) else 2) else 1
def ALR (rs : List Row) (p b y : Int32) : List Row := if PRI p b rs 0 = -1 then rs ++ [mkR p b y] else rs.set (cl (PRI p b rs 0)) (mkR p b y)
theorem allC_X {S : Sx} {x y p b : Int32} {X : String} {μ μ' : Mem} (h : μ = μ' ∧ ((X = xIOB ∧ ¬ (isE x ∧ isE y)) ∨ (X = xIAE ∧ isE x ∧ isE y ∧ x = y))) : PX3 xIOB xIAE xISE (allC S x y p b) μ X μ' := ⟨h.1, h.2.elim (fun z => Or.inl ⟨z.1, if_neg z.2⟩) (fun z => Or.inr (Or.inl ⟨z.1, (if_pos ⟨z.2.1, z.2.2.1⟩).trans (if_neg fun k => k z.2.2.2)⟩))⟩
theorem FrS.pt2 {W : Nat → Prop} {μ μ' : Mem} {p fa : Nat} (hk : μ'.kd = μ.kd) (hs : ∀ q, q ≠ p → q ≠ fa → SameAt μ μ' q) (hp : W (μ.kd p)) (hf : W (μ.kd fa)) : FrS W μ μ' := fun q => by
  by_cases c1 : q = p
  · subst c1
    exact ⟨fun _ hn => absurd hp hn, fun _ => Or.inr (by rw [hk]; exact hp)⟩
  · by_cases c2 : q = fa
    · subst c2
      exact ⟨fun _ hn => absurd hf hn, fun _ => Or.inr (by rw [hk]; exact hf)⟩
    · exact ⟨fun _ _ => hs q c1 c2, fun h => by rw [hk]; exact h⟩

set_option maxRecDepth 100000 in
set_option maxHeartbeats 4000000 in
theorem k_X8_twice (l : Launch) (G : Gx) (P : Nat → Nat) (S : Sx) (μ : Mem) (hC : CRep G P S μ) (x : Int32) : Kon l yX8_twice cX8_twice 3 (some .int) 8 4 1020 191 G [.ref (P 0), .int x] μ (pI fun v μ' => twiC S x = 0 ∧ CTo G P μ (S.sNt (S.nt ++ [LTR S (cl x)])) μ' ∧ v = nI (S.nt.length + 1)) (PX2 xIOB xISE (twiC S x) μ) := by
  refine Kon.ofG (by decide +kernel) (Nat.le_of_ble_eq_true rfl) (Nat.le_of_ble_eq_true rfl) (fun Z hZG C E NT MT => ?_)
  subst hZG
  have C : Cx Z RX8 cX8_twice 8 4 1020 191 := C
  show HW Z 0 0 0 [some (.ref (P 0)), some (.int x), none] [] μ
  obtain ⟨xs, hx, hnd, hR⟩ := hC.nt
  have hlen := hR.1
  have hmx := hx.2.1
  refine h_al_g C dX8_twice_0 rfl rfl rfv_r ?_
  refine h_iload_g C dX8_twice_1 rfl rfl ?_
  refine h_callV1 (ci := 8) C (k_X8_letterAt Z.l Z.G P S _ hC xs hx hR x) cw_X8_161 im_X8_letterAt sl_X8_letterAt rfl (by decide) (CRep.kX hC) dX8_twice_2 (by first | decide | exact Nat.le_of_ble_eq_true rfl) (by decide) (by decide) (by decide) (by decide) (kA fun r1 μ1 hp1 => ?_) (fun X9 μ9 hx9 => ?_)
  · obtain ⟨rfl, hL, r, hxi, hri, hl⟩ := hp1
    have hk : KLET % 32 = 4 := by decide
    have eL := LTR_eq hri
    refine h_ast_2 C dX8_twice_5 ct_i rfv_r ?_
    refine h_al_g C dX8_twice_6 rfl rfl rfv_r ?_
    refine gs_X8_18 C dX8_twice_7 (CRep.kX hC) (CRep.f257 hC) ?_
    refine h_callV0 (ci := 0) (a_ := .null) C (k_Jx4a65c_size_8abf5 Z.l Z.G _ xs _ hx) cw_X8_86 im_Jx4a65c_size_8abf5 sl_Jx4a65c_size_8abf5 rfl (by decide) hx.1 dX8_twice_10 (by first | decide | exact Nat.le_of_ble_eq_true rfl) (by decide) (by decide) (by decide) (by decide) (kI fun r2 μ2 hp2 => ?_) kN
    obtain ⟨rfl, rfl⟩ := hp2
    refine h_bipush (v := 60) C dX8_twice_13 (by decide) ?_
    refine h_icmp_lt (tgt := 28) C dX8_twice_15 (by decide) (fun c1 => ?_) (fun c1 => ?_)
    · have h60 : S.nt.length < 60 := by rw [Int32.lt_iff_toInt_lt, tl_60, nI_toInt (by omega)] at c1; omega
      refine h_al_g C dX8_twice_28 rfl rfl rfv_r ?_
      refine gs_X8_18 C dX8_twice_29 (CRep.kX hC) (CRep.f257 hC) ?_
      refine h_al_g C dX8_twice_32 rfl rfl rfv_r ?_
      refine h_callV0 (ci := 3) (a_ := .null) C (k_X2_twin Z.l Z.G _ KLET _ r hl hk (by decide)) cw_X8_188 im_X2_twin sl_X2_twin rfl (by decide) (LeAt.k hl hk) dX8_twice_33 (by first | decide | exact Nat.le_of_ble_eq_true rfl) (by decide) (by decide) (by decide) (by decide) (kA fun q μ1 hp3 => ?_) kN
      obtain ⟨hq0, hlq, hfq⟩ := hp3
      have hT1 : CKo Z.G P μ S μ1 := CKo.float hC hfq (fun k hk => by
        rcases hk with e | e
        · exact Or.inl (by rw [e]; decide)
        · exact Or.inr ⟨q, e, by rw [hq0]; decide⟩) (fun k hk => by
        rcases hk with e | e
        · rw [e]; decide
        · rw [e]; unfold FM; omega)
      obtain ⟨fq, g1, g2, g3, -⟩ := hlq.2.2.2.2.2.2.2.2
      have hkq : μ1.kd q = KFLO := hlq.1
      have hx1 : ListAt Z.G μ1 (P 2) xs := hx.kept hfq (by rw [hC.1 2 (by decide)]; exact fun e => e.elim (fun z => absurd z (by decide)) (fun z => by have := KS_div 2; rw [z] at this; unfold FM at this; omega)) (fun e => e.elim (fun z => by unfold LM at z; have z9 : 14 + 32 * (1000 + P 2) = 4 + 32 * 40 := z; omega) (fun z => by unfold LM at z; have z9 : 14 + 32 * (1000 + P 2) = 11 + 32 * (1000 + q) := z; omega))
      have hR1 : LR (LeAt μ1 KLET) xs S.nt := hR.imp fun p hp r hr => hr.same (hT1.2 p hr.1).1 (fun fa hfa => by
        obtain ⟨fa', c1, c2, -⟩ := hr.2.2.2.2.2.2.2.2
        cases hfa.symm.trans c1
        exact (hT1.2 p hr.1).2 fa c2)
      refine h_skd q KLET (by rw [hkq]; decide) (by rw [hkq]; decide) ?_
      have hC1 := hT1.C.skd (a := q) (k := KLET) (by rw [hkq]; decide) (by rw [hkq]; decide) (by rw [hkq]; decide) (by rw [hkq]; decide)
      have hF1 : FrS isC μ1 (μ1.skd q KLET) := FrS.skd (by rw [hkq]; decide) (by rw [hkq]; exact isC_fl (by decide)) ⟨by decide, Or.inl (by decide)⟩
      have hl1 : LeAt (μ1.skd q KLET) KLET q r := hlq.mark (by decide)
      have hqx : q ∉ xs := fun h => by
        obtain ⟨i, r9, _, _, e3⟩ := hR1.rk h
        rw [e3.1] at hkq
        exact absurd hkq (by decide)
      have hx2 : ListAt Z.G (μ1.skd q KLET) (P 2) xs := hx1.skd (by rw [hkq]; decide) (by rw [hkq, hT1.C.1 2 (by decide)]; decide) (by rw [hkq]; decide)
      have hR2 : LR (LeAt (μ1.skd q KLET) KLET) xs S.nt := hR1.imp fun p _ r hp => hp.skd (by rw [hkq]; decide) (by rw [hkq]; decide)
      refine h_callV1 (ci := 0) C (k_Jx4a65c_add_9ea2d Z.l Z.G _ _ _ _ hx2 (by omega) (Or.inl (by rw [kd_skd]; decide))) cw_X8_103 im_Jx4a65c_add_9ea2d sl_Jx4a65c_add_9ea2d rfl (by decide) hx2.1 dX8_twice_36 (by first | decide | exact Nat.le_of_ble_eq_true rfl) (by decide) (by decide) (by decide) (by decide) (kI fun r3 μ3 hp4 => ?_) kN
      obtain ⟨hl3, hf3⟩ := hp4
      have hC3 := CRep.addNt hC1 hnd hR2 hl1 hqx hl3 hf3
      have hT3 : CTo Z.G P μ (S.sNt (S.nt ++ [LTR S (cl x)])) μ3 := by rw [eL]; exact hT1.1.tr ⟨hC3, hF1.tr (hf3.S (LW_isC hC1 (by decide)))⟩
      refine h_pop C dX8_twice_39 rfl ?_
      refine h_al_g C dX8_twice_40 rfl rfl rfv_r ?_
      refine gs_X8_18 C dX8_twice_41 (CRep.kX hC3) (CRep.f257 hC3) ?_
      refine h_callV0 (ci := 0) (a_ := .null) C (k_Jx4a65c_size_8abf5 Z.l Z.G _ _ _ hl3) cw_X8_86 im_Jx4a65c_size_8abf5 sl_Jx4a65c_size_8abf5 rfl (by decide) hl3.1 dX8_twice_44 (by first | decide | exact Nat.le_of_ble_eq_true rfl) (by decide) (by decide) (by decide) (by decide) (kI fun r4 μ3 hp5 => ?_) kN
      obtain ⟨rfl, rfl⟩ := hp5
      refine h_iret C E dX8_twice_47 (by decide) (by decide) ?_
      exact ⟨_, rfl, (if_pos hL).trans (if_pos h60), hT3, by rw [List.length_append, hlen]; rfl⟩
    · have h60 : ¬ S.nt.length < 60 := fun h => c1 (by rw [Int32.lt_iff_toInt_lt, tl_60, nI_toInt (by omega)]; omega)
      exact h_throw C E NT (by decide +kernel) xNames_fit kl_X8_47 xini_ISE xs_186 xat_ISE dX8_twice_18 dX8_twice_21 dX8_twice_22 dX8_twice_24 dX8_twice_27 (by decide) (by decide) (by decide) (by decide) (by decide) (by decide) ⟨rfl, Or.inr ⟨rfl, (if_pos hL).trans (if_neg h60)⟩⟩
  · exact hx_out C E NT (by decide) (by decide) ⟨hx9.2.1, Or.inl ⟨hx9.1, if_neg hx9.2.2⟩⟩

set_option maxRecDepth 100000 in
set_option maxHeartbeats 4000000 in
theorem k_X8_turn (l : Launch) (G : Gx) (P : Nat → Nat) (S : Sx) (μ : Mem) (hC : CRep G P S μ) (x f z : Int32) (hsent : ∀ g ∈ S.nt, okSent g) : Kon l yX8_turn cX8_turn 6 (some .int) 7 3 18 104 G [.ref (P 0), .int x, .int f, .int z] μ (pI fun v μ' => trnC S x f z = 0 ∧ CTo G P μ (S.sNt (S.nt.set (cl x) (TRN (LTR S (cl x)) f z))) μ' ∧ v = LTR S (cl x) (3 + cl f) + z) (PX3 xIOB xIAE xISE (trnC S x f z) μ) := by
  refine Kon.ofG (by decide +kernel) (Nat.le_of_ble_eq_true rfl) (Nat.le_of_ble_eq_true rfl) (fun Z hZG C E NT MT => ?_)
  subst hZG
  have C : Cx Z RX8 cX8_turn 7 3 18 104 := C
  show HW Z 0 0 0 [some (.ref (P 0)), some (.int x), some (.int f), some (.int z), none, none] [] μ
  obtain ⟨xs, hx, hnd, hR⟩ := hC.nt
  have hlen := hR.1
  have hmx := hx.2.1
  refine h_al_g C dX8_turn_0 rfl rfl rfv_r ?_
  refine h_iload_g C dX8_turn_1 rfl rfl ?_
  refine h_callV1 (ci := 8) C (k_X8_letterAt Z.l Z.G P S _ hC xs hx hR x) cw_X8_161 im_X8_letterAt sl_X8_letterAt rfl (by decide) (CRep.kX hC) dX8_turn_2 (by first | decide | exact Nat.le_of_ble_eq_true rfl) (by decide) (by decide) (by decide) (by decide) (kA fun r1 μ1 hp1 => ?_) (fun X9 μ9 hx9 => ?_)
  · obtain ⟨rfl, hL, r, hxi, hri, hl⟩ := hp1
    have hk : KLET % 32 = 4 := by decide
    have eL := LTR_eq hri
    have hse := hsent _ (List.mem_of_getElem? hri)
    refine h_ast_4 C dX8_turn_5 ct_i rfv_r ?_
    refine h_al_w (j := 0) C dX8_turn_7 rfl rfv_r ?_
    refine h_iload_g C dX8_turn_9 rfl rfl ?_
    refine h_callV1 (ci := 3) C (k_X2_canTurn Z.l Z.G _ _ _ _ hl hk _) cw_X8_192 im_X2_canTurn sl_X2_canTurn rfl (by decide) (LeAt.k hl hk) dX8_turn_10 (by first | decide | exact Nat.le_of_ble_eq_true rfl) (by decide) (by decide) (by decide) (by decide) (kB (fun μ2 hp2 => ?_) (fun μ2 hp2 => ?_)) kN
    · obtain ⟨rfl, hCT⟩ := hp2
      have hB : CTNb (LTR S (cl x) 2) f = true := by rw [eL]; exact CTN_iff.mp hCT
      have hf6 := CTN_rng hCT
      refine h_if_ne (tgt := 26) C dX8_turn_13 (by decide) (fun c1 => ?_) (fun c1 => absurd c1 (by decide))
      refine h_iload_g C dX8_turn_26 rfl rfl ?_
      refine h_sipush (v := (-500)) C dX8_turn_27 (by decide) ?_
      refine h_sipush (v := 500) C dX8_turn_30 (by decide) ?_
      refine h_callS3 C (k_X8_checkRange Z.l Z.G (z) (-500) (500) _) cw_X8_56 st_X8_checkRange dX8_turn_33 (by first | decide | exact Nat.le_of_ble_eq_true rfl) (by decide) (by decide) (by decide) (by decide) (kV fun μ3 hp3 => ?_) (fun X9 μ9 hx9 => ?_)
      · obtain ⟨rfl, hr⟩ := hp3
        refine h_iload_g C dX8_turn_36 rfl rfl ?_
        refine h_if_ne (tgt := 50) C dX8_turn_37 (by decide) (fun cz => ?_) (fun cz => ?_)
        · refine h_al_w (j := 0) C dX8_turn_50 rfl rfv_r ?_
          refine gf_X8_200 C dX8_turn_52 (LeAt.k hl hk) (LeAt.f102 hl) ?_
          refine h_iload_g C dX8_turn_55 rfl rfl ?_
          refine h_icmp_ne (tgt := 89) C dX8_turn_56 (by decide) (fun ct => ?_) (fun ct => ?_)
          · have ht : ¬ LTR S (cl x) 15 = f := by rw [eL]; exact ct
            refine h_al_w (j := 0) C dX8_turn_89 rfl rfv_r ?_
            refine gf_X8_200 C dX8_turn_91 (LeAt.k hl hk) (LeAt.f102 hl) ?_
            refine h_iconst (v := (-1)) C dX8_turn_94 (by decide) ?_
            refine h_icmp_eq (tgt := 108) C dX8_turn_95 (by decide) (fun cn => ?_) (fun cn => ?_)
            · have hst : (r 15 = -1 ∧ r (9 + cl f) = r (3 + cl f)) ∨ (r 15 = f) := Or.inl ⟨cn, hse cn _ (by have := cl_eq hf6.1; omega)⟩
              have hcode : trnC S x f z = 0 := (if_pos hL).trans ((if_pos hB).trans ((if_pos hr).trans ((if_pos cz).trans ((if_neg ht).trans (if_pos (by rw [eL]; exact cn))))))
              refine h_al_w (j := 0) C dX8_turn_108 rfl rfv_r ?_
              refine h_iload_g C dX8_turn_110 rfl rfl ?_
              refine h_iload_g C dX8_turn_111 rfl rfl ?_
              refine h_callV2 (ci := 3) C (k_X2_turnBy Z.l Z.G _ KLET _ r hl hk f z hf6 hst) cw_X8_211 im_X2_turnBy sl_X2_turnBy rfl (by decide) (LeAt.k hl hk) dX8_turn_112 (by first | decide | exact Nat.le_of_ble_eq_true rfl) (by decide) (by decide) (by decide) (by decide) (kI fun r4 μ9 hp4 => ?_) kN
              obtain ⟨rfl, hl9, hk9, hf9⟩ := hp4
              obtain ⟨fa, hfa1, hfa2, -⟩ := hl.2.2.2.2.2.2.2.2
              have hTo : CTo Z.G P μ (S.sNt (S.nt.set (cl x) (TRN (LTR S (cl x)) f z))) μ9 := by rw [eL]; exact ⟨CRep.setNt hC hx hnd hR hxi hfa2 (fun q h1 h2 => hf9 q fa hfa1 h1 h2) (congrFun hk9 _) (congrFun hk9 _) hl9, FrS.pt2 hk9 (fun q h1 h2 => hf9 q fa hfa1 h1 h2) (by rw [hl.1]; exact ⟨by decide, Or.inl (by decide)⟩) (by rw [hfa2]; exact isC_FM _)⟩
              refine h_iret C E dX8_turn_115 (by decide) (by decide) ?_
              exact ⟨_, rfl, hcode, hTo, by rw [eL]⟩
            · exact h_throw C E NT (by decide +kernel) xNames_fit kl_X8_47 xini_ISE xs_209 xat_ISE dX8_turn_98 dX8_turn_101 dX8_turn_102 dX8_turn_104 dX8_turn_107 (by decide) (by decide) (by decide) (by decide) (by decide) (by decide) ⟨rfl, Or.inr (Or.inr ⟨rfl, (if_pos hL).trans ((if_pos hB).trans ((if_pos hr).trans ((if_pos cz).trans ((if_neg ht).trans (if_neg (by rw [eL]; exact cn))))))⟩)⟩
          · have ht : LTR S (cl x) 15 = f := by rw [eL]; exact ct
            refine h_al_w (j := 0) C dX8_turn_59 rfl rfv_r ?_
            refine h_iload_g C dX8_turn_61 rfl rfl ?_
            refine h_callV1 (ci := 3) C (k_X2_fieldAt Z.l Z.G _ _ _ _ hl hk _) cw_X8_203 im_X2_fieldAt sl_X2_fieldAt rfl (by decide) (LeAt.k hl hk) dX8_turn_62 (by first | decide | exact Nat.le_of_ble_eq_true rfl) (by decide) (by decide) (by decide) (by decide) (kI fun r5 μ4 hp5 => ?_) kN
            obtain ⟨rfl, rfl⟩ := hp5
            refine h_iload_g C dX8_turn_65 rfl rfl ?_
            refine h_iadd C dX8_turn_66 ?_
            refine h_al_w (j := 0) C dX8_turn_67 rfl rfv_r ?_
            refine gf_X8_206 C dX8_turn_69 (LeAt.k hl hk) (LeAt.f103 hl) ?_
            refine h_isub C dX8_turn_72 ?_
            refine h_ist_5 C dX8_turn_73 ct_r ?_
            refine h_iload_w C dX8_turn_75 rfl ?_
            refine h_sipush (v := (-10000)) C dX8_turn_77 (by decide) ?_
            refine h_sipush (v := 10000) C dX8_turn_80 (by decide) ?_
            refine h_callS3 C (k_X8_checkRange Z.l Z.G (_) (-10000) (10000) _) cw_X8_56 st_X8_checkRange dX8_turn_83 (by first | decide | exact Nat.le_of_ble_eq_true rfl) (by decide) (by decide) (by decide) (by decide) (kV fun μ5 hp6 => ?_) (fun X9 μ9 hx9 => ?_)
            · obtain ⟨rfl, hr2⟩ := hp6
              refine h_goto (tgt := 108) C dX8_turn_86 (by decide) ?_
              have hst : (r 15 = -1 ∧ r (9 + cl f) = r (3 + cl f)) ∨ (r 15 = f) := Or.inr ct
              have hcode : trnC S x f z = 0 := (if_pos hL).trans ((if_pos hB).trans ((if_pos hr).trans ((if_pos cz).trans ((if_pos ht).trans (if_pos (by rw [eL]; exact hr2))))))
              refine h_al_w (j := 0) C dX8_turn_108 rfl rfv_r ?_
              refine h_iload_g C dX8_turn_110 rfl rfl ?_
              refine h_iload_g C dX8_turn_111 rfl rfl ?_
              refine h_callV2 (ci := 3) C (k_X2_turnBy Z.l Z.G _ KLET _ r hl hk f z hf6 hst) cw_X8_211 im_X2_turnBy sl_X2_turnBy rfl (by decide) (LeAt.k hl hk) dX8_turn_112 (by first | decide | exact Nat.le_of_ble_eq_true rfl) (by decide) (by decide) (by decide) (by decide) (kI fun r7 μ9 hp7 => ?_) kN
              obtain ⟨rfl, hl9, hk9, hf9⟩ := hp7
              obtain ⟨fa, hfa1, hfa2, -⟩ := hl.2.2.2.2.2.2.2.2
              have hTo : CTo Z.G P μ (S.sNt (S.nt.set (cl x) (TRN (LTR S (cl x)) f z))) μ9 := by rw [eL]; exact ⟨CRep.setNt hC hx hnd hR hxi hfa2 (fun q h1 h2 => hf9 q fa hfa1 h1 h2) (congrFun hk9 _) (congrFun hk9 _) hl9, FrS.pt2 hk9 (fun q h1 h2 => hf9 q fa hfa1 h1 h2) (by rw [hl.1]; exact ⟨by decide, Or.inl (by decide)⟩) (by rw [hfa2]; exact isC_FM _)⟩
              refine h_iret C E dX8_turn_115 (by decide) (by decide) ?_
              exact ⟨_, rfl, hcode, hTo, by rw [eL]⟩
            · exact hx_out C E NT (by decide) (by decide) ⟨hx9.2.1, Or.inr (Or.inl ⟨hx9.1, (if_pos hL).trans ((if_pos hB).trans ((if_pos hr).trans ((if_pos cz).trans ((if_pos ht).trans (if_neg (by rw [eL]; exact hx9.2.2))))))⟩)⟩
        · exact h_throw C E NT (by decide +kernel) xNames_fit kl_X8_39 xini_IAE xs_198 xat_IAE dX8_turn_40 dX8_turn_43 dX8_turn_44 dX8_turn_46 dX8_turn_49 (by decide) (by decide) (by decide) (by decide) (by decide) (by decide) ⟨rfl, Or.inr (Or.inl ⟨rfl, (if_pos hL).trans ((if_pos hB).trans ((if_pos hr).trans (if_neg (fun h => h cz))))⟩)⟩
      · exact hx_out C E NT (by decide) (by decide) ⟨hx9.2.1, Or.inr (Or.inl ⟨hx9.1, (if_pos hL).trans ((if_pos hB).trans (if_neg hx9.2.2))⟩)⟩
    · obtain ⟨rfl, hCT⟩ := hp2
      have hB : ¬ CTNb (LTR S (cl x) 2) f = true := fun h => by rw [eL] at h; exact hCT (CTN_iff.mpr h)
      refine h_if_ne (tgt := 26) C dX8_turn_13 (by decide) (fun c5 => absurd c5 (by decide)) (fun c5 => ?_)
      exact h_throw C E NT (by decide +kernel) xNames_fit kl_X8_39 xini_IAE xs_196 xat_IAE dX8_turn_16 dX8_turn_19 dX8_turn_20 dX8_turn_22 dX8_turn_25 (by decide) (by decide) (by decide) (by decide) (by decide) (by decide) ⟨rfl, Or.inr (Or.inl ⟨rfl, (if_pos hL).trans (if_neg hB)⟩)⟩
  · exact hx_out C E NT (by decide) (by decide) ⟨hx9.2.1, Or.inl ⟨hx9.1, if_neg hx9.2.2⟩⟩

end
