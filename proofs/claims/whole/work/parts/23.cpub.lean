section
def PX1 (a : String) (k : Int32) (μ : Mem) : String → Mem → Prop := fun X μ' => μ = μ' ∧ (X = a ∧ k = 1)
def PX2 (a b : String) (k : Int32) (μ : Mem) : String → Mem → Prop := fun X μ' => μ = μ' ∧ ((X = a ∧ k = 1) ∨ (X = b ∧ k = 2))
def PX3 (a b c : String) (k : Int32) (μ : Mem) : String → Mem → Prop := fun X μ' => μ = μ' ∧ ((X = a ∧ k = 1) ∨ (X = b ∧ k = 2) ∨ (X = c ∧ k = 3))
def pairC (x y : Int32) : Int32 := if isE x ∧ isE y then (if ¬ x = y then 0 else 2) else 1
theorem pairC_ok {x y : Int32} (hx : isE x) (hy : isE y) (h : ¬ x = y) : pairC x y = 0 := (if_pos ⟨hx, hy⟩).trans (if_pos h)
theorem pairC_1 {x y : Int32} (h : ¬ (isE x ∧ isE y)) : pairC x y = 1 := if_neg h
theorem pairC_2 {x y : Int32} (hx : isE x) (hy : isE y) (h : x = y) : pairC x y = 2 := (if_pos ⟨hx, hy⟩).trans (if_neg fun z => z h)
theorem pairC_X {x y : Int32} {X : String} {μ μ' : Mem} (h : μ = μ' ∧ ((X = xIOB ∧ ¬ (isE x ∧ isE y)) ∨ (X = xIAE ∧ isE x ∧ isE y ∧ x = y))) : PX2 xIOB xIAE (pairC x y) μ X μ' := ⟨h.1, h.2.elim (fun z => Or.inl ⟨z.1, pairC_1 z.2⟩) (fun z => Or.inr ⟨z.1, pairC_2 z.2.1 z.2.2.1 z.2.2.2⟩)⟩
def endC (x : Int32) : Int32 := if isE x then 0 else 1
def letC (S : Sx) (x : Int32) : Int32 := if isL S x then 0 else 1
theorem CRep.nt {G : Gx} {P : Nat → Nat} {S : Sx} {μ : Mem} (h : CRep G P S μ) : cN G P μ S.nt := h.2.2.2.2.2.2.2.2.2.2.2.2.2.2
theorem CRep.wt {G : Gx} {P : Nat → Nat} {S : Sx} {μ : Mem} (h : CRep G P S μ) : cW G P μ S.wt := h.2.2.2.2.2.2.2.2.2.2.2.1
theorem CRep.rt {G : Gx} {P : Nat → Nat} {S : Sx} {μ : Mem} (h : CRep G P S μ) : cR G P μ S.rt := h.2.2.2.2.2.2.2.2.2.2.2.2.1
theorem CRep.ou {G : Gx} {P : Nat → Nat} {S : Sx} {μ : Mem} (h : CRep G P S μ) : cO G P μ S.ou := h.2.2.2.2.2.2.2.2.2.2.2.2.2.1

set_option maxRecDepth 100000 in
set_option maxHeartbeats 4000000 in
theorem k_X8_now (l : Launch) (G : Gx) (P : Nat → Nat) (S : Sx) (μ : Mem) (hC : CRep G P S μ) : Kon l yX8_now cX8_now 1 (some .int) 0 0 0 0 G [.ref (P 0)] μ (pI fun v μ' => μ = μ' ∧ v = S.sc 0) noX := by
  refine Kon.ofG (by decide +kernel) (Nat.le_of_ble_eq_true rfl) (Nat.le_of_ble_eq_true rfl) (fun Z hZG C E NT MT => ?_)
  subst hZG
  have C : Cx Z RX8 cX8_now 0 0 0 0 := C
  show HW Z 0 0 0 [some (.ref (P 0))] [] μ
  refine h_al_g C dX8_now_0 rfl rfl rfv_r ?_
  refine gf_X8_26 C dX8_now_1 (CRep.kX hC) (CRep.f259 hC) ?_
  refine h_iret C E dX8_now_4 (by decide) (by decide) ?_
  exact ⟨_, rfl, rfl, rfl⟩

set_option maxRecDepth 100000 in
set_option maxHeartbeats 4000000 in
theorem k_X8_letters (l : Launch) (G : Gx) (P : Nat → Nat) (S : Sx) (μ : Mem) (hC : CRep G P S μ) : Kon l yX8_letters cX8_letters 1 (some .int) 1 0 0 20 G [.ref (P 0)] μ (pI fun v μ' => μ = μ' ∧ v = nI S.nt.length) noX := by
  refine Kon.ofG (by decide +kernel) (Nat.le_of_ble_eq_true rfl) (Nat.le_of_ble_eq_true rfl) (fun Z hZG C E NT MT => ?_)
  subst hZG
  have C : Cx Z RX8 cX8_letters 1 0 0 20 := C
  show HW Z 0 0 0 [some (.ref (P 0))] [] μ
  obtain ⟨xs, hx, hnd, hR⟩ := hC.nt
  have hlen := hR.1
  have hmx := hx.2.1
  refine h_al_g C dX8_letters_0 rfl rfl rfv_r ?_
  refine gs_X8_18 C dX8_letters_1 (CRep.kX hC) (CRep.f257 hC) ?_
  refine h_callV0 (ci := 0) (a_ := .null) C (k_Jx4a65c_size_8abf5 Z.l Z.G _ xs _ hx) cw_X8_86 im_Jx4a65c_size_8abf5 sl_Jx4a65c_size_8abf5 rfl (by decide) hx.1 dX8_letters_4 (by first | decide | exact Nat.le_of_ble_eq_true rfl) (by decide) (by decide) (by decide) (by decide) (kI fun r1 μ1 hp1 => ?_) kN
  obtain ⟨rfl, rfl⟩ := hp1
  refine h_iret C E dX8_letters_7 (by decide) (by decide) ?_
  exact ⟨_, rfl, rfl, by rw [hlen]⟩

set_option maxRecDepth 100000 in
set_option maxHeartbeats 4000000 in
theorem k_X8_address (l : Launch) (G : Gx) (P : Nat → Nat) (S : Sx) (μ : Mem) (hC : CRep G P S μ) (x : Int32) : Kon l yX8_address cX8_address 2 (some .int) 7 1 6 103 G [.ref (P 0), .int x] μ (pI fun v μ' => endC x = 0 ∧ μ = μ' ∧ v = S.ef 0 (cl x)) (PX1 xIOB (endC x) μ) := by
  refine Kon.ofG (by decide +kernel) (Nat.le_of_ble_eq_true rfl) (Nat.le_of_ble_eq_true rfl) (fun Z hZG C E NT MT => ?_)
  subst hZG
  have C : Cx Z RX8 cX8_address 7 1 6 103 := C
  show HW Z 0 0 0 [some (.ref (P 0)), some (.int x)] [] μ
  refine h_al_g C dX8_address_0 rfl rfl rfv_r ?_
  refine h_iload_g C dX8_address_1 rfl rfl ?_
  refine h_callV1 (ci := 8) C (k_X8_endAt Z.l Z.G P S _ hC x) cw_X8_52 im_X8_endAt sl_X8_endAt rfl (by decide) (CRep.kX hC) dX8_address_2 (by first | decide | exact Nat.le_of_ble_eq_true rfl) (by decide) (by decide) (by decide) (by decide) (kA fun r1 μ1 hp1 => ?_) (fun X9 μ9 hx9 => ?_)
  · obtain ⟨rfl, hx, rfl⟩ := hp1
    have he := hx.lt
    refine gf_X8_65 C dX8_address_5 (CRep.kE hC (by assumption)) (CRep.f37 hC (by assumption)) ?_
    refine h_iret C E dX8_address_8 (by decide) (by decide) ?_
    exact ⟨_, rfl, if_pos hx, rfl, rfl⟩
  · exact hx_out C E NT (by decide) (by decide) ⟨hx9.2.1, hx9.1, if_neg hx9.2.2⟩

set_option maxRecDepth 100000 in
set_option maxHeartbeats 4000000 in
theorem k_X8_known (l : Launch) (G : Gx) (P : Nat → Nat) (S : Sx) (μ : Mem) (hC : CRep G P S μ) (x y : Int32) : Kon l yX8_known cX8_known 3 (some .int) 8 2 12 126 G [.ref (P 0), .int x, .int y] μ (pI fun v μ' => pairC x y = 0 ∧ μ = μ' ∧ v = S.lf 0 (cl x) (cl y)) (PX2 xIOB xIAE (pairC x y) μ) := by
  refine Kon.ofG (by decide +kernel) (Nat.le_of_ble_eq_true rfl) (Nat.le_of_ble_eq_true rfl) (fun Z hZG C E NT MT => ?_)
  subst hZG
  have C : Cx Z RX8 cX8_known 8 2 12 126 := C
  show HW Z 0 0 0 [some (.ref (P 0)), some (.int x), some (.int y)] [] μ
  refine h_al_g C dX8_known_0 rfl rfl rfv_r ?_
  refine h_iload_g C dX8_known_1 rfl rfl ?_
  refine h_iload_g C dX8_known_2 rfl rfl ?_
  refine h_callV2 (ci := 8) C (k_X8_linkAt Z.l Z.G P S _ hC x y) cw_X8_72 im_X8_linkAt sl_X8_linkAt rfl (by decide) (CRep.kX hC) dX8_known_3 (by first | decide | exact Nat.le_of_ble_eq_true rfl) (by decide) (by decide) (by decide) (by decide) (kA fun r1 μ1 hp1 => ?_) (fun X9 μ9 hx9 => ?_)
  · obtain ⟨rfl, hx, hy, hxy, rfl⟩ := hp1
    have ha := hx.lt
    have hb := hy.lt
    refine gf_X8_221 C dX8_known_6 (CRep.kL hC (by assumption) (by assumption)) (CRep.f132 hC (by assumption) (by assumption)) ?_
    refine h_iret C E dX8_known_9 (by decide) (by decide) ?_
    exact ⟨_, rfl, pairC_ok hx hy hxy, rfl, rfl⟩
  · exact hx_out C E NT (by decide) (by decide) (pairC_X hx9)

set_option maxRecDepth 100000 in
set_option maxHeartbeats 4000000 in
theorem k_X8_stamp (l : Launch) (G : Gx) (P : Nat → Nat) (S : Sx) (μ : Mem) (hC : CRep G P S μ) (x y z : Int32) : Kon l yX8_stamp cX8_stamp 5 (some .int) 8 2 12 126 G [.ref (P 0), .int x, .int y, .int z] μ (pI fun v μ' => pairC x y = 0 ∧ μ = μ' ∧ v = if ¬ z = 0 then S.lf 2 (cl x) (cl y) else S.lf 1 (cl x) (cl y)) (PX2 xIOB xIAE (pairC x y) μ) := by
  refine Kon.ofG (by decide +kernel) (Nat.le_of_ble_eq_true rfl) (Nat.le_of_ble_eq_true rfl) (fun Z hZG C E NT MT => ?_)
  subst hZG
  have C : Cx Z RX8 cX8_stamp 8 2 12 126 := C
  show HW Z 0 0 0 [some (.ref (P 0)), some (.int x), some (.int y), some (.int z), none] [] μ
  refine h_al_g C dX8_stamp_0 rfl rfl rfv_r ?_
  refine h_iload_g C dX8_stamp_1 rfl rfl ?_
  refine h_iload_g C dX8_stamp_2 rfl rfl ?_
  refine h_callV2 (ci := 8) C (k_X8_linkAt Z.l Z.G P S _ hC x y) cw_X8_72 im_X8_linkAt sl_X8_linkAt rfl (by decide) (CRep.kX hC) dX8_stamp_3 (by first | decide | exact Nat.le_of_ble_eq_true rfl) (by decide) (by decide) (by decide) (by decide) (kA fun r1 μ1 hp1 => ?_) (fun X9 μ9 hx9 => ?_)
  · obtain ⟨rfl, hx, hy, hxy, rfl⟩ := hp1
    have ha := hx.lt
    have hb := hy.lt
    refine h_ast_4 C dX8_stamp_6 ct_i rfv_r ?_
    refine h_iload_g C dX8_stamp_8 rfl rfl ?_
    refine h_if_eq (tgt := 20) C dX8_stamp_9 (by decide) (fun c1 => ?_) (fun c1 => ?_)
    · refine h_al_w (j := 0) C dX8_stamp_20 rfl rfv_r ?_
      refine gf_X8_247 C dX8_stamp_22 (CRep.kL hC (by assumption) (by assumption)) (CRep.f137 hC (by assumption) (by assumption)) ?_
      refine h_iret C E dX8_stamp_25 (by decide) (by decide) ?_
      exact ⟨_, rfl, pairC_ok hx hy hxy, rfl, (if_neg fun h => h c1).symm⟩
    · refine h_al_w (j := 0) C dX8_stamp_12 rfl rfv_r ?_
      refine gf_X8_244 C dX8_stamp_14 (CRep.kL hC (by assumption) (by assumption)) (CRep.f138 hC (by assumption) (by assumption)) ?_
      refine h_goto (tgt := 25) C dX8_stamp_17 (by decide) ?_
      refine h_iret C E dX8_stamp_25 (by decide) (by decide) ?_
      exact ⟨_, rfl, pairC_ok hx hy hxy, rfl, (if_pos c1).symm⟩
  · exact hx_out C E NT (by decide) (by decide) (pairC_X hx9)

set_option maxRecDepth 100000 in
set_option maxHeartbeats 4000000 in
theorem k_X8_cookie (l : Launch) (G : Gx) (P : Nat → Nat) (S : Sx) (μ : Mem) (hC : CRep G P S μ) (x y : Int32) : Kon l yX8_cookie cX8_cookie 3 (some .int) 8 2 12 126 G [.ref (P 0), .int x, .int y] μ (pI fun v μ' => pairC x y = 0 ∧ μ = μ' ∧ v = YCK S (cl x) (cl y)) (PX2 xIOB xIAE (pairC x y) μ) := by
  refine Kon.ofG (by decide +kernel) (Nat.le_of_ble_eq_true rfl) (Nat.le_of_ble_eq_true rfl) (fun Z hZG C E NT MT => ?_)
  subst hZG
  have C : Cx Z RX8 cX8_cookie 8 2 12 126 := C
  show HW Z 0 0 0 [some (.ref (P 0)), some (.int x), some (.int y)] [] μ
  refine h_al_g C dX8_cookie_0 rfl rfl rfv_r ?_
  refine h_al_g C dX8_cookie_1 rfl rfl rfv_r ?_
  refine h_iload_g C dX8_cookie_2 rfl rfl ?_
  refine h_iload_g C dX8_cookie_3 rfl rfl ?_
  refine h_callV2 (ci := 8) C (k_X8_linkAt Z.l Z.G P S _ hC x y) cw_X8_72 im_X8_linkAt sl_X8_linkAt rfl (by decide) (CRep.kX hC) dX8_cookie_4 (by first | decide | exact Nat.le_of_ble_eq_true rfl) (by decide) (by decide) (by decide) (by decide) (kA fun r1 μ1 hp1 => ?_) (fun X9 μ9 hx9 => ?_)
  · obtain ⟨rfl, hx, hy, hxy, rfl⟩ := hp1
    have ha := hx.lt
    have hb := hy.lt
    refine h_callV1 (ci := 8) C (k_X8_youngCookie Z.l Z.G P S _ hC _ _ (by assumption) (by assumption)) cw_X8_240 im_X8_youngCookie sl_X8_youngCookie rfl (by decide) (CRep.kX hC) dX8_cookie_7 (by first | decide | exact Nat.le_of_ble_eq_true rfl) (by decide) (by decide) (by decide) (by decide) (kI fun r2 μ2 hp2 => ?_) kN
    obtain ⟨rfl, rfl⟩ := hp2
    refine h_iret C E dX8_cookie_10 (by decide) (by decide) ?_
    exact ⟨_, rfl, pairC_ok hx hy hxy, rfl, rfl⟩
  · exact hx_out C E NT (by decide) (by decide) (pairC_X hx9)

set_option maxRecDepth 100000 in
set_option maxHeartbeats 4000000 in
theorem k_X8_flight (l : Launch) (G : Gx) (P : Nat → Nat) (S : Sx) (μ : Mem) (hC : CRep G P S μ) (x y : Int32) : Kon l yX8_flight cX8_flight 3 (some .int) 8 2 12 126 G [.ref (P 0), .int x, .int y] μ (pI fun v μ' => pairC x y = 0 ∧ μ = μ' ∧ v = FLX S (cl x) (cl y)) (PX2 xIOB xIAE (pairC x y) μ) := by
  refine Kon.ofG (by decide +kernel) (Nat.le_of_ble_eq_true rfl) (Nat.le_of_ble_eq_true rfl) (fun Z hZG C E NT MT => ?_)
  subst hZG
  have C : Cx Z RX8 cX8_flight 8 2 12 126 := C
  show HW Z 0 0 0 [some (.ref (P 0)), some (.int x), some (.int y)] [] μ
  refine h_al_g C dX8_flight_0 rfl rfl rfv_r ?_
  refine h_iload_g C dX8_flight_1 rfl rfl ?_
  refine h_iload_g C dX8_flight_2 rfl rfl ?_
  refine h_callV2 (ci := 8) C (k_X8_linkAt Z.l Z.G P S _ hC x y) cw_X8_72 im_X8_linkAt sl_X8_linkAt rfl (by decide) (CRep.kX hC) dX8_flight_3 (by first | decide | exact Nat.le_of_ble_eq_true rfl) (by decide) (by decide) (by decide) (by decide) (kA fun r1 μ1 hp1 => ?_) (fun X9 μ9 hx9 => ?_)
  · obtain ⟨rfl, hx, hy, hxy, rfl⟩ := hp1
    have ha := hx.lt
    have hb := hy.lt
    refine h_callV0 (ci := 4) (a_ := .null) C (k_X3_flightIndex Z.l Z.G P S _ hC _ _ (by assumption) (by assumption)) cw_X8_234 im_X3_flightIndex sl_X3_flightIndex rfl (by decide) (CRep.kL hC (by assumption) (by assumption)) dX8_flight_6 (by first | decide | exact Nat.le_of_ble_eq_true rfl) (by decide) (by decide) (by decide) (by decide) (kI fun r2 μ2 hp2 => ?_) kN
    obtain ⟨rfl, rfl⟩ := hp2
    refine h_iret C E dX8_flight_9 (by decide) (by decide) ?_
    exact ⟨_, rfl, pairC_ok hx hy hxy, rfl, rfl⟩
  · exact hx_out C E NT (by decide) (by decide) (pairC_X hx9)

set_option maxRecDepth 100000 in
set_option maxHeartbeats 4000000 in
theorem k_X8_waiting (l : Launch) (G : Gx) (P : Nat → Nat) (S : Sx) (μ : Mem) (hC : CRep G P S μ) (x y : Int32) : Kon l yX8_waiting cX8_waiting 3 (some .int) 8 2 12 126 G [.ref (P 0), .int x, .int y] μ (pI fun v μ' => pairC x y = 0 ∧ μ = μ' ∧ v = nI (S.wt (cl x) (cl y)).length) (PX2 xIOB xIAE (pairC x y) μ) := by
  refine Kon.ofG (by decide +kernel) (Nat.le_of_ble_eq_true rfl) (Nat.le_of_ble_eq_true rfl) (fun Z hZG C E NT MT => ?_)
  subst hZG
  have C : Cx Z RX8 cX8_waiting 8 2 12 126 := C
  show HW Z 0 0 0 [some (.ref (P 0)), some (.int x), some (.int y)] [] μ
  refine h_al_g C dX8_waiting_0 rfl rfl rfv_r ?_
  refine h_iload_g C dX8_waiting_1 rfl rfl ?_
  refine h_iload_g C dX8_waiting_2 rfl rfl ?_
  refine h_callV2 (ci := 8) C (k_X8_linkAt Z.l Z.G P S _ hC x y) cw_X8_72 im_X8_linkAt sl_X8_linkAt rfl (by decide) (CRep.kX hC) dX8_waiting_3 (by first | decide | exact Nat.le_of_ble_eq_true rfl) (by decide) (by decide) (by decide) (by decide) (kA fun r1 μ1 hp1 => ?_) (fun X9 μ9 hx9 => ?_)
  · obtain ⟨rfl, hx, hy, hxy, rfl⟩ := hp1
    have ha := hx.lt
    have hb := hy.lt
    refine gs_X8_237 C dX8_waiting_6 (CRep.kL hC (by assumption) (by assumption)) (CRep.f131 hC (by assumption) (by assumption)) ?_
    obtain ⟨xs, hxs, hLR⟩ := hC.wt _ _ ha hb
    have hlen := hLR.1
    refine h_callV0 (ci := 0) (a_ := .null) C (k_Jx4a65c_size_8abf5 Z.l Z.G _ xs _ hxs) cw_X8_86 im_Jx4a65c_size_8abf5 sl_Jx4a65c_size_8abf5 rfl (by decide) hxs.1 dX8_waiting_9 (by first | decide | exact Nat.le_of_ble_eq_true rfl) (by decide) (by decide) (by decide) (by decide) (kI fun r2 μ2 hp2 => ?_) kN
    obtain ⟨rfl, rfl⟩ := hp2
    refine h_iret C E dX8_waiting_12 (by decide) (by decide) ?_
    exact ⟨_, rfl, pairC_ok hx hy hxy, rfl, by rw [hlen]⟩
  · exact hx_out C E NT (by decide) (by decide) (pairC_X hx9)

set_option maxRecDepth 100000 in
set_option maxHeartbeats 4000000 in
theorem k_X8_isUsable (l : Launch) (G : Gx) (P : Nat → Nat) (S : Sx) (μ : Mem) (hC : CRep G P S μ) (x y : Int32) : Kon l yX8_isUsable cX8_isUsable 3 (some .boolean) 8 2 12 126 G [.ref (P 0), .int x, .int y] μ (pB (fun μ' => pairC x y = 0 ∧ μ = μ' ∧ ∃ r, USE S (cl x) (cl y) = some r) (fun μ' => pairC x y = 0 ∧ μ = μ' ∧ USE S (cl x) (cl y) = none)) (PX2 xIOB xIAE (pairC x y) μ) := by
  refine Kon.ofG (by decide +kernel) (Nat.le_of_ble_eq_true rfl) (Nat.le_of_ble_eq_true rfl) (fun Z hZG C E NT MT => ?_)
  subst hZG
  have C : Cx Z RX8 cX8_isUsable 8 2 12 126 := C
  show HW Z 0 0 0 [some (.ref (P 0)), some (.int x), some (.int y)] [] μ
  refine h_al_g C dX8_isUsable_0 rfl rfl rfv_r ?_
  refine h_al_g C dX8_isUsable_1 rfl rfl rfv_r ?_
  refine h_iload_g C dX8_isUsable_2 rfl rfl ?_
  refine h_iload_g C dX8_isUsable_3 rfl rfl ?_
  refine h_callV2 (ci := 8) C (k_X8_linkAt Z.l Z.G P S _ hC x y) cw_X8_72 im_X8_linkAt sl_X8_linkAt rfl (by decide) (CRep.kX hC) dX8_isUsable_4 (by first | decide | exact Nat.le_of_ble_eq_true rfl) (by decide) (by decide) (by decide) (by decide) (kA fun r1 μ1 hp1 => ?_) (fun X9 μ9 hx9 => ?_)
  · obtain ⟨rfl, hx, hy, hxy, rfl⟩ := hp1
    have ha := hx.lt
    have hb := hy.lt
    refine h_callV1 (ci := 8) C (k_X8_usableOf Z.l Z.G P S _ hC _ _ (by assumption) (by assumption)) cw_X8_123 im_X8_usableOf sl_X8_usableOf rfl (by decide) (CRep.kX hC) dX8_isUsable_7 (by first | decide | exact Nat.le_of_ble_eq_true rfl) (by decide) (by decide) (by decide) (by decide) (kO (fun μ2 hp2 => ?_) (fun r2 μ2 hp2 => ?_)) kN
    · obtain ⟨rfl, hU⟩ := hp2
      refine h_ifnull_n (tgt := 17) C dX8_isUsable_10 (by decide) ?_
      refine h_iconst (v := 0) C dX8_isUsable_17 (by decide) ?_
      refine h_zret C E dX8_isUsable_18 (by decide) (by decide) (by first | exact Or.inl rfl | exact Or.inr rfl) ?_
      exact Or.inr ⟨rfl, pairC_ok hx hy hxy, rfl, hU⟩
    · obtain ⟨rfl, r, hU, hsl, hs⟩ := hp2
      refine h_ifnull_r C dX8_isUsable_10 ?_
      refine h_iconst (v := 1) C dX8_isUsable_13 (by decide) ?_
      refine h_goto (tgt := 18) C dX8_isUsable_14 (by decide) ?_
      refine h_zret C E dX8_isUsable_18 (by decide) (by decide) (by first | exact Or.inl rfl | exact Or.inr rfl) ?_
      exact Or.inl ⟨rfl, pairC_ok hx hy hxy, rfl, r, hU⟩
  · exact hx_out C E NT (by decide) (by decide) (pairC_X hx9)

set_option maxRecDepth 100000 in
set_option maxHeartbeats 4000000 in
theorem k_X8_outs (l : Launch) (G : Gx) (P : Nat → Nat) (S : Sx) (μ : Mem) (hC : CRep G P S μ) (x : Int32) : Kon l yX8_outs cX8_outs 2 (some .int) 7 1 6 103 G [.ref (P 0), .int x] μ (pI fun v μ' => endC x = 0 ∧ μ = μ' ∧ v = nI (OUT (cl x) S.ou).length) (PX1 xIOB (endC x) μ) := by
  refine Kon.ofG (by decide +kernel) (Nat.le_of_ble_eq_true rfl) (Nat.le_of_ble_eq_true rfl) (fun Z hZG C E NT MT => ?_)
  subst hZG
  have C : Cx Z RX8 cX8_outs 7 1 6 103 := C
  show HW Z 0 0 0 [some (.ref (P 0)), some (.int x)] [] μ
  refine h_al_g C dX8_outs_0 rfl rfl rfv_r ?_
  refine h_iload_g C dX8_outs_1 rfl rfl ?_
  refine h_callV1 (ci := 8) C (k_X8_endAt Z.l Z.G P S _ hC x) cw_X8_52 im_X8_endAt sl_X8_endAt rfl (by decide) (CRep.kX hC) dX8_outs_2 (by first | decide | exact Nat.le_of_ble_eq_true rfl) (by decide) (by decide) (by decide) (by decide) (kA fun r1 μ1 hp1 => ?_) (fun X9 μ9 hx9 => ?_)
  · obtain ⟨rfl, hx, rfl⟩ := hp1
    have he := hx.lt
    refine gs_X8_250 C dX8_outs_5 (CRep.kE hC (by assumption)) (CRep.f36 hC (by assumption)) ?_
    obtain ⟨xs, hxs, hLR⟩ := hC.ou _ he
    have hlen := hLR.1
    refine h_callV0 (ci := 0) (a_ := .null) C (k_Jx4a65c_size_8abf5 Z.l Z.G _ xs _ hxs) cw_X8_86 im_Jx4a65c_size_8abf5 sl_Jx4a65c_size_8abf5 rfl (by decide) hxs.1 dX8_outs_8 (by first | decide | exact Nat.le_of_ble_eq_true rfl) (by decide) (by decide) (by decide) (by decide) (kI fun r2 μ2 hp2 => ?_) kN
    obtain ⟨rfl, rfl⟩ := hp2
    refine h_iret C E dX8_outs_11 (by decide) (by decide) ?_
    exact ⟨_, rfl, if_pos hx, rfl, by rw [hlen]⟩
  · exact hx_out C E NT (by decide) (by decide) ⟨hx9.2.1, hx9.1, if_neg hx9.2.2⟩

def dropC (x : Int32) : Int32 := if inR x (-7) 3 then 0 else 1
set_option maxRecDepth 100000 in
set_option maxHeartbeats 4000000 in
theorem k_X8_drops (l : Launch) (G : Gx) (P : Nat → Nat) (S : Sx) (μ : Mem) (hC : CRep G P S μ) (x : Int32) : Kon l yX8_drops cX8_drops 2 (some .int) 7 1 6 104 G [.ref (P 0), .int x] μ (pI fun v μ' => dropC x = 0 ∧ μ = μ' ∧ v = S.cd (cl (x - (-7)))) (PX1 xIAE (dropC x) μ) := by
  refine Kon.ofG (by decide +kernel) (Nat.le_of_ble_eq_true rfl) (Nat.le_of_ble_eq_true rfl) (fun Z hZG C E NT MT => ?_)
  subst hZG
  have C : Cx Z RX8 cX8_drops 7 1 6 104 := C
  show HW Z 0 0 0 [some (.ref (P 0)), some (.int x)] [] μ
  refine h_iload_g C dX8_drops_0 rfl rfl ?_
  refine h_bipush (v := (-7)) C dX8_drops_1 (by decide) ?_
  refine h_iconst (v := 3) C dX8_drops_3 (by decide) ?_
  refine h_callS3 C (k_X8_checkRange Z.l Z.G (x) (-7) (3) _) cw_X8_56 st_X8_checkRange dX8_drops_4 (by first | decide | exact Nat.le_of_ble_eq_true rfl) (by decide) (by decide) (by decide) (by decide) (kV fun μ1 hp1 => ?_) (fun X9 μ9 hx9 => ?_)
  · obtain ⟨rfl, hr⟩ := hp1
    refine h_al_g C dX8_drops_7 rfl rfl rfv_r ?_
    refine gs_X8_22 C dX8_drops_8 (CRep.kX hC) (CRep.f258 hC) ?_
    refine h_iload_g C dX8_drops_11 rfl rfl ?_
    refine h_bipush (v := (-7)) C dX8_drops_12 (by decide) ?_
    refine h_isub C dX8_drops_14 ?_
    have hr2 := hr
    simp only [inR, Int32.lt_iff_toInt_lt, Int32.le_iff_toInt_le, tl_m10000, tl_m1000, tl_m500, tl_m7, tl_m6, tl_m5, tl_m4, tl_m3, tl_m2, tl_m1, tl_0, tl_1, tl_2, tl_3, tl_4, tl_5, tl_6, tl_7, tl_8, tl_9, tl_10, tl_11, tl_15, tl_16, tl_20, tl_30, tl_40, tl_60, tl_99, tl_100, tl_211, tl_255, tl_307, tl_500, tl_1018, tl_2038, tl_2039, tl_9999, tl_10000, tl_65280, tl_65520, tl_65521, tl_1000000, tl_500000000] at hr2
    have hx7 : (x - (-7)).toInt = x.toInt + 7 := by rw [fb_subI (by rw [tl_m7]; omega) (by rw [tl_m7]; omega), tl_m7]; omega
    have hc7 := cl_eq (x := x - (-7)) (by omega)
    refine h_iald C dX8_drops_15 (CRep.kTL hC) (by rw [CRep.lnT hC]; exact vp_isE (by omega) (by omega) (by decide)) (CRep.eT hC (i := cl (x - (-7))) (by omega)) ?_
    refine h_iret C E dX8_drops_16 (by decide) (by decide) ?_
    exact ⟨_, rfl, if_pos hr, rfl, rfl⟩
  · exact hx_out C E NT (by decide) (by decide) ⟨hx9.2.1, hx9.1, if_neg hx9.2.2⟩

def secC (x : Int32) : Int32 := if inR x 0 1000000 then 0 else 1
def shaC (x y : Int32) : Int32 := if inR x 0 1000000 then (if inR y 1 2038 then 0 else 1) else 1
def seaC (k x y z : Int32) : Int32 := if inR k 1 65520 then (if inR x (-1) 9999 then (if inR y (-1) 9999 then (if inR z (-1) 9999 then 0 else 1) else 1) else 1) else 1
set_option maxRecDepth 100000 in
set_option maxHeartbeats 4000000 in
theorem k_X8_publicOf (l : Launch) (G : Gx) (P : Nat → Nat) (S : Sx) (μ : Mem) (hC : CRep G P S μ) (x : Int32) : Kon l yX8_publicOf cX8_publicOf 2 (some .int) 7 1 6 104 G [.ref (P 0), .int x] μ (pI fun v μ' => secC x = 0 ∧ μ = μ' ∧ v = nI (PW 7 (cl x))) (PX1 xIAE (secC x) μ) := by
  refine Kon.ofG (by decide +kernel) (Nat.le_of_ble_eq_true rfl) (Nat.le_of_ble_eq_true rfl) (fun Z hZG C E NT MT => ?_)
  subst hZG
  have C : Cx Z RX8 cX8_publicOf 7 1 6 104 := C
  show HW Z 0 0 0 [some (.ref (P 0)), some (.int x)] [] μ
  refine h_iload_g C dX8_publicOf_0 rfl rfl ?_
  refine h_iconst (v := 0) C dX8_publicOf_1 (by decide) ?_
  refine h_ldcw C kc_X8_268 dX8_publicOf_2 ?_
  refine h_callS3 C (k_X8_checkRange Z.l Z.G (x) (0) (1000000) _) cw_X8_56 st_X8_checkRange dX8_publicOf_5 (by first | decide | exact Nat.le_of_ble_eq_true rfl) (by decide) (by decide) (by decide) (by decide) (kV fun μ1 hp1 => ?_) (fun X9 μ9 hx9 => ?_)
  · obtain ⟨rfl, hr⟩ := hp1
    have hr2 := hr
    simp only [inR, Int32.lt_iff_toInt_lt, Int32.le_iff_toInt_le, tl_m10000, tl_m1000, tl_m500, tl_m7, tl_m6, tl_m5, tl_m4, tl_m3, tl_m2, tl_m1, tl_0, tl_1, tl_2, tl_3, tl_4, tl_5, tl_6, tl_7, tl_8, tl_9, tl_10, tl_11, tl_15, tl_16, tl_20, tl_30, tl_40, tl_60, tl_99, tl_100, tl_211, tl_255, tl_307, tl_500, tl_1018, tl_2038, tl_2039, tl_9999, tl_10000, tl_65280, tl_65520, tl_65521, tl_1000000, tl_500000000] at hr2
    have hcx := cl_eq (x := x) (by omega)
    refine h_iload_g C dX8_publicOf_8 rfl rfl ?_
    refine h_callS1 C (k_X4_publicNumber Z.l Z.G x (cl x) (cl_nI (by omega)) (by omega) _) cw_X8_269 st_X4_publicNumber dX8_publicOf_9 (by first | decide | exact Nat.le_of_ble_eq_true rfl) (by decide) (by decide) (by decide) (by decide) (kI fun r2 μ2 hp2 => ?_) kN
    obtain ⟨rfl, rfl⟩ := hp2
    refine h_iret C E dX8_publicOf_12 (by decide) (by decide) ?_
    exact ⟨_, rfl, if_pos hr, rfl, rfl⟩
  · exact hx_out C E NT (by decide) (by decide) ⟨hx9.2.1, hx9.1, if_neg hx9.2.2⟩

set_option maxRecDepth 100000 in
set_option maxHeartbeats 4000000 in
theorem k_X8_shared (l : Launch) (G : Gx) (P : Nat → Nat) (S : Sx) (μ : Mem) (hC : CRep G P S μ) (x y : Int32) : Kon l yX8_shared cX8_shared 3 (some .int) 7 2 12 104 G [.ref (P 0), .int x, .int y] μ (pI fun v μ' => shaC x y = 0 ∧ μ = μ' ∧ v = nI (PW (cl y) (cl x))) (PX1 xIAE (shaC x y) μ) := by
  refine Kon.ofG (by decide +kernel) (Nat.le_of_ble_eq_true rfl) (Nat.le_of_ble_eq_true rfl) (fun Z hZG C E NT MT => ?_)
  subst hZG
  have C : Cx Z RX8 cX8_shared 7 2 12 104 := C
  show HW Z 0 0 0 [some (.ref (P 0)), some (.int x), some (.int y)] [] μ
  refine h_iload_g C dX8_shared_0 rfl rfl ?_
  refine h_iconst (v := 0) C dX8_shared_1 (by decide) ?_
  refine h_ldcw C kc_X8_268 dX8_shared_2 ?_
  refine h_callS3 C (k_X8_checkRange Z.l Z.G (x) (0) (1000000) _) cw_X8_56 st_X8_checkRange dX8_shared_5 (by first | decide | exact Nat.le_of_ble_eq_true rfl) (by decide) (by decide) (by decide) (by decide) (kV fun μ1 hp1 => ?_) (fun X9 μ9 hx9 => ?_)
  · obtain ⟨rfl, hr⟩ := hp1
    have hr2 := hr
    simp only [inR, Int32.lt_iff_toInt_lt, Int32.le_iff_toInt_le, tl_m10000, tl_m1000, tl_m500, tl_m7, tl_m6, tl_m5, tl_m4, tl_m3, tl_m2, tl_m1, tl_0, tl_1, tl_2, tl_3, tl_4, tl_5, tl_6, tl_7, tl_8, tl_9, tl_10, tl_11, tl_15, tl_16, tl_20, tl_30, tl_40, tl_60, tl_99, tl_100, tl_211, tl_255, tl_307, tl_500, tl_1018, tl_2038, tl_2039, tl_9999, tl_10000, tl_65280, tl_65520, tl_65521, tl_1000000, tl_500000000] at hr2
    have hcx := cl_eq (x := x) (by omega)
    refine h_iload_g C dX8_shared_8 rfl rfl ?_
    refine h_iconst (v := 1) C dX8_shared_9 (by decide) ?_
    refine h_sipush (v := 2038) C dX8_shared_10 (by decide) ?_
    refine h_callS3 C (k_X8_checkRange Z.l Z.G (y) (1) (2038) _) cw_X8_56 st_X8_checkRange dX8_shared_13 (by first | decide | exact Nat.le_of_ble_eq_true rfl) (by decide) (by decide) (by decide) (by decide) (kV fun μ2 hp2 => ?_) (fun X9 μ9 hx9 => ?_)
    · obtain ⟨rfl, hs⟩ := hp2
      have hs2 := hs
      simp only [inR, Int32.lt_iff_toInt_lt, Int32.le_iff_toInt_le, tl_m10000, tl_m1000, tl_m500, tl_m7, tl_m6, tl_m5, tl_m4, tl_m3, tl_m2, tl_m1, tl_0, tl_1, tl_2, tl_3, tl_4, tl_5, tl_6, tl_7, tl_8, tl_9, tl_10, tl_11, tl_15, tl_16, tl_20, tl_30, tl_40, tl_60, tl_99, tl_100, tl_211, tl_255, tl_307, tl_500, tl_1018, tl_2038, tl_2039, tl_9999, tl_10000, tl_65280, tl_65520, tl_65521, tl_1000000, tl_500000000] at hs2
      have hcy := cl_eq (x := y) (by omega)
      refine h_iload_g C dX8_shared_16 rfl rfl ?_
      refine h_iload_g C dX8_shared_17 rfl rfl ?_
      refine h_callS2 C (k_X4_power Z.l Z.G y x (cl y) (cl x) (cl_nI (by omega)) (by omega) (cl_nI (by omega)) (by omega) _) cw_X8_274 st_X4_power dX8_shared_18 (by first | decide | exact Nat.le_of_ble_eq_true rfl) (by decide) (by decide) (by decide) (by decide) (kI fun r3 μ3 hp3 => ?_) kN
      obtain ⟨rfl, rfl⟩ := hp3
      refine h_iret C E dX8_shared_21 (by decide) (by decide) ?_
      exact ⟨_, rfl, (if_pos hr).trans (if_pos hs), rfl, rfl⟩
    · exact hx_out C E NT (by decide) (by decide) ⟨hx9.2.1, hx9.1, (if_pos hr).trans (if_neg hx9.2.2)⟩
  · exact hx_out C E NT (by decide) (by decide) ⟨hx9.2.1, hx9.1, if_neg hx9.2.2⟩

def SEAv (k x y z : Int32) : Int32 := nI (SEALc (cl k) x.toInt (fun i => (if i = 0 then y else z : Int32).toInt) 2).toNat
def rouC (x y : Int32) : Int32 := if isE x then (if inR y 0 255 then 0 else 2) else 1
set_option maxRecDepth 100000 in
set_option maxHeartbeats 4000000 in
theorem k_X8_route (l : Launch) (G : Gx) (P : Nat → Nat) (S : Sx) (μ : Mem) (hC : CRep G P S μ) (x y : Int32) : Kon l yX8_route cX8_route 4 (some .int) 7 2 12 104 G [.ref (P 0), .int x, .int y] μ (pI fun v μ' => rouC x y = 0 ∧ μ = μ' ∧ v = GVN y (S.rt (cl x)) (-1) (-1)) (PX2 xIOB xIAE (rouC x y) μ) := by
  refine Kon.ofG (by decide +kernel) (Nat.le_of_ble_eq_true rfl) (Nat.le_of_ble_eq_true rfl) (fun Z hZG C E NT MT => ?_)
  subst hZG
  have C : Cx Z RX8 cX8_route 7 2 12 104 := C
  show HW Z 0 0 0 [some (.ref (P 0)), some (.int x), some (.int y), none] [] μ
  refine h_al_g C dX8_route_0 rfl rfl rfv_r ?_
  refine h_iload_g C dX8_route_1 rfl rfl ?_
  refine h_callV1 (ci := 8) C (k_X8_endAt Z.l Z.G P S _ hC x) cw_X8_52 im_X8_endAt sl_X8_endAt rfl (by decide) (CRep.kX hC) dX8_route_2 (by first | decide | exact Nat.le_of_ble_eq_true rfl) (by decide) (by decide) (by decide) (by decide) (kA fun r1 μ1 hp1 => ?_) (fun X9 μ9 hx9 => ?_)
  · obtain ⟨rfl, hx, rfl⟩ := hp1
    have he := hx.lt
    refine h_ast_3 C dX8_route_5 ct_i rfv_r ?_
    refine h_iload_g C dX8_route_6 rfl rfl ?_
    refine h_iconst (v := 0) C dX8_route_7 (by decide) ?_
    refine h_sipush (v := 255) C dX8_route_8 (by decide) ?_
    refine h_callS3 C (k_X8_checkRange Z.l Z.G (y) (0) (255) _) cw_X8_56 st_X8_checkRange dX8_route_11 (by first | decide | exact Nat.le_of_ble_eq_true rfl) (by decide) (by decide) (by decide) (by decide) (kV fun μ2 hp2 => ?_) (fun X9 μ9 hx9 => ?_)
    · obtain ⟨rfl, hr⟩ := hp2
      refine h_al_g C dX8_route_14 rfl rfl rfv_r ?_
      refine h_iload_g C dX8_route_15 rfl rfl ?_
      refine h_callV1 (ci := 1) C (k_X0_peerFor Z.l Z.G P S _ hC _ (by assumption) _) cw_X8_115 im_X0_peerFor sl_X0_peerFor rfl (by decide) (CRep.kE hC (by assumption)) dX8_route_16 (by first | decide | exact Nat.le_of_ble_eq_true rfl) (by decide) (by decide) (by decide) (by decide) (kI fun r3 μ3 hp3 => ?_) kN
      obtain ⟨rfl, rfl⟩ := hp3
      refine h_iret C E dX8_route_19 (by decide) (by decide) ?_
      exact ⟨_, rfl, (if_pos hx).trans (if_pos hr), rfl, rfl⟩
    · exact hx_out C E NT (by decide) (by decide) ⟨hx9.2.1, Or.inr ⟨hx9.1, (if_pos hx).trans (if_neg hx9.2.2)⟩⟩
  · exact hx_out C E NT (by decide) (by decide) ⟨hx9.2.1, Or.inl ⟨hx9.1, if_neg hx9.2.2⟩⟩

def lttC (S : Sx) (x y : Int32) : Int32 := if isL S x then (if inR y 0 8 then 0 else 2) else 1
set_option maxRecDepth 100000 in
set_option maxHeartbeats 4000000 in
theorem k_X8_letter (l : Launch) (G : Gx) (P : Nat → Nat) (S : Sx) (μ : Mem) (hC : CRep G P S μ) (x y : Int32) : Kon l yX8_letter cX8_letter 4 (some .int) 7 2 12 104 G [.ref (P 0), .int x, .int y] μ (pI fun v μ' => lttC S x y = 0 ∧ μ = μ' ∧ v = LTR S (cl x) (cl y)) (PX2 xIOB xIAE (lttC S x y) μ) := by
  refine Kon.ofG (by decide +kernel) (Nat.le_of_ble_eq_true rfl) (Nat.le_of_ble_eq_true rfl) (fun Z hZG C E NT MT => ?_)
  subst hZG
  have C : Cx Z RX8 cX8_letter 7 2 12 104 := C
  show HW Z 0 0 0 [some (.ref (P 0)), some (.int x), some (.int y), none] [] μ
  obtain ⟨xs, hx, hnd, hR⟩ := hC.nt
  have hlen := hR.1
  have hmx := hx.2.1
  refine h_al_g C dX8_letter_0 rfl rfl rfv_r ?_
  refine h_iload_g C dX8_letter_1 rfl rfl ?_
  refine h_callV1 (ci := 8) C (k_X8_letterAt Z.l Z.G P S _ hC xs hx hR x) cw_X8_161 im_X8_letterAt sl_X8_letterAt rfl (by decide) (CRep.kX hC) dX8_letter_2 (by first | decide | exact Nat.le_of_ble_eq_true rfl) (by decide) (by decide) (by decide) (by decide) (kA fun r1 μ1 hp1 => ?_) (fun X9 μ9 hx9 => ?_)
  · obtain ⟨rfl, hL, r, hxi, hri, hl⟩ := hp1
    have hk : KLET % 32 = 4 := by decide
    have eL := LTR_eq hri
    refine h_ast_3 C dX8_letter_5 ct_i rfv_r ?_
    refine h_iload_g C dX8_letter_6 rfl rfl ?_
    refine h_iconst (v := 0) C dX8_letter_7 (by decide) ?_
    refine h_bipush (v := 8) C dX8_letter_8 (by decide) ?_
    refine h_callS3 C (k_X8_checkRange Z.l Z.G (y) (0) (8) _) cw_X8_56 st_X8_checkRange dX8_letter_10 (by first | decide | exact Nat.le_of_ble_eq_true rfl) (by decide) (by decide) (by decide) (by decide) (kV fun μ2 hp2 => ?_) (fun X9 μ9 hx9 => ?_)
    · obtain ⟨rfl, hr⟩ := hp2
      refine h_iload_g C dX8_letter_13 rfl rfl ?_
      by_cases hv0 : y = 0
      · refine h_tableIn (off := 26) (tgt := 40) C dX8_letter_14 (by rw [hv0]; decide) (by rw [hv0]; decide) (by rw [hv0]; rfl) (by decide) ?_
        refine h_al_g C dX8_letter_40 rfl rfl rfv_r ?_
        refine gf_X8_214 C dX8_letter_41 (LeAt.k hl hk) (LeAt.f100 hl) ?_
        refine h_iret C E dX8_letter_44 (by decide) (by decide) ?_
        exact ⟨_, rfl, (if_pos hL).trans (if_pos hr), rfl, by rw [eL, hv0]; rfl⟩
      by_cases hv1 : y = 1
      · refine h_tableIn (off := 31) (tgt := 45) C dX8_letter_14 (by rw [hv1]; decide) (by rw [hv1]; decide) (by rw [hv1]; rfl) (by decide) ?_
        refine h_al_g C dX8_letter_45 rfl rfl rfv_r ?_
        refine gf_X8_165 C dX8_letter_46 (LeAt.k hl hk) (LeAt.f97 hl) ?_
        refine h_iret C E dX8_letter_49 (by decide) (by decide) ?_
        exact ⟨_, rfl, (if_pos hL).trans (if_pos hr), rfl, by rw [eL, hv1]; rfl⟩
      by_cases hv2 : y = 2
      · refine h_tableIn (off := 36) (tgt := 50) C dX8_letter_14 (by rw [hv2]; decide) (by rw [hv2]; decide) (by rw [hv2]; rfl) (by decide) ?_
        refine h_al_g C dX8_letter_50 rfl rfl rfv_r ?_
        refine gf_X8_170 C dX8_letter_51 (LeAt.k hl hk) (LeAt.f96 hl) ?_
        refine h_iret C E dX8_letter_54 (by decide) (by decide) ?_
        exact ⟨_, rfl, (if_pos hL).trans (if_pos hr), rfl, by rw [eL, hv2]; rfl⟩
      refine h_tableOut (tgt := 55) C dX8_letter_14 (by have z0 := ne_ti 0 0 (by decide) hv0; have z1 := ne_ti 1 1 (by decide) hv1; have z2 := ne_ti 2 2 (by decide) hv2; omega) (by decide) ?_
      refine h_al_g C dX8_letter_55 rfl rfl rfv_r ?_
      refine h_iload_g C dX8_letter_56 rfl rfl ?_
      refine h_iconst (v := 3) C dX8_letter_57 (by decide) ?_
      refine h_isub C dX8_letter_58 ?_
      refine h_callV1 (ci := 3) C (k_X2_fieldAt Z.l Z.G _ _ _ _ hl hk _) cw_X8_203 im_X2_fieldAt sl_X2_fieldAt rfl (by decide) (LeAt.k hl hk) dX8_letter_59 (by first | decide | exact Nat.le_of_ble_eq_true rfl) (by decide) (by decide) (by decide) (by decide) (kI fun r3 μ3 hp3 => ?_) kN
      obtain ⟨rfl, rfl⟩ := hp3
      refine h_iret C E dX8_letter_62 (by decide) (by decide) ?_
      have hr2 := hr
      simp only [inR, Int32.lt_iff_toInt_lt, Int32.le_iff_toInt_le, tl_m10000, tl_m1000, tl_m500, tl_m7, tl_m6, tl_m5, tl_m4, tl_m3, tl_m2, tl_m1, tl_0, tl_1, tl_2, tl_3, tl_4, tl_5, tl_6, tl_7, tl_8, tl_9, tl_10, tl_11, tl_15, tl_16, tl_20, tl_30, tl_40, tl_60, tl_99, tl_100, tl_211, tl_255, tl_307, tl_500, tl_1018, tl_2038, tl_2039, tl_9999, tl_10000, tl_65280, tl_65520, tl_65521, tl_1000000, tl_500000000] at hr2
      have z0 := ne_ti 0 0 (by decide) hv0
      have z1 := ne_ti 1 1 (by decide) hv1
      have z2 := ne_ti 2 2 (by decide) hv2
      have e3 : (y - 3).toInt = y.toInt - 3 := by rw [fb_subI (by rw [tl_3]; omega) (by rw [tl_3]; omega), tl_3]
      have e4 := cl_eq (x := y - 3) (by omega)
      have e5 := cl_eq (x := y) (by omega)
      refine ⟨_, rfl, (if_pos hL).trans (if_pos hr), rfl, ?_⟩
      rw [eL]
      unfold FLDv
      rw [if_pos ⟨by omega, by omega⟩, show 3 + cl (y - 3) = cl y by omega]
    · exact hx_out C E NT (by decide) (by decide) ⟨hx9.2.1, Or.inr ⟨hx9.1, (if_pos hL).trans (if_neg hx9.2.2)⟩⟩
  · exact hx_out C E NT (by decide) (by decide) ⟨hx9.2.1, Or.inl ⟨hx9.1, if_neg hx9.2.2⟩⟩

set_option maxRecDepth 100000 in
set_option maxHeartbeats 4000000 in
theorem k_X8_isTurned (l : Launch) (G : Gx) (P : Nat → Nat) (S : Sx) (μ : Mem) (hC : CRep G P S μ) (x : Int32) : Kon l yX8_isTurned cX8_isTurned 2 (some .boolean) 7 1 6 103 G [.ref (P 0), .int x] μ (pB (fun μ' => letC S x = 0 ∧ μ = μ' ∧ DIF (LTR S (cl x))) (fun μ' => letC S x = 0 ∧ μ = μ' ∧ ¬ DIF (LTR S (cl x)))) (PX1 xIOB (letC S x) μ) := by
  refine Kon.ofG (by decide +kernel) (Nat.le_of_ble_eq_true rfl) (Nat.le_of_ble_eq_true rfl) (fun Z hZG C E NT MT => ?_)
  subst hZG
  have C : Cx Z RX8 cX8_isTurned 7 1 6 103 := C
  show HW Z 0 0 0 [some (.ref (P 0)), some (.int x)] [] μ
  obtain ⟨xs, hx, hnd, hR⟩ := hC.nt
  have hlen := hR.1
  have hmx := hx.2.1
  refine h_al_g C dX8_isTurned_0 rfl rfl rfv_r ?_
  refine h_iload_g C dX8_isTurned_1 rfl rfl ?_
  refine h_callV1 (ci := 8) C (k_X8_letterAt Z.l Z.G P S _ hC xs hx hR x) cw_X8_161 im_X8_letterAt sl_X8_letterAt rfl (by decide) (CRep.kX hC) dX8_isTurned_2 (by first | decide | exact Nat.le_of_ble_eq_true rfl) (by decide) (by decide) (by decide) (by decide) (kA fun r1 μ1 hp1 => ?_) (fun X9 μ9 hx9 => ?_)
  · obtain ⟨rfl, hL, r, hxi, hri, hl⟩ := hp1
    have hk : KLET % 32 = 4 := by decide
    have eL := LTR_eq hri
    refine h_callV0 (ci := 3) (a_ := .null) C (k_X2_differs Z.l Z.G _ _ _ _ hl hk) cw_X8_217 im_X2_differs sl_X2_differs rfl (by decide) (LeAt.k hl hk) dX8_isTurned_5 (by first | decide | exact Nat.le_of_ble_eq_true rfl) (by decide) (by decide) (by decide) (by decide) (kB (fun μ2 hp2 => ?_) (fun μ2 hp2 => ?_)) kN
    · obtain ⟨rfl, hDf⟩ := hp2
      refine h_zret C E dX8_isTurned_8 (by decide) (by decide) (by first | exact Or.inl rfl | exact Or.inr rfl) ?_
      exact Or.inl ⟨rfl, if_pos hL, rfl, by rw [eL]; exact hDf⟩
    · obtain ⟨rfl, hDf⟩ := hp2
      refine h_zret C E dX8_isTurned_8 (by decide) (by decide) (by first | exact Or.inl rfl | exact Or.inr rfl) ?_
      exact Or.inr ⟨rfl, if_pos hL, rfl, by rw [eL]; exact hDf⟩
  · exact hx_out C E NT (by decide) (by decide) ⟨hx9.2.1, hx9.1, if_neg hx9.2.2⟩

def SESv (S : Sx) (r : Ses) (q : Int32) : Int32 := if q = 0 then r.1 0 else if q = 1 then r.1 1 else if q = 2 then S.sc 0 - r.1 2 else if q = 3 then r.1 5 else if q = 4 then r.1 7 else if q = 5 then r.1 8 else if q = 6 then r.1 3 else if q = 7 then r.1 4 else if ¬ r.1 6 = 0 then 1 else 0
set_option maxRecDepth 100000 in
set_option maxHeartbeats 4000000 in
theorem k_X8_sessionPart (l : Launch) (G : Gx) (P : Nat → Nat) (S : Sx) (μ : Mem) (hC : CRep G P S μ) (a b w s : Nat) (r : Ses) (hs : SesIn μ a b w s r) (q : Int32) : Kon l yX8_sessionPart cX8_sessionPart 3 (some .int) 1 0 0 21 G [.ref (P 0), .ref s, .int q] μ (pI fun v μ' => μ = μ' ∧ v = SESv S r q) noX := by
  refine Kon.ofG (by decide +kernel) (Nat.le_of_ble_eq_true rfl) (Nat.le_of_ble_eq_true rfl) (fun Z hZG C E NT MT => ?_)
  subst hZG
  have C : Cx Z RX8 cX8_sessionPart 1 0 0 21 := C
  show HW Z 0 0 0 [some (.ref (P 0)), some (.ref s), some (.int q)] [] μ
  refine h_iload_g C dX8_sessionPart_0 rfl rfl ?_
  by_cases hv0 : q = 0
  · refine h_tableIn (off := 47) (tgt := 48) C dX8_sessionPart_1 (by rw [hv0]; decide) (by rw [hv0]; decide) (by rw [hv0]; rfl) (by decide) ?_
    refine h_al_g C dX8_sessionPart_48 rfl rfl rfv_r ?_
    refine gf_X8_473 C dX8_sessionPart_49 (SesIn.k hs) (SesIn.f224 hs) ?_
    refine h_iret C E dX8_sessionPart_52 (by decide) (by decide) ?_
    exact ⟨_, rfl, rfl, by unfold SESv; rw [if_pos hv0]⟩
  by_cases hv1 : q = 1
  · refine h_tableIn (off := 52) (tgt := 53) C dX8_sessionPart_1 (by rw [hv1]; decide) (by rw [hv1]; decide) (by rw [hv1]; rfl) (by decide) ?_
    refine h_al_g C dX8_sessionPart_53 rfl rfl rfv_r ?_
    refine gf_X8_419 C dX8_sessionPart_54 (SesIn.k hs) (SesIn.f225 hs) ?_
    refine h_iret C E dX8_sessionPart_57 (by decide) (by decide) ?_
    exact ⟨_, rfl, rfl, by unfold SESv; rw [if_neg hv0, if_pos hv1]⟩
  by_cases hv2 : q = 2
  · refine h_tableIn (off := 57) (tgt := 58) C dX8_sessionPart_1 (by rw [hv2]; decide) (by rw [hv2]; decide) (by rw [hv2]; rfl) (by decide) ?_
    refine h_al_g C dX8_sessionPart_58 rfl rfl rfv_r ?_
    refine h_al_g C dX8_sessionPart_59 rfl rfl rfv_r ?_
    refine h_callV1 (ci := 8) C (k_X8_ageOf Z.l Z.G P S _ hC _ _ _ _ _ hs) cw_X8_293 im_X8_ageOf sl_X8_ageOf rfl (by decide) (CRep.kX hC) dX8_sessionPart_60 (by first | decide | exact Nat.le_of_ble_eq_true rfl) (by decide) (by decide) (by decide) (by decide) (kI fun r1 μ1 hp1 => ?_) kN
    obtain ⟨rfl, rfl⟩ := hp1
    refine h_iret C E dX8_sessionPart_63 (by decide) (by decide) ?_
    exact ⟨_, rfl, rfl, by unfold SESv; rw [if_neg hv0, if_neg hv1, if_pos hv2]⟩
  by_cases hv3 : q = 3
  · refine h_tableIn (off := 63) (tgt := 64) C dX8_sessionPart_1 (by rw [hv3]; decide) (by rw [hv3]; decide) (by rw [hv3]; rfl) (by decide) ?_
    refine h_al_g C dX8_sessionPart_64 rfl rfl rfv_r ?_
    refine gf_X8_350 C dX8_sessionPart_65 (SesIn.k hs) (SesIn.f230 hs) ?_
    refine h_iret C E dX8_sessionPart_68 (by decide) (by decide) ?_
    exact ⟨_, rfl, rfl, by unfold SESv; rw [if_neg hv0, if_neg hv1, if_neg hv2, if_pos hv3]⟩
  by_cases hv4 : q = 4
  · refine h_tableIn (off := 68) (tgt := 69) C dX8_sessionPart_1 (by rw [hv4]; decide) (by rw [hv4]; decide) (by rw [hv4]; rfl) (by decide) ?_
    refine h_al_g C dX8_sessionPart_69 rfl rfl rfv_r ?_
    refine gf_X8_474 C dX8_sessionPart_70 (SesIn.k hs) (SesIn.f232 hs) ?_
    refine h_iret C E dX8_sessionPart_73 (by decide) (by decide) ?_
    exact ⟨_, rfl, rfl, by unfold SESv; rw [if_neg hv0, if_neg hv1, if_neg hv2, if_neg hv3, if_pos hv4]⟩
  by_cases hv5 : q = 5
  · refine h_tableIn (off := 73) (tgt := 74) C dX8_sessionPart_1 (by rw [hv5]; decide) (by rw [hv5]; decide) (by rw [hv5]; rfl) (by decide) ?_
    refine h_al_g C dX8_sessionPart_74 rfl rfl rfv_r ?_
    refine gf_X8_477 C dX8_sessionPart_75 (SesIn.k hs) (SesIn.f231 hs) ?_
    refine h_iret C E dX8_sessionPart_78 (by decide) (by decide) ?_
    exact ⟨_, rfl, rfl, by unfold SESv; rw [if_neg hv0, if_neg hv1, if_neg hv2, if_neg hv3, if_neg hv4, if_pos hv5]⟩
  by_cases hv6 : q = 6
  · refine h_tableIn (off := 78) (tgt := 79) C dX8_sessionPart_1 (by rw [hv6]; decide) (by rw [hv6]; decide) (by rw [hv6]; rfl) (by decide) ?_
    refine h_al_g C dX8_sessionPart_79 rfl rfl rfv_r ?_
    refine gf_X8_422 C dX8_sessionPart_80 (SesIn.k hs) (SesIn.f228 hs) ?_
    refine h_iret C E dX8_sessionPart_83 (by decide) (by decide) ?_
    exact ⟨_, rfl, rfl, by unfold SESv; rw [if_neg hv0, if_neg hv1, if_neg hv2, if_neg hv3, if_neg hv4, if_neg hv5, if_pos hv6]⟩
  by_cases hv7 : q = 7
  · refine h_tableIn (off := 83) (tgt := 84) C dX8_sessionPart_1 (by rw [hv7]; decide) (by rw [hv7]; decide) (by rw [hv7]; rfl) (by decide) ?_
    refine h_al_g C dX8_sessionPart_84 rfl rfl rfv_r ?_
    refine gf_X8_460 C dX8_sessionPart_85 (SesIn.k hs) (SesIn.f229 hs) ?_
    refine h_iret C E dX8_sessionPart_88 (by decide) (by decide) ?_
    exact ⟨_, rfl, rfl, by unfold SESv; rw [if_neg hv0, if_neg hv1, if_neg hv2, if_neg hv3, if_neg hv4, if_neg hv5, if_neg hv6, if_pos hv7]⟩
  refine h_tableOut (tgt := 89) C dX8_sessionPart_1 (by have z0 := ne_ti 0 0 (by decide) hv0; have z1 := ne_ti 1 1 (by decide) hv1; have z2 := ne_ti 2 2 (by decide) hv2; have z3 := ne_ti 3 3 (by decide) hv3; have z4 := ne_ti 4 4 (by decide) hv4; have z5 := ne_ti 5 5 (by decide) hv5; have z6 := ne_ti 6 6 (by decide) hv6; have z7 := ne_ti 7 7 (by decide) hv7; omega) (by decide) ?_
  refine h_al_g C dX8_sessionPart_89 rfl rfl rfv_r ?_
  refine gf_X8_353 C dX8_sessionPart_90 (SesIn.k hs) (SesIn.f227 hs) ?_
  refine h_if_eq (tgt := 100) C dX8_sessionPart_93 (by decide) (fun c1 => ?_) (fun c1 => ?_)
  · refine h_iconst (v := 0) C dX8_sessionPart_100 (by decide) ?_
    refine h_iret C E dX8_sessionPart_101 (by decide) (by decide) ?_
    exact ⟨_, rfl, rfl, by unfold SESv; rw [if_neg hv0, if_neg hv1, if_neg hv2, if_neg hv3, if_neg hv4, if_neg hv5, if_neg hv6, if_neg hv7, if_neg (fun h => h c1)]⟩
  · refine h_iconst (v := 1) C dX8_sessionPart_96 (by decide) ?_
    refine h_goto (tgt := 101) C dX8_sessionPart_97 (by decide) ?_
    refine h_iret C E dX8_sessionPart_101 (by decide) (by decide) ?_
    exact ⟨_, rfl, rfl, by unfold SESv; rw [if_neg hv0, if_neg hv1, if_neg hv2, if_neg hv3, if_neg hv4, if_neg hv5, if_neg hv6, if_neg hv7, if_pos c1]⟩

def sesC (S : Sx) (x y w q : Int32) : Int32 := if isE x ∧ isE y then (if ¬ x = y then (if inR w 0 2 then (if inR q 0 8 then (if S.ses (cl x) (cl y) (cl w) = none then 3 else 0) else 2) else 2) else 2) else 1
def SESr (S : Sx) (a b w : Nat) : Ses := (S.ses a b w).getD (fun _ => 0, 0)
theorem SESr_eq {S : Sx} {a b w : Nat} {r : Ses} (h : S.ses a b w = some r) : SESr S a b w = r := by unfold SESr; rw [h]; rfl
theorem sesC_X {S : Sx} {x y w q : Int32} {X : String} {μ μ' : Mem} (h : μ = μ' ∧ ((X = xIOB ∧ ¬ (isE x ∧ isE y)) ∨ (X = xIAE ∧ isE x ∧ isE y ∧ x = y))) : PX3 xIOB xIAE xNSE (sesC S x y w q) μ X μ' := ⟨h.1, h.2.elim (fun z => Or.inl ⟨z.1, if_neg z.2⟩) (fun z => Or.inr (Or.inl ⟨z.1, (if_pos ⟨z.2.1, z.2.2.1⟩).trans (if_neg fun k => k z.2.2.2)⟩))⟩
set_option maxRecDepth 100000 in
set_option maxHeartbeats 4000000 in
theorem k_X8_session (l : Launch) (G : Gx) (P : Nat → Nat) (S : Sx) (μ : Mem) (hC : CRep G P S μ) (x y w q : Int32) : Kon l yX8_session cX8_session 7 (some .int) 8 5 30 126 G [.ref (P 0), .int x, .int y, .int w, .int q] μ (pI fun v μ' => sesC S x y w q = 0 ∧ μ = μ' ∧ v = SESv S (SESr S (cl x) (cl y) (cl w)) q) (PX3 xIOB xIAE xNSE (sesC S x y w q) μ) := by
  refine Kon.ofG (by decide +kernel) (Nat.le_of_ble_eq_true rfl) (Nat.le_of_ble_eq_true rfl) (fun Z hZG C E NT MT => ?_)
  subst hZG
  have C : Cx Z RX8 cX8_session 8 5 30 126 := C
  show HW Z 0 0 0 [some (.ref (P 0)), some (.int x), some (.int y), some (.int w), some (.int q), none, none] [] μ
  refine h_al_g C dX8_session_0 rfl rfl rfv_r ?_
  refine h_iload_g C dX8_session_1 rfl rfl ?_
  refine h_iload_g C dX8_session_2 rfl rfl ?_
  refine h_callV2 (ci := 8) C (k_X8_linkAt Z.l Z.G P S _ hC x y) cw_X8_72 im_X8_linkAt sl_X8_linkAt rfl (by decide) (CRep.kX hC) dX8_session_3 (by first | decide | exact Nat.le_of_ble_eq_true rfl) (by decide) (by decide) (by decide) (by decide) (kA fun r1 μ1 hp1 => ?_) (fun X9 μ9 hx9 => ?_)
  · obtain ⟨rfl, hx, hy, hxy, rfl⟩ := hp1
    have ha := hx.lt
    have hb := hy.lt
    refine h_ast_5 C dX8_session_6 ct_i rfv_r ?_
    refine h_iload_g C dX8_session_8 rfl rfl ?_
    refine h_iconst (v := 0) C dX8_session_9 (by decide) ?_
    refine h_iconst (v := 2) C dX8_session_10 (by decide) ?_
    refine h_callS3 C (k_X8_checkRange Z.l Z.G (w) (0) (2) _) cw_X8_56 st_X8_checkRange dX8_session_11 (by first | decide | exact Nat.le_of_ble_eq_true rfl) (by decide) (by decide) (by decide) (by decide) (kV fun μ2 hp2 => ?_) (fun X9 μ9 hx9 => ?_)
    · obtain ⟨rfl, h3⟩ := hp2
      have h3b := h3
      simp only [inR, Int32.lt_iff_toInt_lt, Int32.le_iff_toInt_le, tl_m10000, tl_m1000, tl_m500, tl_m7, tl_m6, tl_m5, tl_m4, tl_m3, tl_m2, tl_m1, tl_0, tl_1, tl_2, tl_3, tl_4, tl_5, tl_6, tl_7, tl_8, tl_9, tl_10, tl_11, tl_15, tl_16, tl_20, tl_30, tl_40, tl_60, tl_99, tl_100, tl_211, tl_255, tl_307, tl_500, tl_1018, tl_2038, tl_2039, tl_9999, tl_10000, tl_65280, tl_65520, tl_65521, tl_1000000, tl_500000000] at h3b
      have hcw := cl_eq (x := w) (by omega)
      refine h_iload_w C dX8_session_14 rfl ?_
      refine h_iconst (v := 0) C dX8_session_16 (by decide) ?_
      refine h_bipush (v := 8) C dX8_session_17 (by decide) ?_
      refine h_callS3 C (k_X8_checkRange Z.l Z.G (q) (0) (8) _) cw_X8_56 st_X8_checkRange dX8_session_19 (by first | decide | exact Nat.le_of_ble_eq_true rfl) (by decide) (by decide) (by decide) (by decide) (kV fun μ3 hp3 => ?_) (fun X9 μ9 hx9 => ?_)
      · obtain ⟨rfl, h4⟩ := hp3
        refine h_al_w (j := 0) C dX8_session_22 rfl rfv_r ?_
        refine h_iload_g C dX8_session_24 rfl rfl ?_
        refine h_callV1 (ci := 4) C (k_X3_sessionAt Z.l Z.G P S _ hC _ _ (by assumption) (by assumption) w (cl w) (by omega) (cl_nI (by omega))) cw_X8_224 im_X3_sessionAt sl_X3_sessionAt rfl (by decide) (CRep.kL hC (by assumption) (by assumption)) dX8_session_25 (by first | decide | exact Nat.le_of_ble_eq_true rfl) (by decide) (by decide) (by decide) (by decide) (kO (fun μ4 hp4 => ?_) (fun r4 μ4 hp4 => ?_)) kN
        · obtain ⟨rfl, hn⟩ := hp4
          refine h_ast_6 C dX8_session_28 ct_r rfv_n ?_
          refine h_al_w (j := 0) C dX8_session_30 rfl rfv_n ?_
          refine h_ifnonnull_n C dX8_session_32 ?_
          exact h_throwN C E NT kl_X8_107 xini_NSE xs_228 xat_NSE dX8_session_35 dX8_session_38 dX8_session_39 dX8_session_41 dX8_session_44 (by decide) (by decide) (by decide) (by decide) (by decide) (by decide) ⟨rfl, Or.inr (Or.inr ⟨rfl, (if_pos ⟨hx, hy⟩).trans ((if_pos hxy).trans ((if_pos h3).trans ((if_pos h4).trans (if_pos hn))))⟩)⟩
        · obtain ⟨rfl, r, hr, hsl, hs⟩ := hp4
          refine h_ast_6 C dX8_session_28 ct_r rfv_r ?_
          refine h_al_w (j := 0) C dX8_session_30 rfl rfv_r ?_
          refine h_ifnonnull_r (tgt := 45) C dX8_session_32 (by decide) ?_
          refine h_al_g C dX8_session_45 rfl rfl rfv_r ?_
          refine h_al_w (j := 0) C dX8_session_46 rfl rfv_r ?_
          refine h_iload_w C dX8_session_48 rfl ?_
          refine h_callV2 (ci := 8) C (k_X8_sessionPart Z.l Z.G P S _ hC _ _ _ _ _ hs _) cw_X8_230 im_X8_sessionPart sl_X8_sessionPart rfl (by decide) (CRep.kX hC) dX8_session_50 (by first | decide | exact Nat.le_of_ble_eq_true rfl) (by decide) (by decide) (by decide) (by decide) (kI fun r5 μ5 hp5 => ?_) kN
          obtain ⟨rfl, rfl⟩ := hp5
          refine h_iret C E dX8_session_53 (by decide) (by decide) ?_
          exact ⟨_, rfl, (if_pos ⟨hx, hy⟩).trans ((if_pos hxy).trans ((if_pos h3).trans ((if_pos h4).trans (if_neg fun z => by rw [hr] at z; cases z)))), rfl, by rw [SESr_eq hr]⟩
      · exact hx_out C E NT (by decide) (by decide) ⟨hx9.2.1, Or.inr (Or.inl ⟨hx9.1, (if_pos ⟨hx, hy⟩).trans ((if_pos hxy).trans ((if_pos h3).trans (if_neg hx9.2.2)))⟩)⟩
    · exact hx_out C E NT (by decide) (by decide) ⟨hx9.2.1, Or.inr (Or.inl ⟨hx9.1, (if_pos ⟨hx, hy⟩).trans ((if_pos hxy).trans (if_neg hx9.2.2))⟩)⟩
  · exact hx_out C E NT (by decide) (by decide) (sesC_X hx9)

abbrev isO (S : Sx) (e : Nat) (x : Int32) : Prop := 0 ≤ x.toInt ∧ x.toInt < ((OUT e S.ou).length : Int)
def OUTr (S : Sx) (e i : Nat) : Row := ((OUT e S.ou)[i]?).getD (fun _ => 0)
def outC (S : Sx) (x y q : Int32) : Int32 := if isE x then (if isO S (cl x) y then (if inR q 0 3 then 0 else 2) else 1) else 1
set_option maxRecDepth 100000 in
set_option maxHeartbeats 4000000 in
theorem k_X8_out (l : Launch) (G : Gx) (P : Nat → Nat) (S : Sx) (μ : Mem) (hC : CRep G P S μ) (x y q : Int32) : Kon l yX8_out cX8_out 6 (some .int) 7 2 12 104 G [.ref (P 0), .int x, .int y, .int q] μ (pI fun v μ' => outC S x y q = 0 ∧ μ = μ' ∧ v = OUTr S (cl x) (cl y) (1 + cl q)) (PX2 xIOB xIAE (outC S x y q) μ) := by
  refine Kon.ofG (by decide +kernel) (Nat.le_of_ble_eq_true rfl) (Nat.le_of_ble_eq_true rfl) (fun Z hZG C E NT MT => ?_)
  subst hZG
  have C : Cx Z RX8 cX8_out 7 2 12 104 := C
  show HW Z 0 0 0 [some (.ref (P 0)), some (.int x), some (.int y), some (.int q), none, none] [] μ
  refine h_al_g C dX8_out_0 rfl rfl rfv_r ?_
  refine h_iload_g C dX8_out_1 rfl rfl ?_
  refine h_callV1 (ci := 8) C (k_X8_endAt Z.l Z.G P S _ hC x) cw_X8_52 im_X8_endAt sl_X8_endAt rfl (by decide) (CRep.kX hC) dX8_out_2 (by first | decide | exact Nat.le_of_ble_eq_true rfl) (by decide) (by decide) (by decide) (by decide) (kA fun r1 μ1 hp1 => ?_) (fun X9 μ9 hx9 => ?_)
  · obtain ⟨rfl, hx, rfl⟩ := hp1
    have he := hx.lt
    obtain ⟨xs, hxs, hLR⟩ := hC.ou _ he
    have hlen := hLR.1
    have hmx := hxs.2.1
    refine h_ast_4 C dX8_out_5 ct_i rfv_r ?_
    refine h_iload_g C dX8_out_7 rfl rfl ?_
    refine h_if_lt (tgt := 23) C dX8_out_8 (by decide) (fun c1 => ?_) (fun c1 => ?_)
    · exact h_throw C E NT (by decide +kernel) xNames_fit kl_X8_253 xini_IOB xs_255 xat_IOB dX8_out_23 dX8_out_26 dX8_out_27 dX8_out_29 dX8_out_32 (by decide) (by decide) (by decide) (by decide) (by decide) (by decide) ⟨rfl, Or.inl ⟨rfl, (if_pos hx).trans (if_neg fun h => by simp only [Int32.lt_iff_toInt_lt, Int32.le_iff_toInt_le, tl_m10000, tl_m1000, tl_m500, tl_m7, tl_m6, tl_m5, tl_m4, tl_m3, tl_m2, tl_m1, tl_0, tl_1, tl_2, tl_3, tl_4, tl_5, tl_6, tl_7, tl_8, tl_9, tl_10, tl_11, tl_15, tl_16, tl_20, tl_30, tl_40, tl_60, tl_99, tl_100, tl_211, tl_255, tl_307, tl_500, tl_1018, tl_2038, tl_2039, tl_9999, tl_10000, tl_65280, tl_65520, tl_65521, tl_1000000, tl_500000000] at c1; omega)⟩⟩
    · refine h_iload_g C dX8_out_11 rfl rfl ?_
      refine h_al_w (j := 0) C dX8_out_12 rfl rfv_r ?_
      refine gs_X8_250 C dX8_out_14 (CRep.kE hC (by assumption)) (CRep.f36 hC (by assumption)) ?_
      refine h_callV0 (ci := 0) (a_ := .null) C (k_Jx4a65c_size_8abf5 Z.l Z.G _ xs _ hxs) cw_X8_86 im_Jx4a65c_size_8abf5 sl_Jx4a65c_size_8abf5 rfl (by decide) hxs.1 dX8_out_17 (by first | decide | exact Nat.le_of_ble_eq_true rfl) (by decide) (by decide) (by decide) (by decide) (kI fun r2 μ2 hp2 => ?_) kN
      obtain ⟨rfl, rfl⟩ := hp2
      have e9 : (nI xs.length).toInt = ((OUT (cl x) S.ou).length : Int) := by rw [hlen]; exact nI_toInt (by omega)
      refine h_icmp_lt (tgt := 33) C dX8_out_20 (by decide) (fun c2 => ?_) (fun c2 => ?_)
      · simp only [Int32.lt_iff_toInt_lt, Int32.le_iff_toInt_le, tl_m10000, tl_m1000, tl_m500, tl_m7, tl_m6, tl_m5, tl_m4, tl_m3, tl_m2, tl_m1, tl_0, tl_1, tl_2, tl_3, tl_4, tl_5, tl_6, tl_7, tl_8, tl_9, tl_10, tl_11, tl_15, tl_16, tl_20, tl_30, tl_40, tl_60, tl_99, tl_100, tl_211, tl_255, tl_307, tl_500, tl_1018, tl_2038, tl_2039, tl_9999, tl_10000, tl_65280, tl_65520, tl_65521, tl_1000000, tl_500000000] at c1 c2
        have hO : isO S (cl x) y := ⟨by omega, by omega⟩
        have hcy := cl_eq hO.1
        have hi : xs[cl y]? = some xs[cl y] := List.getElem?_eq_getElem (by omega)
        have hj2 : (OUT (cl x) S.ou)[cl y]? = some (OUT (cl x) S.ou)[cl y] := List.getElem?_eq_getElem (by omega)
        have hp0 := hLR.2 _ _ _ hi hj2
        obtain ⟨hpk0, hp1, hp2, hp3, hp4⟩ := hp0
        have hpk : μ.kd xs[cl y] % 32 = 6 := by rw [hpk0]; decide
        refine h_iload_g C dX8_out_33 rfl rfl ?_
        refine h_iconst (v := 0) C dX8_out_34 (by decide) ?_
        refine h_iconst (v := 3) C dX8_out_35 (by decide) ?_
        refine h_callS3 C (k_X8_checkRange Z.l Z.G (q) (0) (3) _) cw_X8_56 st_X8_checkRange dX8_out_36 (by first | decide | exact Nat.le_of_ble_eq_true rfl) (by decide) (by decide) (by decide) (by decide) (kV fun μ3 hp3 => ?_) (fun X9 μ9 hx9 => ?_)
        · obtain ⟨rfl, hr⟩ := hp3
          refine h_al_w (j := 0) C dX8_out_39 rfl rfv_r ?_
          refine gs_X8_250 C dX8_out_41 (CRep.kE hC (by assumption)) (CRep.f36 hC (by assumption)) ?_
          refine h_iload_g C dX8_out_44 rfl rfl ?_
          refine h_callV1 (ci := 0) C (k_Jx4a65c_get_915e3 Z.l Z.G _ xs y (cl y) _ _ hxs (cl_nI hO.1) hi) cw_X8_92 im_Jx4a65c_get_915e3 sl_Jx4a65c_get_915e3 rfl (by decide) hxs.1 dX8_out_45 (by first | decide | exact Nat.le_of_ble_eq_true rfl) (by decide) (by decide) (by decide) (by decide) (kA fun r4 μ4 hp4 => ?_) kN
          obtain ⟨rfl, rfl⟩ := hp4
          refine h_castO (ci := 5) C kl_X8_127 rfl (by decide) dX8_out_48 hpk ?_
          refine h_ast_5 C dX8_out_51 ct_r rfv_r ?_
          refine h_iload_g C dX8_out_53 rfl rfl ?_
          by_cases hv0 : q = 0
          · refine h_tableIn (off := 26) (tgt := 80) C dX8_out_54 (by rw [hv0]; decide) (by rw [hv0]; decide) (by rw [hv0]; rfl) (by decide) ?_
            refine h_al_w (j := 0) C dX8_out_80 rfl rfv_r ?_
            refine gf_X8_258 C dX8_out_82 hpk hp1 ?_
            refine h_iret C E dX8_out_85 (by decide) (by decide) ?_
            exact ⟨_, rfl, (if_pos hx).trans ((if_pos hO).trans (if_pos hr)), rfl, by unfold OUTr; rw [hj2, hv0]; rfl⟩
          by_cases hv1 : q = 1
          · refine h_tableIn (off := 32) (tgt := 86) C dX8_out_54 (by rw [hv1]; decide) (by rw [hv1]; decide) (by rw [hv1]; rfl) (by decide) ?_
            refine h_al_w (j := 0) C dX8_out_86 rfl rfv_r ?_
            refine gf_X8_259 C dX8_out_88 hpk hp2 ?_
            refine h_iret C E dX8_out_91 (by decide) (by decide) ?_
            exact ⟨_, rfl, (if_pos hx).trans ((if_pos hO).trans (if_pos hr)), rfl, by unfold OUTr; rw [hj2, hv1]; rfl⟩
          by_cases hv2 : q = 2
          · refine h_tableIn (off := 38) (tgt := 92) C dX8_out_54 (by rw [hv2]; decide) (by rw [hv2]; decide) (by rw [hv2]; rfl) (by decide) ?_
            refine h_al_w (j := 0) C dX8_out_92 rfl rfv_r ?_
            refine gf_X8_262 C dX8_out_94 hpk hp3 ?_
            refine h_iret C E dX8_out_97 (by decide) (by decide) ?_
            exact ⟨_, rfl, (if_pos hx).trans ((if_pos hO).trans (if_pos hr)), rfl, by unfold OUTr; rw [hj2, hv2]; rfl⟩
          refine h_tableOut (tgt := 98) C dX8_out_54 (by have z0 := ne_ti 0 0 (by decide) hv0; have z1 := ne_ti 1 1 (by decide) hv1; have z2 := ne_ti 2 2 (by decide) hv2; omega) (by decide) ?_
          refine h_al_w (j := 0) C dX8_out_98 rfl rfv_r ?_
          refine gf_X8_265 C dX8_out_100 hpk hp4 ?_
          refine h_iret C E dX8_out_103 (by decide) (by decide) ?_
          have hr2 := hr
          simp only [inR, Int32.lt_iff_toInt_lt, Int32.le_iff_toInt_le, tl_m10000, tl_m1000, tl_m500, tl_m7, tl_m6, tl_m5, tl_m4, tl_m3, tl_m2, tl_m1, tl_0, tl_1, tl_2, tl_3, tl_4, tl_5, tl_6, tl_7, tl_8, tl_9, tl_10, tl_11, tl_15, tl_16, tl_20, tl_30, tl_40, tl_60, tl_99, tl_100, tl_211, tl_255, tl_307, tl_500, tl_1018, tl_2038, tl_2039, tl_9999, tl_10000, tl_65280, tl_65520, tl_65521, tl_1000000, tl_500000000] at hr2
          have z0 := ne_ti 0 0 (by decide) hv0
          have z1 := ne_ti 1 1 (by decide) hv1
          have z2 := ne_ti 2 2 (by decide) hv2
          have e5 := cl_eq (x := q) (by omega)
          exact ⟨_, rfl, (if_pos hx).trans ((if_pos hO).trans (if_pos hr)), rfl, by unfold OUTr; rw [hj2, show cl q = 3 by omega]; rfl⟩
        · exact hx_out C E NT (by decide) (by decide) ⟨hx9.2.1, Or.inr ⟨hx9.1, (if_pos hx).trans ((if_pos hO).trans (if_neg hx9.2.2))⟩⟩
      · exact h_throw C E NT (by decide +kernel) xNames_fit kl_X8_253 xini_IOB xs_255 xat_IOB dX8_out_23 dX8_out_26 dX8_out_27 dX8_out_29 dX8_out_32 (by decide) (by decide) (by decide) (by decide) (by decide) (by decide) ⟨rfl, Or.inl ⟨rfl, (if_pos hx).trans (if_neg fun h => by simp only [Int32.lt_iff_toInt_lt, Int32.le_iff_toInt_le, tl_m10000, tl_m1000, tl_m500, tl_m7, tl_m6, tl_m5, tl_m4, tl_m3, tl_m2, tl_m1, tl_0, tl_1, tl_2, tl_3, tl_4, tl_5, tl_6, tl_7, tl_8, tl_9, tl_10, tl_11, tl_15, tl_16, tl_20, tl_30, tl_40, tl_60, tl_99, tl_100, tl_211, tl_255, tl_307, tl_500, tl_1018, tl_2038, tl_2039, tl_9999, tl_10000, tl_65280, tl_65520, tl_65521, tl_1000000, tl_500000000] at c1 c2; omega)⟩⟩
  · exact hx_out C E NT (by decide) (by decide) ⟨hx9.2.1, Or.inl ⟨hx9.1, if_neg hx9.2.2⟩⟩

end
