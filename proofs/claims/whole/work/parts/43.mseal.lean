section
def sgS (K : Int) : List Int → Int → Int → Int
  | [], s, _ => s
  | v :: vs, s, p => sgS K vs ((s + p * K % 65521 * ((v + 2) % 65521)) % 65521) (p * K % 65521)
theorem sg_p {x : Int64} {k : Int32} {B K : Int} (hx : x.toInt = B) (hB : 0 ≤ B ∧ B < 65521) (hk : k.toInt = K) (hK : 0 ≤ K ∧ K < 65521) : (x * k.toInt64).toInt = B * K := by
  have h1 : 0 ≤ B * K := Int.mul_nonneg hB.1 hK.1
  have h2 : B * K ≤ 65521 * 65521 := Int.mul_le_mul (by omega) (by omega) hK.1 (by decide)
  rw [fb_mulL (by rw [hx, i_toL, hk]; omega) (by rw [hx, i_toL, hk]; omega), hx, i_toL, hk]
theorem sg_v {v : Int32} : (v.toInt64 + 2 : Int64).toInt = v.toInt + 2 := by
  have hv := fb_rng v
  have e2 : (2 : Int64).toInt = 2 := by decide
  rw [fb_addL (by rw [i_toL, e2]; omega) (by rw [i_toL, e2]; omega), i_toL, e2]
theorem sg_s {s p w : Int64} {A B D : Int} (hs : s.toInt = A) (hA : 0 ≤ A ∧ A < 65521) (hp : p.toInt = B) (hB : 0 ≤ B ∧ B < 65521) (hw : w.toInt = D) (hD : 0 ≤ D ∧ D < 65521) : (s + p * w).toInt = A + B * D := by
  have h1 : 0 ≤ B * D := Int.mul_nonneg hB.1 hD.1
  have h2 : B * D ≤ 65521 * 65521 := Int.mul_le_mul (by omega) (by omega) hD.1 (by decide)
  have h3 : (p * w).toInt = B * D := by rw [fb_mulL (by rw [hp, hw]; omega) (by rw [hp, hw]; omega), hp, hw]
  rw [fb_addL (by rw [hs, h3]; omega) (by rw [hs, h3]; omega), hs, h3]
set_option maxRecDepth 100000 in
set_option maxHeartbeats 1000000 in
theorem lp_X9_sealOf {Z : Zx} {Post : Option Value → Mem → Prop} {PostX : String → Mem → Prop} {rc rs mc ms : Nat} {μ : Mem} {a : Nat} {k9 : Int32} {K : Int} {vs : List Int32} (hkk : k9.toInt = K) (hK : 0 ≤ K ∧ K < 65521) (hka : μ.kd a % 32 = 11) (hla : μ.ln a = vs.length) (hel : ∀ i (h : i < vs.length), μ.ei a i = vs[i]) (hmx : vs.length ≤ 100) (C : Cx Z RX9 cX9_sealOf 1 rc rs 21) (E : Rt Z mc ms (some .int) Post PostX) {k n : Nat} (hk : k ≤ mc) (hn : n ≤ ms) (hk2 : k ≤ rc) (hn2 : n ≤ rs) :
    ∀ (m j : Nat) (A B : Int) (s p : Int64), j + m = vs.length → (0 ≤ A ∧ A < 65521) → (0 ≤ B ∧ B < 65521) → s.toInt = A → p.toInt = B → (∀ v, v = nI (sgS K ((vs.drop j).map Int32.toInt) A B).toNat → Post (some (.int v)) μ) → ∀ z9 : Option Value, HW Z k n 16 [some (.int k9), some (.ref a), some (.long s), none, some (.long p), none, some (.ref a), some (.int (nI vs.length)), some (.int (nI j)), z9] [] μ := by
  intro m
  induction m with
  | zero =>
    intro j A B s p hj hA hB hs hp hP z9
    refine h_iload_w C dX9_sealOf_16 rfl ?_
    refine h_iload_w C dX9_sealOf_18 rfl ?_
    refine h_icmp_ge (tgt := 65) C dX9_sealOf_20 (by decide) (fun c1 => ?_) (fun c1 => absurd ((nI_le (by omega) (by omega))) c1)
    refine h_lload_g C dX9_sealOf_65 rfl rfl ?_
    refine h_l2i C dX9_sealOf_66 ?_
    refine h_iret C E dX9_sealOf_67 hk hn ?_
    refine hP _ ?_
    rw [List.drop_eq_nil_of_le (by omega)]
    show _ = nI A.toNat
    exact l_toI (z := A.toNat) (by rw [hs]; omega) (by omega)
  | succ m ih =>
    intro j A B s p hj hA hB hs hp hP z9
    have hjl : j < vs.length := by omega
    have hdr : vs.drop j = vs[j] :: vs.drop (j + 1) := List.drop_eq_getElem_cons hjl
    refine h_iload_w C dX9_sealOf_16 rfl ?_
    refine h_iload_w C dX9_sealOf_18 rfl ?_
    refine h_icmp_ge (tgt := 65) C dX9_sealOf_20 (by decide) (fun c1 => absurd c1 ((nI_ge (by omega) (by omega)))) (fun c1 => ?_)
    refine h_al_w (j := 0) C dX9_sealOf_23 rfl rfv_r ?_
    refine h_iload_w C dX9_sealOf_25 rfl ?_
    refine h_iald C dX9_sealOf_27 hka (by rw [hla]; exact vp_in_nI hjl (by omega)) (show μ.ei a (nI j).toNatClampNeg = vs[j] from by rw [nI_clamp (by omega)]; exact hel j hjl) ?_
    refine h_ist_9 C dX9_sealOf_28 ct_i ?_
    refine h_lload_w C dX9_sealOf_30 rfl ?_
    refine h_iload_g C dX9_sealOf_32 rfl rfl ?_
    refine h_i2l C dX9_sealOf_33 ?_
    refine h_lmul C dX9_sealOf_34 ?_
    refine h_callS1 C (k_X9_rest Z.l Z.G _ _) cw_X9_112 st_X9_rest dX9_sealOf_35 (by first | decide | exact Nat.le_of_ble_eq_true rfl) (by decide) (by decide) (by omega) (by omega) (kL fun p1 μ1 hp1 => ?_) kN
    obtain ⟨rfl, hr1⟩ := hp1
    have q1 : p1.toInt = B * K % 65521 := by rw [hr1, sg_p hp hB hkk hK]
    refine h_lst_4 C dX9_sealOf_38 ct_n ?_
    refine h_lload_g C dX9_sealOf_40 rfl rfl ?_
    refine h_lload_w C dX9_sealOf_41 rfl ?_
    refine h_iload_w C dX9_sealOf_43 rfl ?_
    refine h_i2l C dX9_sealOf_45 ?_
    refine h_ldc2 C kc_X9_89 dX9_sealOf_46 ?_
    refine h_ladd C dX9_sealOf_49 ?_
    refine h_callS1 C (k_X9_rest Z.l Z.G _ _) cw_X9_112 st_X9_rest dX9_sealOf_50 (by first | decide | exact Nat.le_of_ble_eq_true rfl) (by decide) (by decide) (by omega) (by omega) (kL fun w1 μ2 hp2 => ?_) kN
    obtain ⟨rfl, hr2⟩ := hp2
    have q2 : w1.toInt = (vs[j].toInt + 2) % 65521 := by rw [hr2, sg_v]
    refine h_lmul C dX9_sealOf_53 ?_
    refine h_ladd C dX9_sealOf_54 ?_
    refine h_callS1 C (k_X9_rest Z.l Z.G _ _) cw_X9_112 st_X9_rest dX9_sealOf_55 (by first | decide | exact Nat.le_of_ble_eq_true rfl) (by decide) (by decide) (by omega) (by omega) (kL fun s1 μ3 hp3 => ?_) kN
    obtain ⟨rfl, hr3⟩ := hp3
    have q3 : s1.toInt = (A + B * K % 65521 * ((vs[j].toInt + 2) % 65521)) % 65521 := by rw [hr3, sg_s hs hA q1 (by omega) q2 (by omega)]
    refine h_lst_2 C dX9_sealOf_58 ct_r ?_
    refine h_iinc_8 (q := 1) C dX9_sealOf_59 (by decide) ct_i ?_
    refine h_goto (tgt := 16) C dX9_sealOf_62 (by decide) ?_
    rw [nI_1]
    exact ih (j + 1) _ _ _ _ (by omega) (by omega) (by omega) q3 q1 (fun v hv => hP v (by rw [hdr]; exact hv)) _

set_option maxRecDepth 100000 in
set_option maxHeartbeats 1000000 in
theorem k_X9_sealOf (l : Launch) (G : Gx) (k : Int32) (K a : Nat) (vs : List Int32) (μ : Mem) (hk : k = nI K) (hK : K < 65521) (hka : μ.kd a % 32 = 11) (hla : μ.ln a = vs.length) (hel : ∀ i (h : i < vs.length), μ.ei a i = vs[i]) (hmx : vs.length ≤ 100) : Kon l yX9_sealOf cX9_sealOf 10 (some .int) 1 0 0 21 G [.int k, .ref a] μ (pI fun v μ' => μ = μ' ∧ v = nI (sgS K (vs.map Int32.toInt) 0 1).toNat) noX := by
  refine Kon.ofG (by decide +kernel) (Nat.le_of_ble_eq_true rfl) (Nat.le_of_ble_eq_true rfl) (fun Z hZG C E NT MT => ?_)
  subst hZG
  have C : Cx Z RX9 cX9_sealOf 1 0 0 21 := C
  show HW Z 0 0 0 [some (.int k), some (.ref a), none, none, none, none, none, none, none, none] [] μ
  refine h_lconst (v := 0) C dX9_sealOf_0 (by decide) ?_
  refine h_lst_2 C dX9_sealOf_1 ct_r ?_
  refine h_lconst (v := 1) C dX9_sealOf_2 (by decide) ?_
  refine h_lst_4 C dX9_sealOf_3 ct_n ?_
  refine h_al_g C dX9_sealOf_5 rfl rfl rfv_r ?_
  refine h_ast_6 C dX9_sealOf_6 ct_n rfv_r ?_
  refine h_al_w (j := 0) C dX9_sealOf_8 rfl rfv_r ?_
  refine h_alen C dX9_sealOf_10 ⟨by omega, by omega⟩ hla ?_
  refine h_ist_7 C dX9_sealOf_11 ct_r ?_
  refine h_iconst (v := 0) C dX9_sealOf_13 (by decide) ?_
  refine h_ist_8 C dX9_sealOf_14 ct_i ?_
  exact lp_X9_sealOf (K := (K : Int)) (by rw [hk]; exact nI_toInt (by omega)) (by omega) hka hla hel hmx C E (Nat.le_refl _) (Nat.le_refl _) (Nat.le_refl _) (Nat.le_refl _) vs.length 0 0 1 _ _ (by omega) (by decide) (by decide) (by decide) (by decide) (fun v hv => ⟨v, rfl, rfl, hv⟩) _

end
