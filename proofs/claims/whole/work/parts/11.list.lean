section
theorem u2_eq {α : Type} {f : Nat → Nat → α} {i a : Nat} {v : α} : u2 f i a v i a = v := by unfold u2; rw [if_pos rfl, if_pos rfl]
theorem u2_ne {α : Type} {f : Nat → Nat → α} {i a j b : Nat} {v : α} (h : b ≠ a) : u2 f i a v j b = f j b := by
  unfold u2
  by_cases c : j = i
  · rw [if_pos c, if_neg h]
  · rw [if_neg c]
/-! frames by kinds: what is not of W stays; new things are of W -/
def FrK (W : Nat → Prop) (μ μ' : Mem) : Prop := ∀ q, (μ.kd q ≠ 0 → μ'.kd q = μ.kd q ∧ (¬ W (μ.kd q) → SameAt μ μ' q)) ∧ (μ.kd q = 0 → μ'.kd q = 0 ∨ W (μ'.kd q))
theorem SameAt.tr {μ1 μ2 μ3 : Mem} {q : Nat} (h : SameAt μ1 μ2 q) (g : SameAt μ2 μ3 q) : SameAt μ1 μ3 q := by
  obtain ⟨a1, a2, a3, a4, a5, a6, a7, a8⟩ := h
  obtain ⟨b1, b2, b3, b4, b5, b6, b7, b8⟩ := g
  exact ⟨b1.trans a1, fun f => (b2 f).trans (a2 f), fun f => (b3 f).trans (a3 f), fun f => (b4 f).trans (a4 f), b5.trans a5, b6.trans a6, b7.trans a7, b8.trans a8⟩
theorem FrK.rf {W : Nat → Prop} {μ : Mem} : FrK W μ μ := fun q => ⟨fun _ => ⟨rfl, fun _ => SameAt.rf⟩, fun h => Or.inl h⟩
theorem FrK.tr {W : Nat → Prop} {μ1 μ2 μ3 : Mem} (h : FrK W μ1 μ2) (g : FrK W μ2 μ3) : FrK W μ1 μ3 := by
  intro q
  refine ⟨fun h0 => ?_, fun h0 => ?_⟩
  · obtain ⟨e1, s1⟩ := (h q).1 h0
    obtain ⟨e2, s2⟩ := (g q).1 (by rw [e1]; exact h0)
    exact ⟨e2.trans e1, fun hw => (s1 hw).tr (s2 (by rw [e1]; exact hw))⟩
  · by_cases c : μ2.kd q = 0
    · exact (g q).2 c
    · rcases (h q).2 h0 with e | e
      · exact absurd e c
      · exact Or.inr (by rw [((g q).1 c).1]; exact e)
theorem FrK.mono {W W' : Nat → Prop} {μ μ' : Mem} (h : FrK W μ μ') (hw : ∀ k, W k → W' k) : FrK W' μ μ' := fun q => ⟨fun h0 => ⟨((h q).1 h0).1, fun hn => ((h q).1 h0).2 (fun c => hn (hw _ c))⟩, fun h0 => ((h q).2 h0).imp id (hw _)⟩
theorem FrK.at {W : Nat → Prop} {μ μ' : Mem} {a : Nat} (hs : ∀ q, q ≠ a → SameAt μ μ' q) (hk : μ'.kd a = μ.kd a) (hw : W (μ.kd a)) : FrK W μ μ' := by
  intro q
  by_cases e : q = a
  · subst e
    exact ⟨fun _ => ⟨hk, fun hn => absurd hw hn⟩, fun h0 => Or.inl (hk.trans h0)⟩
  · exact ⟨fun _ => ⟨(hs q e).1, fun _ => hs q e⟩, fun h0 => Or.inl ((hs q e).1.trans h0)⟩
theorem FrK.sfi {W : Nat → Prop} {μ : Mem} {f a : Nat} {v : Int32} (hw : W (μ.kd a)) : FrK W μ (μ.sfi f a v) := FrK.at (fun _ h => same_sfi h) rfl hw
theorem FrK.sfr {W : Nat → Prop} {μ : Mem} {f a : Nat} {v : Option Nat} (hw : W (μ.kd a)) : FrK W μ (μ.sfr f a v) := FrK.at (fun _ h => same_sfr h) rfl hw
theorem FrK.sfl {W : Nat → Prop} {μ : Mem} {f a : Nat} {v : Int64} (hw : W (μ.kd a)) : FrK W μ (μ.sfl f a v) := FrK.at (fun _ h => same_sfl h) rfl hw
theorem FrK.sei {W : Nat → Prop} {μ : Mem} {a i : Nat} {v : Int32} (hw : W (μ.kd a)) : FrK W μ (μ.sei a i v) := FrK.at (fun _ h => same_sei h) rfl hw
theorem FrK.ser {W : Nat → Prop} {μ : Mem} {a i : Nat} {v : Option Nat} (hw : W (μ.kd a)) : FrK W μ (μ.ser a i v) := FrK.at (fun _ h => same_ser h) rfl hw
theorem FrK.sel {W : Nat → Prop} {μ : Mem} {a i : Nat} {v : Int64} (hw : W (μ.kd a)) : FrK W μ (μ.sel a i v) := FrK.at (fun _ h => same_sel h) rfl hw
theorem FrK.cpy {W : Nat → Prop} {μ : Mem} {a0 a sp dp n : Nat} (hw : W (μ.kd a)) : FrK W μ (μ.cpy a0 a sp dp n) := FrK.at (fun _ h => same_cpy h) rfl hw
theorem same_newO {μ : Mem} {a kd q : Nat} (hq : q ≠ a) : SameAt μ (μ.newO a kd) q := by
  refine ⟨?_, fun f => ?_, fun f => ?_, fun f => ?_, rfl, rfl, rfl, rfl⟩
  · show u1 μ.kd _ _ q = _; unfold u1; rw [if_neg hq]
  · show ua μ.fi _ _ f q = _; unfold ua; rw [if_neg hq]
  · show ua μ.fr _ _ f q = _; unfold ua; rw [if_neg hq]
  · show ua μ.fl _ _ f q = _; unfold ua; rw [if_neg hq]
theorem kd_newO {μ : Mem} {a kd : Nat} : (μ.newO a kd).kd a = kd := by show u1 μ.kd _ _ _ = _; unfold u1; rw [if_pos rfl]
theorem kd_newA {μ : Mem} {a kd n : Nat} : (μ.newA a kd n).kd a = kd := by show u1 μ.kd _ _ _ = _; unfold u1; rw [if_pos rfl]
theorem ln_newA {μ : Mem} {a kd n : Nat} : (μ.newA a kd n).ln a = n := by show u1 μ.ln _ _ _ = _; unfold u1; rw [if_pos rfl]
theorem FrK.new {W : Nat → Prop} {μ μ' : Mem} {a : Nat} (hs : ∀ q, q ≠ a → SameAt μ μ' q) (h0 : μ.kd a = 0) (hw : W (μ'.kd a)) : FrK W μ μ' := by
  intro q
  by_cases e : q = a
  · subst e
    exact ⟨fun h => absurd h0 h, fun _ => Or.inr hw⟩
  · exact ⟨fun _ => ⟨(hs q e).1, fun _ => hs q e⟩, fun h0 => Or.inl ((hs q e).1.trans h0)⟩
theorem FrK.newO {W : Nat → Prop} {μ : Mem} {a kd : Nat} (h0 : μ.kd a = 0) (hw : W kd) : FrK W μ (μ.newO a kd) := FrK.new (fun _ h => same_newO h) h0 (by rw [kd_newO]; exact hw)
theorem FrK.newA {W : Nat → Prop} {μ : Mem} {a kd n : Nat} (h0 : μ.kd a = 0) (hw : W kd) : FrK W μ (μ.newA a kd n) := FrK.new (fun _ h => same_newA h) h0 (by rw [kd_newA]; exact hw)
/-- the kind of the arrays that list ρ makes -/
def LM (ρ : Nat) : Nat := 14 + 32 * (1000 + ρ)
theorem LM_m (ρ : Nat) : LM ρ % 32 = 14 := by unfold LM; omega
def LW (μ : Mem) (ρ : Nat) (k : Nat) : Prop := k = μ.kd ρ ∨ k = LM ρ
/-- list ρ holds xs -/
def ListAt (G : Gx) (μ : Mem) (ρ : Nat) (xs : List Nat) : Prop :=
  μ.kd ρ % 32 = 1 ∧ xs.length ≤ 600 ∧ μ.fi 2 ρ = nI xs.length ∧ (∀ x ∈ xs, μ.kd x % 32 = 4 ∨ μ.kd x % 32 = 6 ∨ μ.kd x % 32 = 7) ∧
  ∃ a, μ.fr 1 ρ = some a ∧ ((xs = [] ∧ a = G.2.2.1) ∨ (μ.kd a = LM ρ ∧ xs.length ≤ μ.ln a ∧ 0 < μ.ln a ∧ μ.ln a ≤ 1000 ∧ ∀ i x, xs[i]? = some x → μ.er a i = some x))
theorem ListAt.kept {G : Gx} {μ μ' : Mem} {ρ : Nat} {xs : List Nat} {W : Nat → Prop} (h : ListAt G μ ρ xs) (hf : FrK W μ μ') (h1 : ¬ W (μ.kd ρ)) (h2 : ¬ W (LM ρ)) : ListAt G μ' ρ xs := by
  obtain ⟨a1, a2, a3, a4, a, b1, b2⟩ := h
  have f1 := (hf ρ).1 (by omega)
  obtain ⟨s1, s2, s3, s4, s5, s6, s7, s8⟩ := f1.2 h1
  refine ⟨by rw [s1]; exact a1, a2, by rw [s2]; exact a3, fun x hx => ?_, a, by rw [s3]; exact b1, ?_⟩
  · have h9 := a4 x hx
    rw [((hf x).1 (by omega)).1]
    exact h9
  rcases b2 with b2 | ⟨b2, b3, b4, b5, b6⟩
  · exact Or.inl b2
  · have hne : μ.kd a ≠ 0 := by rw [b2]; unfold LM; omega
    obtain ⟨t1, t2, t3, t4, t5, t6, t7, t8⟩ := ((hf a).1 hne).2 (by rw [b2]; exact h2)
    exact Or.inr ⟨by rw [t1]; exact b2, by rw [t5]; exact b3, by rw [t5]; exact b4, by rw [t5]; exact b5, fun i x hi => by rw [t7]; exact b6 i x hi⟩

theorem pf_Jxc12de_7 {Z : Zx} {cc : ByteArray} {rf rc rs rl k n pc : Nat} {L : List (Option Value)} {st : List Value} {μ : Mem} {a : Nat} {v : Int32} (C : Cx Z RJxc12de cc rf rc rs rl) (d : decode cc pc = .ok (.putfield 7, 3)) (hk : μ.kd a % 32 = 1) (kk : HW Z k n (pc + 3) L st (μ.sfi 0 a v)) : HW Z k n pc L (.int v :: .ref a :: st) μ := h_putfI (ci := 0) (T := TJx4a65c) (ref := "java/util/AbstractList") C lin_Jx4a65c tyJx4a65c_ok nmJx4a65c rfl (by decide) (j := 0) (by decide) (lg_1 54 (by decide +kernel) (by decide +kernel)) (Or.inl rfl) (Or.inl rfl) (ty := .int) (by decide +kernel) (by decide) rfl rfl d hk kk
set_option maxRecDepth 100000 in
set_option maxHeartbeats 4000000 in
theorem k_J3_checkIndex_8e157 (l : Launch) (G : Gx) (x y : Int32) (i N : Nat) (hx : x = nI i) (hy : y = nI N) (hi : i < N) (hN : N < 2 ^ 31) (μ : Mem) : Kon l yJ3_checkIndex_8e157 cJ3_checkIndex_8e157 3 (some .int) 0 0 0 0 G [.int x, .int y, .null] μ (pI fun r μ' => μ = μ' ∧ r = x) noX := by
  refine Kon.ofG (by decide +kernel) (Nat.le_of_ble_eq_true rfl) (Nat.le_of_ble_eq_true rfl) (fun Z hZG C E NT MT => ?_)
  subst hZG
  have C : Cx Z RJ3 cJ3_checkIndex_8e157 0 0 0 0 := C
  show HW Z 0 0 0 [some (.int x), some (.int y), some (.null)] [] μ
  subst hx
  subst hy
  refine h_iload_g C dJ3_checkIndex_8e157_0 rfl rfl ?_
  refine h_if_lt (tgt := 9) C dJ3_checkIndex_8e157_1 (by decide) (fun c1 => absurd c1 ((nI_pos (by omega)))) (fun c1 => ?_)
  refine h_iload_g C dJ3_checkIndex_8e157_4 rfl rfl ?_
  refine h_iload_g C dJ3_checkIndex_8e157_5 rfl rfl ?_
  refine h_icmp_lt (tgt := 16) C dJ3_checkIndex_8e157_6 (by decide) (fun c2 => ?_) (fun c2 => absurd ((nI_lt hi hN)) c2)
  refine h_iload_g C dJ3_checkIndex_8e157_16 rfl rfl ?_
  refine h_iret C E dJ3_checkIndex_8e157_17 (by decide) (by decide) ?_
  exact ⟨_, rfl, rfl, rfl⟩

set_option maxRecDepth 100000 in
set_option maxHeartbeats 4000000 in
theorem k_J15_checkIndex_7cf53 (l : Launch) (G : Gx) (x y : Int32) (i N : Nat) (hx : x = nI i) (hy : y = nI N) (hi : i < N) (hN : N < 2 ^ 31) (μ : Mem) : Kon l yJ15_checkIndex_7cf53 cJ15_checkIndex_7cf53 2 (some .int) 1 0 0 22 G [.int x, .int y] μ (pI fun r μ' => μ = μ' ∧ r = x) noX := by
  refine Kon.ofG (by decide +kernel) (Nat.le_of_ble_eq_true rfl) (Nat.le_of_ble_eq_true rfl) (fun Z hZG C E NT MT => ?_)
  subst hZG
  have C : Cx Z RJ15 cJ15_checkIndex_7cf53 1 0 0 22 := C
  show HW Z 0 0 0 [some (.int x), some (.int y)] [] μ
  refine h_iload_g C dJ15_checkIndex_7cf53_0 rfl rfl ?_
  refine h_iload_g C dJ15_checkIndex_7cf53_1 rfl rfl ?_
  refine h_null C dJ15_checkIndex_7cf53_2 ?_
  refine h_callS3 C (k_J3_checkIndex_8e157 Z.l Z.G _ _ i N hx hy hi hN μ) cw_J15_105 st_J3_checkIndex_8e157 dJ15_checkIndex_7cf53_3 (by first | decide | exact Nat.le_of_ble_eq_true rfl) (by decide) (by decide) (by decide) (by decide) (kI fun r3 μ2 hp1 => ?_) kN
  obtain ⟨rfl, rfl⟩ := hp1
  refine h_iret C E dJ15_checkIndex_7cf53_6 (by decide) (by decide) ?_
  exact ⟨_, rfl, rfl, rfl⟩

set_option maxRecDepth 100000 in
set_option maxHeartbeats 4000000 in
theorem k_Jxa1e45_init_da8c8 (l : Launch) (G : Gx) (a : Nat) (μ : Mem) : Kon l yJxa1e45_init_da8c8 cJxa1e45_init_da8c8 1 none 1 0 0 12 G [.ref a] μ (pV fun μ' => μ = μ') noX := by
  refine Kon.ofG (by decide +kernel) (Nat.le_of_ble_eq_true rfl) (Nat.le_of_ble_eq_true rfl) (fun Z hZG C E NT MT => ?_)
  subst hZG
  have C : Cx Z RJxa1e45 cJxa1e45_init_da8c8 1 0 0 12 := C
  show HW Z 0 0 0 [some (.ref a)] [] μ
  refine h_al_g C dJxa1e45_init_da8c8_0 rfl rfl rfv_r ?_
  refine h_objInit C ol_Jxa1e45_1 im_obj cd_obj dJxa1e45_init_da8c8_1 (by decide) (by decide) ?_
  refine h_ret C E dJxa1e45_init_da8c8_4 (by decide) (by decide) ?_
  exact ⟨rfl, rfl⟩

set_option maxRecDepth 100000 in
set_option maxHeartbeats 4000000 in
theorem k_Jxc12de_init_da8c8 (l : Launch) (G : Gx) (a : Nat) (μ : Mem) (hk : μ.kd a % 32 = 1) : Kon l yJxc12de_init_da8c8 cJxc12de_init_da8c8 1 none 2 0 0 32 G [.ref a] μ (pV fun μ' => μ' = μ.sfi 0 a 0) noX := by
  refine Kon.ofG (by decide +kernel) (Nat.le_of_ble_eq_true rfl) (Nat.le_of_ble_eq_true rfl) (fun Z hZG C E NT MT => ?_)
  subst hZG
  have C : Cx Z RJxc12de cJxc12de_init_da8c8 2 0 0 32 := C
  show HW Z 0 0 0 [some (.ref a)] [] μ
  refine h_al_g C dJxc12de_init_da8c8_0 rfl rfl rfv_r ?_
  refine h_callI0 (a_ := .null) C (k_Jxa1e45_init_da8c8 Z.l Z.G a μ) cw_Jxc12de_1 im_Jxa1e45_init_da8c8 rfl dJxc12de_init_da8c8_1 (by first | decide | exact Nat.le_of_ble_eq_true rfl) (by decide) (by decide) (by decide) (by decide) (kV fun μ2 hp1 => ?_) kN
  obtain rfl := hp1
  refine h_al_g C dJxc12de_init_da8c8_4 rfl rfl rfv_r ?_
  refine h_iconst (v := 0) C dJxc12de_init_da8c8_5 (by decide) ?_
  refine pf_Jxc12de_7 C dJxc12de_init_da8c8_6 (by assumption) ?_
  refine h_ret C E dJxc12de_init_da8c8_9 (by decide) (by decide) ?_
  exact ⟨rfl, rfl⟩

set_option maxRecDepth 100000 in
set_option maxHeartbeats 4000000 in
theorem k_Jx4a65c_init_da8c8 (l : Launch) (G : Gx) (a : Nat) (μ : Mem) (hk : μ.kd a % 32 = 1) : Kon l yJx4a65c_init_da8c8 cJx4a65c_init_da8c8 1 none 3 0 0 52 G [.ref a] μ (pV fun μ' => μ' = (μ.sfi 0 a 0).sfr 1 a (some G.2.2.1)) noX := by
  refine Kon.ofG (by decide +kernel) (Nat.le_of_ble_eq_true rfl) (Nat.le_of_ble_eq_true rfl) (fun Z hZG C E NT MT => ?_)
  subst hZG
  have C : Cx Z RJx4a65c cJx4a65c_init_da8c8 3 0 0 52 := C
  show HW Z 0 0 0 [some (.ref a)] [] μ
  refine h_al_g C dJx4a65c_init_da8c8_0 rfl rfl rfv_r ?_
  refine h_callI0 (a_ := .null) C (k_Jxc12de_init_da8c8 Z.l Z.G a μ hk) cw_Jx4a65c_1 im_Jxc12de_init_da8c8 rfl dJx4a65c_init_da8c8_1 (by first | decide | exact Nat.le_of_ble_eq_true rfl) (by decide) (by decide) (by decide) (by decide) (kV fun μ2 hp1 => ?_) kN
  obtain rfl := hp1
  refine h_al_g C dJx4a65c_init_da8c8_4 rfl rfl rfv_r ?_
  refine h_getsE C dJx4a65c_init_da8c8_5 ?_
  refine pf_Jx4a65c_9 (some _) C dJx4a65c_init_da8c8_8 hk rfl ?_
  refine h_ret C E dJx4a65c_init_da8c8_11 (by decide) (by decide) ?_
  exact ⟨rfl, rfl⟩

set_option maxRecDepth 100000 in
set_option maxHeartbeats 4000000 in
theorem k_Jx4a65c_size_8abf5 (l : Launch) (G : Gx) (ρ : Nat) (xs : List Nat) (μ : Mem) (hl : ListAt G μ ρ xs) : Kon l yJx4a65c_size_8abf5 cJx4a65c_size_8abf5 1 (some .int) 0 0 0 0 G [.ref ρ] μ (pI fun r μ' => μ = μ' ∧ r = nI xs.length) noX := by
  refine Kon.ofG (by decide +kernel) (Nat.le_of_ble_eq_true rfl) (Nat.le_of_ble_eq_true rfl) (fun Z hZG C E NT MT => ?_)
  subst hZG
  have C : Cx Z RJx4a65c cJx4a65c_size_8abf5 0 0 0 0 := C
  show HW Z 0 0 0 [some (.ref ρ)] [] μ
  obtain ⟨hk, hlen, hsz, hel, a, ha, hcase⟩ := hl
  refine h_al_g C dJx4a65c_size_8abf5_0 rfl rfl rfv_r ?_
  refine gf_Jx4a65c_48 C dJx4a65c_size_8abf5_1 hk hsz ?_
  refine h_iret C E dJx4a65c_size_8abf5_4 (by decide) (by decide) ?_
  exact ⟨_, rfl, rfl, rfl⟩

set_option maxRecDepth 100000 in
set_option maxHeartbeats 4000000 in
theorem k_Jx4a65c_isEmpty_aae02 (l : Launch) (G : Gx) (ρ : Nat) (xs : List Nat) (μ : Mem) (hl : ListAt G μ ρ xs) : Kon l yJx4a65c_isEmpty_aae02 cJx4a65c_isEmpty_aae02 1 (some .boolean) 0 0 0 0 G [.ref ρ] μ (pI fun r μ' => μ = μ' ∧ r = if xs.length = 0 then 1 else 0) noX := by
  refine Kon.ofG (by decide +kernel) (Nat.le_of_ble_eq_true rfl) (Nat.le_of_ble_eq_true rfl) (fun Z hZG C E NT MT => ?_)
  subst hZG
  have C : Cx Z RJx4a65c cJx4a65c_isEmpty_aae02 0 0 0 0 := C
  show HW Z 0 0 0 [some (.ref ρ)] [] μ
  obtain ⟨hk, hlen, hsz, hel, a, ha, hcase⟩ := hl
  refine h_al_g C dJx4a65c_isEmpty_aae02_0 rfl rfl rfv_r ?_
  refine gf_Jx4a65c_48 C dJx4a65c_isEmpty_aae02_1 hk hsz ?_
  refine h_if_ne (tgt := 11) C dJx4a65c_isEmpty_aae02_4 (by decide) (fun c1 => ?_) (fun c1 => ?_)
  · have c9 : ¬ xs.length = 0 := fun h => c1 (by rw [h]; rfl)
    refine h_iconst (v := 0) C dJx4a65c_isEmpty_aae02_11 (by decide) ?_
    refine h_zret C E dJx4a65c_isEmpty_aae02_12 (by decide) (by decide) (by exact Or.inl rfl) ?_
    exact ⟨_, rfl, rfl, by rw [if_neg c9]⟩
  · have c9 : xs.length = 0 := Decidable.byContradiction fun h => nI_ne0 (n := xs.length) (by omega) (by omega) c1
    refine h_iconst (v := 1) C dJx4a65c_isEmpty_aae02_7 (by decide) ?_
    refine h_goto (tgt := 12) C dJx4a65c_isEmpty_aae02_8 (by decide) ?_
    refine h_zret C E dJx4a65c_isEmpty_aae02_12 (by decide) (by decide) (by exact Or.inr rfl) ?_
    exact ⟨_, rfl, rfl, by rw [if_pos c9]⟩

set_option maxRecDepth 100000 in
set_option maxHeartbeats 4000000 in
theorem k_Jx4a65c_elementData_915e3 (l : Launch) (G : Gx) (ρ a : Nat) (x : Int32) (i y : Nat) (μ : Mem) (hk : μ.kd ρ % 32 = 1) (ha : μ.fr 1 ρ = some a) (hka : μ.kd a % 32 = 14) (hx : x = nI i) (hi : i < μ.ln a) (hl : μ.ln a < 2 ^ 31) (hy : μ.er a i = some y) : Kon l yJx4a65c_elementData_915e3 cJx4a65c_elementData_915e3 2 (some (.object "java/lang/Object")) 0 0 0 0 G [.ref ρ, .int x] μ (pA fun r μ' => μ = μ' ∧ r = y) noX := by
  refine Kon.ofG (by decide +kernel) (Nat.le_of_ble_eq_true rfl) (Nat.le_of_ble_eq_true rfl) (fun Z hZG C E NT MT => ?_)
  subst hZG
  have C : Cx Z RJx4a65c cJx4a65c_elementData_915e3 0 0 0 0 := C
  show HW Z 0 0 0 [some (.ref ρ), some (.int x)] [] μ
  subst hx
  refine h_al_g C dJx4a65c_elementData_915e3_0 rfl rfl rfv_r ?_
  refine gs_Jx4a65c_9 C dJx4a65c_elementData_915e3_1 hk ha ?_
  refine h_iload_g C dJx4a65c_elementData_915e3_4 rfl rfl ?_
  refine h_aald (r := some _) C dJx4a65c_elementData_915e3_5 ⟨by omega, by omega⟩ (vp_in_nI hi hl) (by rw [nI_clamp (by omega)]; exact hy) ?_
  refine h_aret (r := (some _)) C E (by first | exact Or.inl ⟨_, rfl⟩ | exact Or.inr ⟨_, rfl⟩) dJx4a65c_elementData_915e3_6 (by decide) (by decide) ?_
  exact ⟨_, rfl, rfl, rfl⟩

set_option maxRecDepth 100000 in
set_option maxHeartbeats 4000000 in
theorem k_Jx4a65c_get_915e3 (l : Launch) (G : Gx) (ρ : Nat) (xs : List Nat) (x : Int32) (i y : Nat) (μ : Mem) (hl : ListAt G μ ρ xs) (hx : x = nI i) (hi : xs[i]? = some y) : Kon l yJx4a65c_get_915e3 cJx4a65c_get_915e3 2 (some (.object "java/lang/Object")) 2 0 0 43 G [.ref ρ, .int x] μ (pA fun r μ' => μ = μ' ∧ r = y) noX := by
  refine Kon.ofG (by decide +kernel) (Nat.le_of_ble_eq_true rfl) (Nat.le_of_ble_eq_true rfl) (fun Z hZG C E NT MT => ?_)
  subst hZG
  have C : Cx Z RJx4a65c cJx4a65c_get_915e3 2 0 0 43 := C
  show HW Z 0 0 0 [some (.ref ρ), some (.int x)] [] μ
  obtain ⟨hk, hlen, hsz, hel, a, ha, hcase⟩ := hl
  have hil : i < xs.length := (List.getElem?_eq_some_iff.mp hi).1
  rcases hcase with ⟨he, _⟩ | ⟨hka, hn1, hn2, hn3, her⟩
  · rw [he] at hil; exact absurd hil (Nat.not_lt_zero _)
  refine h_iload_g C dJx4a65c_get_915e3_0 rfl rfl ?_
  refine h_al_g C dJx4a65c_get_915e3_1 rfl rfl rfv_r ?_
  refine gf_Jx4a65c_48 C dJx4a65c_get_915e3_2 hk hsz ?_
  refine h_callS2 C (k_J15_checkIndex_7cf53 Z.l Z.G _ _ i xs.length hx rfl hil (by omega) μ) cw_Jx4a65c_118 st_J15_checkIndex_7cf53 dJx4a65c_get_915e3_5 (by first | decide | exact Nat.le_of_ble_eq_true rfl) (by decide) (by decide) (by decide) (by decide) (kI fun r3 μ2 hp1 => ?_) kN
  obtain ⟨rfl, _⟩ := hp1
  refine h_pop C dJx4a65c_get_915e3_8 rfl ?_
  refine h_al_g C dJx4a65c_get_915e3_9 rfl rfl rfv_r ?_
  refine h_iload_g C dJx4a65c_get_915e3_10 rfl rfl ?_
  refine h_callV1 (ci := 0) C (k_Jx4a65c_elementData_915e3 Z.l Z.G ρ a x i y μ hk ha (by rw [hka]; exact LM_m ρ) hx (by omega) (by omega) (her i y hi)) cw_Jx4a65c_123 im_Jx4a65c_elementData_915e3 sl_Jx4a65c_elementData_915e3 rfl (by decide) hk dJx4a65c_get_915e3_11 (by first | decide | exact Nat.le_of_ble_eq_true rfl) (by decide) (by decide) (by decide) (by decide) (kA fun r6 μ5 hp4 => ?_) kN
  obtain ⟨rfl, rfl⟩ := hp4
  refine h_aret (r := (some _)) C E (by first | exact Or.inl ⟨_, rfl⟩ | exact Or.inr ⟨_, rfl⟩) dJx4a65c_get_915e3_14 (by decide) (by decide) ?_
  exact ⟨_, rfl, rfl, rfl⟩

theorem er_cpy {μ : Mem} {a0 a sp dp n b j : Nat} : (μ.cpy a0 a sp dp n).er b j = if b = a then va_cpy (μ.er a0) (μ.er a) sp dp n j else μ.er b j := rfl
theorem er_ser {μ : Mem} {a i b j : Nat} {v : Option Nat} : (μ.ser a i v).er b j = if b = a then (if j = i then v else μ.er b j) else μ.er b j := rfl
theorem eraseIdx_get {xs : List Nat} {i j : Nat} : (xs.eraseIdx i)[j]? = if j < i then xs[j]? else xs[j + 1]? := List.getElem?_eraseIdx

theorem nI_nle9 {i m : Nat} (h : i < m) (hm : m < 2 ^ 31) : ¬ nI m ≤ nI i := nI_ge h hm
theorem nI_lt9 {i m : Nat} (h : ¬ nI m ≤ nI i) (hi : i < 2 ^ 31) (hm : m < 2 ^ 31) : i < m := Decidable.byContradiction fun c => h (nI_le (by omega) hi)
set_option maxRecDepth 100000 in
set_option maxHeartbeats 4000000 in
theorem k_Jx4a65c_fastRemove_b59b0 (l : Launch) (G : Gx) (ρ a : Nat) (xs : List Nat) (x : Int32) (i : Nat) (μ : Mem) (hl : ListAt G μ ρ xs) (ha9 : μ.fr 1 ρ = some a) (hx : x = nI i) (hil : i < xs.length) : Kon l yJx4a65c_fastRemove_b59b0 cJx4a65c_fastRemove_b59b0 4 none 1 0 0 24 G [.ref ρ, .ref a, .int x] μ (pV fun μ' => ListAt G μ' ρ (xs.eraseIdx i) ∧ FrK (LW μ ρ) μ μ') noX := by
  refine Kon.ofG (by decide +kernel) (Nat.le_of_ble_eq_true rfl) (Nat.le_of_ble_eq_true rfl) (fun Z hZG C E NT MT => ?_)
  subst hZG
  have C : Cx Z RJx4a65c cJx4a65c_fastRemove_b59b0 1 0 0 24 := C
  show HW Z 0 0 0 [some (.ref ρ), some (.ref a), some (.int x), none] [] μ
  obtain ⟨hk, hlen, hsz, hel, a', ha, hcase⟩ := hl
  cases ha9.symm.trans ha
  subst hx
  rcases hcase with ⟨he, _⟩ | ⟨hka, hn1, hn2, hn3, her⟩
  · rw [he] at hil; exact absurd hil (Nat.not_lt_zero _)
  obtain ⟨m, hm⟩ : ∃ m, xs.length = m + 1 := ⟨xs.length - 1, by omega⟩
  have hka2 : μ.kd a % 32 = 14 := by rw [hka]; exact LM_m ρ
  have haρ : a ≠ ρ := fun h => by rw [h] at hka2; omega
  refine h_al_g C dJx4a65c_fastRemove_b59b0_0 rfl rfl rfv_r ?_
  refine h_dup C dJx4a65c_fastRemove_b59b0_1 rfl ?_
  refine gf_Jx4a65c_63 C dJx4a65c_fastRemove_b59b0_2 hk rfl ?_
  refine h_iconst (v := 1) C dJx4a65c_fastRemove_b59b0_5 (by decide) ?_
  refine h_iadd C dJx4a65c_fastRemove_b59b0_6 ?_
  refine pf_Jx4a65c_63 C dJx4a65c_fastRemove_b59b0_7 hk ?_
  refine h_al_g C dJx4a65c_fastRemove_b59b0_10 rfl rfl rfv_r ?_
  refine gf_Jx4a65c_48 C dJx4a65c_fastRemove_b59b0_11 hk hsz ?_
  refine h_iconst (v := 1) C dJx4a65c_fastRemove_b59b0_14 (by decide) ?_
  refine h_isub C dJx4a65c_fastRemove_b59b0_15 ?_
  rw [hm, nI_pred]
  refine h_dup C dJx4a65c_fastRemove_b59b0_16 rfl ?_
  refine h_ist_3 C dJx4a65c_fastRemove_b59b0_17 ct_i ?_
  refine h_iload_g C dJx4a65c_fastRemove_b59b0_18 rfl rfl ?_
  refine h_icmp_le (tgt := 34) C dJx4a65c_fastRemove_b59b0_19 (by decide) (fun c1 => ?_) (fun c1 => ?_)
  · have c9 : ¬ i < m := fun h => absurd c1 (nI_nle9 h (by omega))
    refine h_al_g C dJx4a65c_fastRemove_b59b0_34 rfl rfl rfv_r ?_
    refine h_al_g C dJx4a65c_fastRemove_b59b0_35 rfl rfl rfv_r ?_
    refine h_iload_g C dJx4a65c_fastRemove_b59b0_36 rfl rfl ?_
    refine h_dup_x1 C dJx4a65c_fastRemove_b59b0_37 rfl rfl ?_
    refine pf_Jx4a65c_48 C dJx4a65c_fastRemove_b59b0_38 hk ?_
    refine h_null C dJx4a65c_fastRemove_b59b0_41 ?_
    refine h_aastN C dJx4a65c_fastRemove_b59b0_42 hka2 (vp_in_nI (by show m < μ.ln a; omega) (by show μ.ln a < _; omega)) ?_
    refine h_ret C E dJx4a65c_fastRemove_b59b0_43 (by decide) (by decide) ?_
    refine ⟨rfl, ?_, ?_⟩
    · have hm : ∀ y ∈ xs.eraseIdx i, y ∈ xs := fun y hy => List.mem_of_mem_eraseIdx hy
      have hle : (xs.eraseIdx i).length = m := by rw [List.length_eraseIdx, if_pos hil]; omega
      refine ⟨hk, by omega, ?_, fun y hy => hel y (hm y hy), a, ha, Or.inr ⟨hka, ?_, hn2, hn3, fun j y hj => ?_⟩⟩
      · rw [hle]; show u2 _ 2 ρ _ 2 ρ = _; exact u2_eq
      · rw [hle]; show m ≤ μ.ln a; omega
      · have hj9 : j < m := by have := (List.getElem?_eq_some_iff.mp hj).1; omega
        rw [eraseIdx_get] at hj
        rw [if_pos (by omega)] at hj
        show (if a = a then (if j = (nI m).toNatClampNeg then none else μ.er a j) else μ.er a j) = _
        rw [if_pos rfl, nI_clamp (by omega), if_neg (by omega)]
        exact her j y hj
    · exact ((FrK.sfi (Or.inl rfl)).tr (FrK.sfi (Or.inl rfl))).tr (FrK.ser (Or.inr hka))
  · have c9 : i < m := nI_lt9 c1 (by omega) (by omega)
    refine h_al_g C dJx4a65c_fastRemove_b59b0_22 rfl rfl rfv_r ?_
    refine h_iload_g C dJx4a65c_fastRemove_b59b0_23 rfl rfl ?_
    refine h_iconst (v := 1) C dJx4a65c_fastRemove_b59b0_24 (by decide) ?_
    refine h_iadd C dJx4a65c_fastRemove_b59b0_25 ?_
    refine h_al_g C dJx4a65c_fastRemove_b59b0_26 rfl rfl rfv_r ?_
    refine h_iload_g C dJx4a65c_fastRemove_b59b0_27 rfl rfl ?_
    refine h_iload_g C dJx4a65c_fastRemove_b59b0_28 rfl rfl ?_
    refine h_iload_g C dJx4a65c_fastRemove_b59b0_29 rfl rfl ?_
    refine h_isub C dJx4a65c_fastRemove_b59b0_30 ?_
    refine h_copy C lk_cpL dJx4a65c_fastRemove_b59b0_31 hka2 hka2 (by rw [nI_1]; exact nI_pos (by omega)) (nI_pos (by omega)) (by rw [pk_sub (by omega)]; exact nI_pos (by omega)) (by rw [nI_1, pk_sub (by omega), nI_clamp (by omega), nI_clamp (by omega)]; show _ ≤ μ.ln a; omega) (by rw [pk_sub (by omega), nI_clamp (by omega), nI_clamp (by omega)]; show _ ≤ μ.ln a; omega) (fun j hj y hy => by
      rw [pk_sub (by omega), nI_clamp (by omega)] at hj
      rw [nI_1, nI_clamp (by omega)] at hy
      have h8 : xs[i + 1 + j]? = some xs[i + 1 + j] := List.getElem?_eq_getElem (by omega)
      have h9 := her _ _ h8
      cases hy.symm.trans h9
      exact hel _ (List.getElem_mem _)) (by decide) (by first | decide | exact Nat.le_of_ble_eq_true rfl) ?_
    refine h_al_g C dJx4a65c_fastRemove_b59b0_34 rfl rfl rfv_r ?_
    refine h_al_g C dJx4a65c_fastRemove_b59b0_35 rfl rfl rfv_r ?_
    refine h_iload_g C dJx4a65c_fastRemove_b59b0_36 rfl rfl ?_
    refine h_dup_x1 C dJx4a65c_fastRemove_b59b0_37 rfl rfl ?_
    refine pf_Jx4a65c_48 C dJx4a65c_fastRemove_b59b0_38 hk ?_
    refine h_null C dJx4a65c_fastRemove_b59b0_41 ?_
    refine h_aastN C dJx4a65c_fastRemove_b59b0_42 hka2 (vp_in_nI (by show m < μ.ln a; omega) (by show μ.ln a < _; omega)) ?_
    refine h_ret C E dJx4a65c_fastRemove_b59b0_43 (by decide) (by decide) ?_
    refine ⟨rfl, ?_, ?_⟩
    · have hm : ∀ y ∈ xs.eraseIdx i, y ∈ xs := fun y hy => List.mem_of_mem_eraseIdx hy
      have hle : (xs.eraseIdx i).length = m := by rw [List.length_eraseIdx, if_pos hil]; omega
      refine ⟨hk, by omega, ?_, fun y hy => hel y (hm y hy), a, ha, Or.inr ⟨hka, ?_, hn2, hn3, fun j y hj => ?_⟩⟩
      · rw [hle]; show u2 _ 2 ρ _ 2 ρ = _; exact u2_eq
      · rw [hle]; show m ≤ μ.ln a; omega
      · have hj9 : j < m := by have := (List.getElem?_eq_some_iff.mp hj).1; omega
        rw [eraseIdx_get] at hj
        show (if a = a then (if j = (nI m).toNatClampNeg then none else (if a = a then va_cpy (μ.er a) (μ.er a) (nI i + 1).toNatClampNeg (nI i).toNatClampNeg (nI m - nI i).toNatClampNeg j else μ.er a j)) else _) = _
        rw [if_pos rfl, nI_clamp (by omega), if_neg (by omega), if_pos rfl, nI_1, pk_sub (by omega), nI_clamp (by omega), nI_clamp (by omega), nI_clamp (by omega)]
        by_cases c : j < i
        · rw [if_pos c] at hj
          rw [pk_cpy_out (Or.inl c)]
          exact her j y hj
        · rw [if_neg c] at hj
          rw [pk_cpy_in (by omega) (by omega), show i + 1 + (j - i) = j + 1 by omega]
          exact her _ y hj
    · exact (((FrK.sfi (Or.inl rfl)).tr (FrK.cpy (Or.inr hka))).tr (FrK.sfi (Or.inl rfl))).tr (FrK.ser (Or.inr hka))

set_option maxRecDepth 100000 in
set_option maxHeartbeats 4000000 in
theorem k_Jx4a65c_remove_915e3 (l : Launch) (G : Gx) (ρ : Nat) (xs : List Nat) (x : Int32) (i y : Nat) (μ : Mem) (hl : ListAt G μ ρ xs) (hx : x = nI i) (hi : xs[i]? = some y) : Kon l yJx4a65c_remove_915e3 cJx4a65c_remove_915e3 4 (some (.object "java/lang/Object")) 2 0 0 47 G [.ref ρ, .int x] μ (pA fun r μ' => r = y ∧ ListAt G μ' ρ (xs.eraseIdx i) ∧ FrK (LW μ ρ) μ μ') noX := by
  refine Kon.ofG (by decide +kernel) (Nat.le_of_ble_eq_true rfl) (Nat.le_of_ble_eq_true rfl) (fun Z hZG C E NT MT => ?_)
  subst hZG
  have C : Cx Z RJx4a65c cJx4a65c_remove_915e3 2 0 0 47 := C
  show HW Z 0 0 0 [some (.ref ρ), some (.int x), none, none] [] μ
  have hl9 := hl
  obtain ⟨hk, hlen, hsz, hel, a, ha, hcase⟩ := hl
  have hil : i < xs.length := (List.getElem?_eq_some_iff.mp hi).1
  rcases hcase with ⟨he, _⟩ | ⟨hka, hn1, hn2, hn3, her⟩
  · rw [he] at hil; exact absurd hil (Nat.not_lt_zero _)
  refine h_iload_g C dJx4a65c_remove_915e3_0 rfl rfl ?_
  refine h_al_g C dJx4a65c_remove_915e3_1 rfl rfl rfv_r ?_
  refine gf_Jx4a65c_48 C dJx4a65c_remove_915e3_2 hk hsz ?_
  refine h_callS2 C (k_J15_checkIndex_7cf53 Z.l Z.G _ _ i xs.length hx rfl hil (by omega) μ) cw_Jx4a65c_118 st_J15_checkIndex_7cf53 dJx4a65c_remove_915e3_5 (by first | decide | exact Nat.le_of_ble_eq_true rfl) (by decide) (by decide) (by decide) (by decide) (kI fun r3 μ2 hp1 => ?_) kN
  obtain ⟨rfl, _⟩ := hp1
  refine h_pop C dJx4a65c_remove_915e3_8 rfl ?_
  refine h_al_g C dJx4a65c_remove_915e3_9 rfl rfl rfv_r ?_
  refine gs_Jx4a65c_9 C dJx4a65c_remove_915e3_10 hk ha ?_
  refine h_ast_2 C dJx4a65c_remove_915e3_13 ct_i rfv_r ?_
  refine h_al_g C dJx4a65c_remove_915e3_14 rfl rfl rfv_r ?_
  refine h_iload_g C dJx4a65c_remove_915e3_15 rfl rfl ?_
  refine h_aald (r := some _) C dJx4a65c_remove_915e3_16 ⟨by rw [hka, LM_m]; decide, by rw [hka, LM_m]; decide⟩ (by rw [hx]; exact vp_in_nI (by omega) (by omega)) (by rw [hx, nI_clamp (by omega)]; exact her i y hi) ?_
  refine h_ast_3 C dJx4a65c_remove_915e3_17 ct_r rfv_r ?_
  refine h_al_g C dJx4a65c_remove_915e3_18 rfl rfl rfv_r ?_
  refine h_al_g C dJx4a65c_remove_915e3_19 rfl rfl rfv_r ?_
  refine h_iload_g C dJx4a65c_remove_915e3_20 rfl rfl ?_
  refine h_callV2 (ci := 0) C (k_Jx4a65c_fastRemove_b59b0 Z.l Z.G ρ a xs x i μ hl9 ha hx hil) cw_Jx4a65c_144 im_Jx4a65c_fastRemove_b59b0 sl_Jx4a65c_fastRemove_b59b0 rfl (by decide) hk dJx4a65c_remove_915e3_21 (by first | decide | exact Nat.le_of_ble_eq_true rfl) (by decide) (by decide) (by decide) (by decide) (kV fun μ5 hp4 => ?_) kN
  obtain ⟨hp8, hp9⟩ := hp4
  refine h_al_g C dJx4a65c_remove_915e3_24 rfl rfl rfv_r ?_
  refine h_aret (r := (some _)) C E (by first | exact Or.inl ⟨_, rfl⟩ | exact Or.inr ⟨_, rfl⟩) dJx4a65c_remove_915e3_25 (by decide) (by decide) ?_
  exact ⟨_, rfl, rfl, hp8, hp9⟩

theorem nI_ge9 {a : Nat} (h : a ≤ 5000) : ¬ nI a > 2147483639 := fun c => nI_nlt (a := 2147483639) (b := a) (by omega) (by decide) c
set_option maxRecDepth 100000 in
set_option maxHeartbeats 4000000 in
theorem k_J8_newLength_cabcc (l : Launch) (G : Gx) (x y z : Int32) (o m p : Nat) (hx : x = nI o) (hy : y = nI m) (hz : z = nI p) (ho : o ≤ 1000) (hm : 0 < m) (hm2 : m ≤ 1000) (hp : p ≤ 1000) (μ : Mem) : Kon l yJ8_newLength_cabcc cJ8_newLength_cabcc 4 (some .int) 1 0 0 21 G [.int x, .int y, .int z] μ (pI fun r μ' => μ = μ' ∧ r = nI (o + max m p)) noX := by
  refine Kon.ofG (by decide +kernel) (Nat.le_of_ble_eq_true rfl) (Nat.le_of_ble_eq_true rfl) (fun Z hZG C E NT MT => ?_)
  subst hZG
  have C : Cx Z RJ8 cJ8_newLength_cabcc 1 0 0 21 := C
  show HW Z 0 0 0 [some (.int x), some (.int y), some (.int z), none] [] μ
  subst hx
  subst hy
  subst hz
  refine h_iload_g C dJ8_newLength_cabcc_0 rfl rfl ?_
  refine h_iload_g C dJ8_newLength_cabcc_1 rfl rfl ?_
  refine h_iload_g C dJ8_newLength_cabcc_2 rfl rfl ?_
  refine h_callS2 C (k_J9_max_7cf53 Z.l Z.G _ _ μ) cw_J8_194 st_J9_max_7cf53 dJ8_newLength_cabcc_3 (by first | decide | exact Nat.le_of_ble_eq_true rfl) (by decide) (by decide) (by decide) (by decide) (kI fun r3 μ2 hp1 => ?_) kN
  obtain ⟨rfl, rfl⟩ := hp1
  have e9 : (if nI m < nI p then nI p else nI m) = nI (max m p) := by
    by_cases c : m < p
    · rw [if_pos (nI_lt c (by omega)), Nat.max_eq_right (by omega)]
    · rw [if_neg (nI_nlt (by omega) (by omega)), Nat.max_eq_left (by omega)]
  rw [e9]
  refine h_iadd C dJ8_newLength_cabcc_6 ?_
  rw [nI_add]
  refine h_ist_3 C dJ8_newLength_cabcc_7 ct_i ?_
  refine h_iconst (v := 0) C dJ8_newLength_cabcc_8 (by decide) ?_
  refine h_iload_g C dJ8_newLength_cabcc_9 rfl rfl ?_
  refine h_icmp_ge (tgt := 21) C dJ8_newLength_cabcc_10 (by decide) (fun c4 => absurd c4 ((nI_ge (a := 0) (by omega) (by omega)))) (fun c4 => ?_)
  refine h_iload_g C dJ8_newLength_cabcc_13 rfl rfl ?_
  refine h_ldc C kc_J8_200 dJ8_newLength_cabcc_14 ?_
  refine h_icmp_gt (tgt := 21) C dJ8_newLength_cabcc_16 (by decide) (fun c5 => absurd c5 ((nI_ge9 (by omega)))) (fun c5 => ?_)
  refine h_iload_g C dJ8_newLength_cabcc_19 rfl rfl ?_
  refine h_iret C E dJ8_newLength_cabcc_20 (by decide) (by decide) ?_
  exact ⟨_, rfl, rfl, rfl⟩

theorem er_newA {μ : Mem} {a kd n b j : Nat} : (μ.newA a kd n).er b j = if b = a then none else μ.er b j := rfl
set_option maxRecDepth 100000 in
set_option maxHeartbeats 4000000 in
theorem k_J7_copyOf_6403c (l : Launch) (G : Gx) (a0 : Nat) (x : Int32) (N K : Nat) (μ : Mem) (hx : x = nI N) (hN : N ≤ 1000) (hK : K % 32 = 14) (hk0 : μ.kd a0 % 32 = 14) (hl0 : μ.ln a0 ≤ N) (hel : ∀ i, i < μ.ln a0 → ∀ y, μ.er a0 i = some y → μ.kd y % 32 = 4 ∨ μ.kd y % 32 = 6 ∨ μ.kd y % 32 = 7) : Kon l yJ7_copyOf_6403c cJ7_copyOf_6403c 4 (some (.array (.object "java/lang/Object"))) 2 1 1000 60 G [.ref a0, .int x, .ref G.2.2.2] μ (pA fun r μ' => μ.kd r = 0 ∧ μ' = (μ.newA r K N).cpy a0 r 0 0 (μ.ln a0)) noX := by
  refine Kon.ofG (by decide +kernel) (Nat.le_of_ble_eq_true rfl) (Nat.le_of_ble_eq_true rfl) (fun Z hZG C E NT MT => ?_)
  subst hZG
  have C : Cx Z RJ7 cJ7_copyOf_6403c 2 1 1000 60 := C
  show HW Z 0 0 0 [some (.ref a0), some (.int x), some (.ref Z.G.2.2.2), none] [] μ
  subst hx
  refine h_al_g C dJ7_copyOf_6403c_0 rfl rfl rfv_r ?_
  refine h_ldcM C dJ7_copyOf_6403c_1 ?_
  refine (h_acmp_ne (rx := (some _)) (ry := (some _)) (tgt := 13) C dJ7_copyOf_6403c_3 (by decide) (fun c1 => absurd c1 ((fun h => h rfl))) (fun c1 => ?_))
  refine h_iload_g C dJ7_copyOf_6403c_6 rfl rfl ?_
  refine h_anew (N := N) (K) C kl_J7_2 (by decide) ⟨Or.inl hK, (by rw [hK]; rfl)⟩ dJ7_copyOf_6403c_7 (nI_pos (by omega)) (nI_clamp (by omega)) (by omega) (by first | decide | omega) (by first | decide | omega) (fun q hq => ?_)
  refine h_widen (Nat.le_refl _) (n2 := 1000) (by omega) ?_
  refine h_goto (tgt := 24) C dJ7_copyOf_6403c_10 (by decide) ?_
  refine h_ast_3 C dJ7_copyOf_6403c_24 ct_r rfv_r ?_
  have hq0 : a0 ≠ q := fun h => by rw [h] at hk0; omega
  have hkd0 : (μ.newA q K N).kd a0 = μ.kd a0 := by show u1 μ.kd _ _ a0 = _; unfold u1; rw [if_neg hq0]
  have hln0 : (μ.newA q K N).ln a0 = μ.ln a0 := by show u1 μ.ln _ _ a0 = _; unfold u1; rw [if_neg hq0]
  have her0 : ∀ i, (μ.newA q K N).er a0 i = μ.er a0 i := fun i => if_neg hq0
  have hlm : (if (nI N) < Int32.ofNat (μ.ln a0) then (nI N) else Int32.ofNat (μ.ln a0)) = nI (μ.ln a0) := if_neg (nI_nlt (a := N) (b := μ.ln a0) hl0 (by omega))
  refine h_al_g C dJ7_copyOf_6403c_25 rfl rfl rfv_r ?_
  refine h_iconst (v := 0) C dJ7_copyOf_6403c_26 (by decide) ?_
  refine h_al_g C dJ7_copyOf_6403c_27 rfl rfl rfv_r ?_
  refine h_iconst (v := 0) C dJ7_copyOf_6403c_28 (by decide) ?_
  refine h_al_g C dJ7_copyOf_6403c_29 rfl rfl rfv_r ?_
  refine h_alen C dJ7_copyOf_6403c_30 (by rw [hkd0, hk0]; exact ⟨by decide, by decide⟩) hln0 ?_
  refine h_iload_g C dJ7_copyOf_6403c_31 rfl rfl ?_
  refine h_callS2 C (k_J9_min_7cf53 Z.l Z.G _ _ _) cw_J7_304 st_J9_min_7cf53 dJ7_copyOf_6403c_32 (by first | decide | exact Nat.le_of_ble_eq_true rfl) (by decide) (by decide) (by decide) (by decide) (kI fun r4 μ3 hp2 => ?_) kN
  obtain ⟨rfl, rfl⟩ := hp2
  rw [hlm]
  refine h_copy C lk_cpA dJ7_copyOf_6403c_35 (by rw [hkd0]; exact hk0) (by rw [kd_newA]; exact hK) (by decide) (by decide) (nI_pos (by omega)) (by rw [nI_clamp (by omega), hln0]; show 0 + _ ≤ _; omega) (by rw [nI_clamp (by omega), ln_newA]; show 0 + _ ≤ _; omega) (fun i hi y hy => by
      rw [nI_clamp (by omega)] at hi
      rw [her0] at hy
      have h9 := hel _ (show (0 : Int32).toNatClampNeg + i < μ.ln a0 by show 0 + i < _; omega) y hy
      have hyq : y ≠ q := fun h => by rw [h] at h9; omega
      have hkdy : (μ.newA q K N).kd y = μ.kd y := by show u1 μ.kd _ _ y = _; unfold u1; rw [if_neg hyq]
      rw [hkdy]
      exact h9) (by decide) (by first | decide | exact Nat.le_of_ble_eq_true rfl) ?_
  refine h_al_g C dJ7_copyOf_6403c_38 rfl rfl rfv_r ?_
  refine h_aret (r := (some _)) C E (by first | exact Or.inl ⟨_, rfl⟩ | exact Or.inr ⟨_, rfl⟩) dJ7_copyOf_6403c_39 (by decide) (by decide) ?_
  refine ⟨_, rfl, hq, ?_⟩
  rw [nI_clamp (by omega)]
  rfl

set_option maxRecDepth 100000 in
set_option maxHeartbeats 4000000 in
theorem k_J7_copyOf_1904c (l : Launch) (G : Gx) (a0 : Nat) (x : Int32) (N K : Nat) (μ : Mem) (hx : x = nI N) (hN : N ≤ 1000) (hK : K % 32 = 14) (hk0 : μ.kd a0 % 32 = 14) (hl0 : μ.ln a0 ≤ N) (hel : ∀ i, i < μ.ln a0 → ∀ y, μ.er a0 i = some y → μ.kd y % 32 = 4 ∨ μ.kd y % 32 = 6 ∨ μ.kd y % 32 = 7) : Kon l yJ7_copyOf_1904c cJ7_copyOf_1904c 2 (some (.array (.object "java/lang/Object"))) 3 1 1000 83 G [.ref a0, .int x] μ (pA fun r μ' => μ.kd r = 0 ∧ μ' = (μ.newA r K N).cpy a0 r 0 0 (μ.ln a0)) noX := by
  refine Kon.ofG (by decide +kernel) (Nat.le_of_ble_eq_true rfl) (Nat.le_of_ble_eq_true rfl) (fun Z hZG C E NT MT => ?_)
  subst hZG
  have C : Cx Z RJ7 cJ7_copyOf_1904c 3 1 1000 83 := C
  show HW Z 0 0 0 [some (.ref a0), some (.int x)] [] μ
  refine h_al_g C dJ7_copyOf_1904c_0 rfl rfl rfv_r ?_
  refine h_iload_g C dJ7_copyOf_1904c_1 rfl rfl ?_
  refine h_al_g C dJ7_copyOf_1904c_2 rfl rfl rfv_r ?_
  refine h_getC C dJ7_copyOf_1904c_3 hk0 (by decide) (by first | decide | exact Nat.le_of_ble_eq_true rfl) ?_
  refine h_callS3 C (k_J7_copyOf_6403c Z.l Z.G a0 x N K μ hx hN hK hk0 hl0 hel) cw_J7_300 st_J7_copyOf_6403c dJ7_copyOf_1904c_6 (by first | decide | exact Nat.le_of_ble_eq_true rfl) (by decide) (by decide) (by decide) (by decide) (kA fun r3 μ2 hp1 => ?_) kN
  obtain ⟨hp8, hp9⟩ := hp1
  refine h_aret (r := (some _)) C E (by first | exact Or.inl ⟨_, rfl⟩ | exact Or.inr ⟨_, rfl⟩) dJ7_copyOf_1904c_9 (by decide) (by decide) ?_
  exact ⟨_, rfl, hp8, hp9⟩

theorem nI_gt0 {n : Nat} (h : 0 < n) (hn : n < 2 ^ 31) : nI n > 0 := nI_lt (a := 0) h hn
set_option maxRecDepth 100000 in
set_option maxHeartbeats 4000000 in
theorem k_Jx4a65c_grow_92f84 (l : Launch) (G : Gx) (ρ a : Nat) (xs : List Nat) (x : Int32) (μ : Mem) (hl : ListAt G μ ρ xs) (ha9 : μ.fr 1 ρ = some a) (hlt : xs.length < 600) (hfull : a = G.2.2.1 ∨ μ.ln a = xs.length) (hx : x = nI (xs.length + 1)) : Kon l yJx4a65c_grow_92f84 cJx4a65c_grow_92f84 4 (some (.array (.object "java/lang/Object"))) 4 1 1000 104 G [.ref ρ, .int x] μ (pA fun r μ' => μ'.fr 1 ρ = some r ∧ μ'.fi 2 ρ = nI xs.length ∧ μ'.kd r = LM ρ ∧ xs.length < μ'.ln r ∧ μ'.ln r ≤ 1000 ∧ (∀ i x, xs[i]? = some x → μ'.er r i = some x) ∧ FrK (LW μ ρ) μ μ') noX := by
  refine Kon.ofG (by decide +kernel) (Nat.le_of_ble_eq_true rfl) (Nat.le_of_ble_eq_true rfl) (fun Z hZG C E NT MT => ?_)
  subst hZG
  have C : Cx Z RJx4a65c cJx4a65c_grow_92f84 4 1 1000 104 := C
  show HW Z 0 0 0 [some (.ref ρ), some (.int x), none, none] [] μ
  obtain ⟨hk, hlen, hsz, hel, a', ha, hcase⟩ := hl
  cases ha9.symm.trans ha
  subst hx
  refine h_notE C (fun hE => ?_)
  rcases hcase with ⟨he, rfl⟩ | ⟨hka, hn1, hn2, hn3, her⟩
  · refine h_al_g C dJx4a65c_grow_92f84_0 rfl rfl rfv_r ?_
    refine gs_Jx4a65c_9 C dJx4a65c_grow_92f84_1 hk ha ?_
    refine h_alenE C dJx4a65c_grow_92f84_4 ?_
    refine h_ist_2 C dJx4a65c_grow_92f84_5 ct_i ?_
    refine h_iload_g C dJx4a65c_grow_92f84_6 rfl rfl ?_
    refine h_if_gt (tgt := 20) C dJx4a65c_grow_92f84_7 (by decide) (fun c1 => absurd c1 ((by decide))) (fun c1 => ?_)
    refine h_al_g C dJx4a65c_grow_92f84_10 rfl rfl rfv_r ?_
    refine gs_Jx4a65c_9 C dJx4a65c_grow_92f84_11 hk ha ?_
    refine h_getsE C dJx4a65c_grow_92f84_14 ?_
    refine (h_acmp_eq (rx := (some _)) (ry := (some _)) (tgt := 45) C dJx4a65c_grow_92f84_17 (by decide) (fun c2 => ?_) (fun c2 => absurd (rfl) c2))
    subst he
    refine h_al_g C dJx4a65c_grow_92f84_45 rfl rfl rfv_r ?_
    refine h_bipush (v := 10) C dJx4a65c_grow_92f84_46 (by decide) ?_
    refine h_iload_g C dJx4a65c_grow_92f84_48 rfl rfl ?_
    refine h_callS2 C (k_J9_max_7cf53 Z.l Z.G _ _ μ) cw_Jx4a65c_79 st_J9_max_7cf53 dJx4a65c_grow_92f84_49 (by first | decide | exact Nat.le_of_ble_eq_true rfl) (by decide) (by decide) (by decide) (by decide) (kI fun r5 μ4 hp3 => ?_) kN
    obtain ⟨rfl, rfl⟩ := hp3
    rw [show (if (10 : Int32) < nI (([] : List Nat).length + 1) then nI (([] : List Nat).length + 1) else 10) = 10 from by decide]
    refine h_anew (N := 10) (LM ρ) C kl_Jx4a65c_7 (by decide) ⟨Or.inl (LM_m ρ), (by rw [LM_m]; rfl)⟩ dJx4a65c_grow_92f84_52 (by decide) (by decide) (by decide) (by first | decide | omega) (by first | decide | omega) (fun q hq => ?_)
    refine h_widen (Nat.le_refl _) (n2 := 1000) (by omega) ?_
    have hρq : ρ ≠ q := fun h => by rw [h] at hk; omega
    refine h_dup_x1 C dJx4a65c_grow_92f84_55 rfl rfl ?_
    refine pf_Jx4a65c_9 (some _) C dJx4a65c_grow_92f84_56 (by show u1 μ.kd q (LM ρ) ρ % 32 = 1; unfold u1; rw [if_neg hρq]; exact hk) rfl ?_
    refine h_aret (r := (some _)) C E (by first | exact Or.inl ⟨_, rfl⟩ | exact Or.inr ⟨_, rfl⟩) dJx4a65c_grow_92f84_59 (by decide) (by decide) ?_
    refine ⟨_, rfl, ?_, ?_, kd_newA (n := 10), ?_, ?_, (fun i x hi => by cases hi), ?_⟩
    · show u2 μ.fr 1 ρ _ 1 ρ = _; unfold u2; simp
    · exact hsz
    · show 0 < u1 μ.ln q 10 q; unfold u1; rw [if_pos rfl]; decide
    · show u1 μ.ln q 10 q ≤ 1000; unfold u1; rw [if_pos rfl]; decide
    · exact (FrK.newA hq (Or.inr rfl)).tr (FrK.sfr (Or.inl (by show u1 μ.kd q (LM ρ) ρ = _; unfold u1; rw [if_neg hρq])))
  · have hka2 : μ.kd a % 32 = 14 := by rw [hka]; exact LM_m ρ
    have hfl : μ.ln a = xs.length := hfull.resolve_left (fun h => by rw [h] at hka2; omega)
    have hcel : ∀ i, i < μ.ln a → ∀ y, μ.er a i = some y → μ.kd y % 32 = 4 ∨ μ.kd y % 32 = 6 ∨ μ.kd y % 32 = 7 := fun i hi y hy => by
      have h8 : xs[i]? = some xs[i] := List.getElem?_eq_getElem (by omega)
      cases hy.symm.trans (her _ _ h8)
      exact hel _ (List.getElem_mem _)
    refine h_al_g C dJx4a65c_grow_92f84_0 rfl rfl rfv_r ?_
    refine gs_Jx4a65c_9 C dJx4a65c_grow_92f84_1 hk ha ?_
    refine h_alen C dJx4a65c_grow_92f84_4 ⟨by rw [hka, LM_m]; decide, by rw [hka, LM_m]; decide⟩ hfl ?_
    refine h_ist_2 C dJx4a65c_grow_92f84_5 ct_i ?_
    refine h_iload_g C dJx4a65c_grow_92f84_6 rfl rfl ?_
    refine h_if_gt (tgt := 20) C dJx4a65c_grow_92f84_7 (by decide) (fun c1 => ?_) (fun c1 => absurd ((nI_gt0 (by omega) (by omega))) c1)
    refine h_iload_g C dJx4a65c_grow_92f84_20 rfl rfl ?_
    refine h_iload_g C dJx4a65c_grow_92f84_21 rfl rfl ?_
    refine h_iload_g C dJx4a65c_grow_92f84_22 rfl rfl ?_
    refine h_isub C dJx4a65c_grow_92f84_23 ?_
    refine h_iload_g C dJx4a65c_grow_92f84_24 rfl rfl ?_
    refine h_iconst (v := 1) C dJx4a65c_grow_92f84_25 (by decide) ?_
    refine h_ishr C dJx4a65c_grow_92f84_26 ?_
    rw [show (nI (xs.length + 1) - Int32.ofNat xs.length : Int32) = nI 1 from by rw [show Int32.ofNat xs.length = nI xs.length from rfl, pk_sub (by omega), show xs.length + 1 - xs.length = 1 by omega]]
    rw [show (Int32.ofNat xs.length >>> (1 &&& 31) : Int32) = nI (xs.length / 2) from pk_shrN (n := xs.length) (by omega) _ 1 (by decide)]
    refine h_callS3 C (k_J8_newLength_cabcc Z.l Z.G _ _ _ xs.length 1 (xs.length / 2) rfl rfl rfl (by omega) (by decide) (by decide) (by omega) μ) cw_Jx4a65c_73 st_J8_newLength_cabcc dJx4a65c_grow_92f84_27 (by first | decide | exact Nat.le_of_ble_eq_true rfl) (by decide) (by decide) (by decide) (by decide) (kI fun r4 μ3 hp2 => ?_) kN
    obtain ⟨rfl, rfl⟩ := hp2
    refine h_ist_3 C dJx4a65c_grow_92f84_30 ct_i ?_
    refine h_al_g C dJx4a65c_grow_92f84_31 rfl rfl rfv_r ?_
    refine h_al_g C dJx4a65c_grow_92f84_32 rfl rfl rfv_r ?_
    refine gs_Jx4a65c_9 C dJx4a65c_grow_92f84_33 hk ha ?_
    refine h_iload_g C dJx4a65c_grow_92f84_36 rfl rfl ?_
    refine h_callS2 C (k_J7_copyOf_1904c Z.l Z.G a _ (xs.length + max 1 (xs.length / 2)) (LM ρ) μ rfl (by omega) (LM_m ρ) hka2 (by omega) hcel) cw_Jx4a65c_66 st_J7_copyOf_1904c dJx4a65c_grow_92f84_37 (by first | decide | exact Nat.le_of_ble_eq_true rfl) (by decide) (by decide) (by decide) (by decide) (kA fun q μ6 hp5 => ?_) kN
    obtain ⟨hq, rfl⟩ := hp5
    have hρq : ρ ≠ q := fun h => by rw [h] at hk; omega
    have haq : a ≠ q := fun h => by rw [h] at hka2; omega
    refine h_dup_x1 C dJx4a65c_grow_92f84_40 rfl rfl ?_
    refine pf_Jx4a65c_9 (some _) C dJx4a65c_grow_92f84_41 (by show u1 μ.kd q (LM ρ) ρ % 32 = 1; unfold u1; rw [if_neg hρq]; exact hk) rfl ?_
    refine h_aret (r := (some _)) C E (by first | exact Or.inl ⟨_, rfl⟩ | exact Or.inr ⟨_, rfl⟩) dJx4a65c_grow_92f84_44 (by decide) (by decide) ?_
    refine ⟨_, rfl, ?_, ?_, kd_newA (n := xs.length + max 1 (xs.length / 2)), ?_, ?_, fun i x hi => ?_, ?_⟩
    · show u2 μ.fr 1 ρ _ 1 ρ = _; unfold u2; simp
    · exact hsz
    · show _ < u1 μ.ln q (xs.length + max 1 (xs.length / 2)) q; unfold u1; rw [if_pos rfl]; omega
    · show u1 μ.ln q (xs.length + max 1 (xs.length / 2)) q ≤ 1000; unfold u1; rw [if_pos rfl]; omega
    · have hil := (List.getElem?_eq_some_iff.mp hi).1
      show (if q = q then va_cpy ((μ.newA q (LM ρ) (xs.length + max 1 (xs.length / 2))).er a) _ 0 0 (μ.ln a) i else _) = _
      rw [if_pos rfl, pk_cpy_in (by omega) (by omega), show 0 + (i - 0) = i by omega]
      show (if a = q then none else μ.er a i) = _
      rw [if_neg haq]
      exact her i x hi
    · exact ((FrK.newA hq (Or.inr rfl)).tr (FrK.cpy (Or.inr (kd_newA (n := xs.length + max 1 (xs.length / 2)))))).tr (FrK.sfr (Or.inl (by show u1 μ.kd q (LM ρ) ρ = _; unfold u1; rw [if_neg hρq])))

set_option maxRecDepth 100000 in
set_option maxHeartbeats 4000000 in
theorem k_Jx4a65c_grow_d5877 (l : Launch) (G : Gx) (ρ a : Nat) (xs : List Nat) (μ : Mem) (hl : ListAt G μ ρ xs) (ha9 : μ.fr 1 ρ = some a) (hlt : xs.length < 600) (hfull : a = G.2.2.1 ∨ μ.ln a = xs.length) : Kon l yJx4a65c_grow_d5877 cJx4a65c_grow_d5877 1 (some (.array (.object "java/lang/Object"))) 5 1 1000 127 G [.ref ρ] μ (pA fun r μ' => μ'.fr 1 ρ = some r ∧ μ'.fi 2 ρ = nI xs.length ∧ μ'.kd r = LM ρ ∧ xs.length < μ'.ln r ∧ μ'.ln r ≤ 1000 ∧ (∀ i x, xs[i]? = some x → μ'.er r i = some x) ∧ FrK (LW μ ρ) μ μ') noX := by
  refine Kon.ofG (by decide +kernel) (Nat.le_of_ble_eq_true rfl) (Nat.le_of_ble_eq_true rfl) (fun Z hZG C E NT MT => ?_)
  subst hZG
  have C : Cx Z RJx4a65c cJx4a65c_grow_d5877 5 1 1000 127 := C
  show HW Z 0 0 0 [some (.ref ρ)] [] μ
  have hl9 := hl
  obtain ⟨hk, hlen, hsz, hel, _⟩ := hl
  refine h_al_g C dJx4a65c_grow_d5877_0 rfl rfl rfv_r ?_
  refine h_al_g C dJx4a65c_grow_d5877_1 rfl rfl rfv_r ?_
  refine gf_Jx4a65c_48 C dJx4a65c_grow_d5877_2 hk hsz ?_
  refine h_iconst (v := 1) C dJx4a65c_grow_d5877_5 (by decide) ?_
  refine h_iadd C dJx4a65c_grow_d5877_6 ?_
  rw [nI_1]
  refine h_callV1 (ci := 0) C (k_Jx4a65c_grow_92f84 Z.l Z.G ρ a xs _ μ hl9 ha9 hlt hfull rfl) cw_Jx4a65c_69 im_Jx4a65c_grow_92f84 sl_Jx4a65c_grow_92f84 rfl (by decide) hk dJx4a65c_grow_d5877_7 (by first | decide | exact Nat.le_of_ble_eq_true rfl) (by decide) (by decide) (by decide) (by decide) (kA fun r3 μ2 hp1 => ?_) kN
  have hp9 := hp1
  refine h_aret (r := (some _)) C E (by first | exact Or.inl ⟨_, rfl⟩ | exact Or.inr ⟨_, rfl⟩) dJx4a65c_grow_d5877_10 (by decide) (by decide) ?_
  exact ⟨_, rfl, hp9⟩

set_option maxRecDepth 100000 in
set_option maxHeartbeats 4000000 in
theorem lp_add {Z : Zx} {rf rc rs rl mc ms : Nat} {Post : Mem → Prop} {PostX : String → Mem → Prop} {ρ b y : Nat} {xs : List Nat} {μ μ1 : Mem} {k n : Nat} (C : Cx Z RJx4a65c cJx4a65c_add_72be8 rf rc rs rl) (E : Rt Z mc ms none (pV Post) PostX) (h1 : k ≤ mc) (h2 : n ≤ ms) (hlt : xs.length < 600)
    (hk' : μ1.kd ρ % 32 = 1) (hkk : μ1.kd ρ = μ.kd ρ) (hel' : ∀ x ∈ xs, μ1.kd x % 32 = 4 ∨ μ1.kd x % 32 = 6 ∨ μ1.kd x % 32 = 7) (hy' : μ1.kd y % 32 = 4 ∨ μ1.kd y % 32 = 6 ∨ μ1.kd y % 32 = 7) (hb1 : μ1.fr 1 ρ = some b) (hb3 : μ1.kd b = LM ρ) (hb4 : xs.length < μ1.ln b) (hb5 : μ1.ln b ≤ 1000) (hb6 : ∀ i x, xs[i]? = some x → μ1.er b i = some x) (hfr : FrK (LW μ ρ) μ μ1)
    (hP : ∀ μ', ListAt Z.G μ' ρ (xs ++ [y]) ∧ FrK (LW μ ρ) μ μ' → Post μ') : HW Z k n 11 [some (.ref ρ), some (.ref y), some (.ref b), some (.int (nI xs.length))] [] μ1 := by
  refine h_al_g C dJx4a65c_add_72be8_11 rfl rfl rfv_r ?_
  refine h_iload_g C dJx4a65c_add_72be8_12 rfl rfl ?_
  refine h_al_g C dJx4a65c_add_72be8_13 rfl rfl rfv_r ?_
  refine h_aast C dJx4a65c_add_72be8_14 (by show (μ1.kd b % 32, μ1.kd y % 32) ∈ asPairs; rw [hb3, LM_m]; rcases hy' with h | h | h <;> rw [h] <;> decide) (vp_in_nI (by omega) (by omega)) ?_
  refine h_al_g C dJx4a65c_add_72be8_15 rfl rfl rfv_r ?_
  refine h_iload_g C dJx4a65c_add_72be8_16 rfl rfl ?_
  refine h_iconst (v := 1) C dJx4a65c_add_72be8_17 (by decide) ?_
  refine h_iadd C dJx4a65c_add_72be8_18 ?_
  refine pf_Jx4a65c_48 C dJx4a65c_add_72be8_19 (by show μ1.kd ρ % 32 = 1; exact hk') ?_
  refine h_ret C E dJx4a65c_add_72be8_22 h1 h2 ?_
  refine ⟨rfl, hP _ ⟨?_, ?_⟩⟩
  · refine ⟨hk', by simp; omega, ?_, fun z hz => ?_, b, hb1, Or.inr ⟨hb3, ?_, ?_, hb5, fun j z hj => ?_⟩⟩
    · rw [List.length_append]; show u2 _ 2 ρ _ 2 ρ = nI (xs.length + 1); exact u2_eq.trans (nI_1 _)
    · rcases List.mem_append.mp hz with h | h
      · exact hel' z h
      · rw [List.mem_singleton.mp h]; exact hy'
    · rw [List.length_append]; show xs.length + 1 ≤ _; exact hb4
    · show 0 < μ1.ln b; omega
    · show (if b = b then (if j = (nI xs.length).toNatClampNeg then some y else μ1.er b j) else _) = _
      rw [if_pos rfl, nI_clamp (by omega)]
      by_cases c : j = xs.length
      · rw [if_pos c]
        rw [c, List.getElem?_append_right (Nat.le_refl _), Nat.sub_self] at hj
        cases hj; rfl
      · rw [if_neg c]
        have hj2 : j < xs.length := by
          have := (List.getElem?_eq_some_iff.mp hj).1
          rw [List.length_append] at this
          have e : ([y] : List Nat).length = 1 := rfl
          omega
        rw [List.getElem?_append_left hj2] at hj
        exact hb6 j z hj
  · exact hfr.tr ((FrK.ser (Or.inr hb3)).tr (FrK.sfi (Or.inl hkk)))

set_option maxRecDepth 100000 in
set_option maxHeartbeats 4000000 in
theorem k_Jx4a65c_add_72be8 (l : Launch) (G : Gx) (ρ a : Nat) (xs : List Nat) (y : Nat) (x : Int32) (μ : Mem) (hl : ListAt G μ ρ xs) (ha9 : μ.fr 1 ρ = some a) (hlt : xs.length < 600) (hy : μ.kd y % 32 = 4 ∨ μ.kd y % 32 = 6 ∨ μ.kd y % 32 = 7) (hx : x = nI xs.length) : Kon l yJx4a65c_add_72be8 cJx4a65c_add_72be8 4 none 6 1 1000 147 G [.ref ρ, .ref y, .ref a, .int x] μ (pV fun μ' => (ListAt G μ' ρ (xs ++ [y]) ∧ FrK (LW μ ρ) μ μ')) noX := by
  refine Kon.ofG (by decide +kernel) (Nat.le_of_ble_eq_true rfl) (Nat.le_of_ble_eq_true rfl) (fun Z hZG C E NT MT => ?_)
  subst hZG
  have C : Cx Z RJx4a65c cJx4a65c_add_72be8 6 1 1000 147 := C
  show HW Z 0 0 0 [some (.ref ρ), some (.ref y), some (.ref a), some (.int x)] [] μ
  have hl9 := hl
  obtain ⟨hk, hlen, hsz, hel, a', ha, hcase⟩ := hl
  cases ha9.symm.trans ha
  subst hx
  rcases hcase with ⟨he, rfl⟩ | ⟨hka, hn1, hn2, hn3, her⟩
  · refine h_iload_g C dJx4a65c_add_72be8_0 rfl rfl ?_
    refine h_al_g C dJx4a65c_add_72be8_1 rfl rfl rfv_r ?_
    refine h_alenE C dJx4a65c_add_72be8_2 ?_
    refine h_icmp_ne (tgt := 11) C dJx4a65c_add_72be8_3 (by decide) (fun c1 => absurd c1 ((by rw [he]; exact fun h => h rfl))) (fun c1 => ?_)
    refine h_al_g C dJx4a65c_add_72be8_6 rfl rfl rfv_r ?_
    refine h_callV0 (ci := 0) (a_ := .null) C (k_Jx4a65c_grow_d5877 Z.l Z.G ρ _ xs μ hl9 ha9 hlt (Or.inl rfl)) cw_Jx4a65c_129 im_Jx4a65c_grow_d5877 sl_Jx4a65c_grow_d5877 rfl (by decide) hk dJx4a65c_add_72be8_7 (by first | decide | exact Nat.le_of_ble_eq_true rfl) (by decide) (by decide) (by decide) (by decide) (kA fun b μ1 hp2 => ?_) kN
    obtain ⟨b1, b2, b3, b4, b5, b6, b7⟩ := hp2
    refine h_ast_2 C dJx4a65c_add_72be8_10 ct_r rfv_r ?_
    exact lp_add (μ := μ) C E (by decide) (by decide) hlt (by rw [((b7 ρ).1 (by omega)).1]; exact hk) ((b7 ρ).1 (by omega)).1 (fun x hx => by have h9 := hel x hx; rw [((b7 x).1 (by omega)).1]; exact h9) (by rw [((b7 y).1 (by omega)).1]; exact hy) b1 b3 b4 b5 b6 b7 (fun μ' h => h)
  · refine h_iload_g C dJx4a65c_add_72be8_0 rfl rfl ?_
    refine h_al_g C dJx4a65c_add_72be8_1 rfl rfl rfv_r ?_
    refine h_alen C dJx4a65c_add_72be8_2 ⟨by rw [hka, LM_m]; decide, by rw [hka, LM_m]; decide⟩ rfl ?_
    refine h_icmp_ne (tgt := 11) C dJx4a65c_add_72be8_3 (by decide) (fun c1 => ?_) (fun c1 => ?_)
    · have hne : ¬ xs.length = μ.ln a := fun h => c1 (congrArg Int32.ofNat h)
      exact lp_add (μ := μ) C E (by decide) (by decide) hlt hk rfl hel hy ha9 hka (by omega) hn3 her FrK.rf (fun μ' h => h)
    · have hfl : μ.ln a = xs.length := ((nI_eq (a := xs.length) (b := μ.ln a) (by omega) (by omega)).mp c1).symm
      refine h_al_g C dJx4a65c_add_72be8_6 rfl rfl rfv_r ?_
      refine h_callV0 (ci := 0) (a_ := .null) C (k_Jx4a65c_grow_d5877 Z.l Z.G ρ a xs μ hl9 ha9 hlt (Or.inr hfl)) cw_Jx4a65c_129 im_Jx4a65c_grow_d5877 sl_Jx4a65c_grow_d5877 rfl (by decide) hk dJx4a65c_add_72be8_7 (by first | decide | exact Nat.le_of_ble_eq_true rfl) (by decide) (by decide) (by decide) (by decide) (kA fun b μ1 hp2 => ?_) kN
      obtain ⟨b1, b2, b3, b4, b5, b6, b7⟩ := hp2
      refine h_ast_2 C dJx4a65c_add_72be8_10 ct_r rfv_r ?_
      exact lp_add (μ := μ) C E (by decide) (by decide) hlt (by rw [((b7 ρ).1 (by omega)).1]; exact hk) ((b7 ρ).1 (by omega)).1 (fun x hx => by have h9 := hel x hx; rw [((b7 x).1 (by omega)).1]; exact h9) (by rw [((b7 y).1 (by omega)).1]; exact hy) b1 b3 b4 b5 b6 b7 (fun μ' h => h)

set_option maxRecDepth 100000 in
set_option maxHeartbeats 4000000 in
theorem k_Jx4a65c_add_9ea2d (l : Launch) (G : Gx) (ρ : Nat) (xs : List Nat) (y : Nat) (μ : Mem) (hl : ListAt G μ ρ xs) (hlt : xs.length < 600) (hy : μ.kd y % 32 = 4 ∨ μ.kd y % 32 = 6 ∨ μ.kd y % 32 = 7) : Kon l yJx4a65c_add_9ea2d cJx4a65c_add_9ea2d 2 (some .boolean) 7 1 1000 170 G [.ref ρ, .ref y] μ (pI fun r μ' => (ListAt G μ' ρ (xs ++ [y]) ∧ FrK (LW μ ρ) μ μ')) noX := by
  refine Kon.ofG (by decide +kernel) (Nat.le_of_ble_eq_true rfl) (Nat.le_of_ble_eq_true rfl) (fun Z hZG C E NT MT => ?_)
  subst hZG
  have C : Cx Z RJx4a65c cJx4a65c_add_9ea2d 7 1 1000 170 := C
  show HW Z 0 0 0 [some (.ref ρ), some (.ref y)] [] μ
  obtain ⟨hk, hlen, hsz, hel, a, ha, hcase⟩ := hl
  have hl9 : ListAt Z.G (μ.sfi 0 ρ (μ.fi 0 ρ + 1)) ρ xs := ⟨hk, hlen, hsz, hel, a, ha, hcase⟩
  refine h_al_g C dJx4a65c_add_9ea2d_0 rfl rfl rfv_r ?_
  refine h_dup C dJx4a65c_add_9ea2d_1 rfl ?_
  refine gf_Jx4a65c_63 C dJx4a65c_add_9ea2d_2 hk rfl ?_
  refine h_iconst (v := 1) C dJx4a65c_add_9ea2d_5 (by decide) ?_
  refine h_iadd C dJx4a65c_add_9ea2d_6 ?_
  refine pf_Jx4a65c_63 C dJx4a65c_add_9ea2d_7 hk ?_
  refine h_al_g C dJx4a65c_add_9ea2d_10 rfl rfl rfv_r ?_
  refine h_al_g C dJx4a65c_add_9ea2d_11 rfl rfl rfv_r ?_
  refine h_al_g C dJx4a65c_add_9ea2d_12 rfl rfl rfv_r ?_
  refine gs_Jx4a65c_9 C dJx4a65c_add_9ea2d_13 hk ha ?_
  refine h_al_g C dJx4a65c_add_9ea2d_16 rfl rfl rfv_r ?_
  refine gf_Jx4a65c_48 C dJx4a65c_add_9ea2d_17 hk hsz ?_
  refine h_callV3 (ci := 0) C (k_Jx4a65c_add_72be8 Z.l Z.G ρ a xs y _ _ hl9 ha hlt hy rfl) cw_Jx4a65c_131 im_Jx4a65c_add_72be8 sl_Jx4a65c_add_72be8 rfl (by decide) hk dJx4a65c_add_9ea2d_20 (by first | decide | exact Nat.le_of_ble_eq_true rfl) (by decide) (by decide) (by decide) (by decide) (kV fun μ2 hp1 => ?_) kN
  obtain ⟨hp8, hp9⟩ := hp1
  refine h_iconst (v := 1) C dJx4a65c_add_9ea2d_23 (by decide) ?_
  refine h_zret C E dJx4a65c_add_9ea2d_24 (by decide) (by decide) (by first | exact Or.inl rfl | exact Or.inr rfl) ?_
  exact ⟨_, rfl, hp8, (FrK.sfi (Or.inl rfl)).tr hp9⟩

end
