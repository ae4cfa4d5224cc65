section
theorem h_getf {Z : Zx} {own : String} {cc : ByteArray} {rf rc rs rl k n pc : Nat} {L : List (Option Value)} {st : List Value} {μ : Mem} {idx ci j N a : Nat} {Cn : String} {T : u_T} {v : Value} {ref : String} (C : Cx Z own cc rf rc rs rl) (hin : ∀ w ∈ u_ws Cn T N, w ∈ lw_good) (hc : vwCl[ci]? = some (Cn, T, N)) (hci : ci < 10) (hj : j < N) (hlink : Cond.fieldLink own idx ref (T j).2.1 (T j).2.2.1 ∈ lw_good) (hsame : ref = (T j).1 ∨ Cond.sameField ref (T j).1 (T j).2.1 (T j).2.2.1 ∈ lw_good) (d : decode cc pc = .ok (.getfield idx, 3)) (hk : μ.kd a % 32 = ci + 1) (hv : fval μ (32 * ci + j) a = v)
    (kk : HW Z k n (pc + 3) L (v :: st) μ) : HW Z k n pc L (.ref a :: st) μ := by
  obtain ⟨p, l, e, R, s, m, args, below, meth, c, G, A, nL, Q⟩ := Z
  obtain ⟨⟨hx, hb, hml, hown, hts⟩, _, hK, _⟩ := C
  intro H locs ls hR hS hl
  obtain ⟨r, h1, cell, q1, q2, q3, q4⟩ := hR.obj hk hci
  have hr : r = (Cn, T, N) := Option.some.inj (h1.symm.trans hc)
  subst hr
  obtain ⟨hSl, hfc, kC, hkC, hkind⟩ := hK.1.1 ci _ hc
  obtain ⟨cf, kf, fi, f, hi, hsl⟩ := hSl j hj
  have hi2 : s.fieldFound? ref (T j).2.1 (T j).2.2.1 = some (cf, kf, fi, f) := by
    rcases hsame with h | h
    · rw [h]; exact hi
    · exact u_same (hts _ h) _ hi
  refine W.getf hx hb hown (hts _ hlink) hi2 (u_facts hfc hkC (u_lays hts hin hj) hi).1 q1 (by rw [q3]; exact fun h => by cases h) (v := v) ?_ rfl rfl d (kk H locs ls hR hS hl)
  rw [hsl, q4 j hj]
  exact congrArg some hv
theorem h_putf {Z : Zx} {own : String} {cc : ByteArray} {rf rc rs rl k n pc : Nat} {L : List (Option Value)} {st : List Value} {μ μ' : Mem} {idx ci j N a : Nat} {Cn : String} {T : u_T} {v : Value} {ref : String} {ty0 : Nat → FieldType} {ty : FieldType} (C : Cx Z own cc rf rc rs rl) (hin : ∀ w ∈ u_ws Cn T N, w ∈ lw_good) (hty : ∀ k, k < N → parseFieldDescriptor (T k).2.2.1 = some (ty0 k)) (hnm : ∀ a, a < N → ∀ b, b < N → a ≠ b → (T a).2.1 ≠ (T b).2.1) (hc : vwCl[ci]? = some (Cn, T, N)) (hci : ci < 10) (hj : j < N) (hlink : Cond.fieldLink own idx ref (T j).2.1 (T j).2.2.1 ∈ lw_good) (hsame : ref = (T j).1 ∨ Cond.sameField ref (T j).1 (T j).2.1 (T j).2.2.1 ∈ lw_good)
    (hfin : (T j).2.2.2 = false ∨ (Mt Z "<init>" ∧ (T j).1 = own)) (hd : parseFieldDescriptor (T j).2.2.1 = some ty) (hn : narrow ty v = v) (hfit : fits ty v = true) (d : decode cc pc = .ok (.putfield idx, 3)) (hk : μ.kd a % 32 = ci + 1)
    (hμ : ∀ q, q ≠ a → SameAt μ μ' q) (hkd : μ'.kd a = μ.kd a) (hv : fval μ' (32 * ci + j) a = v) (ho : ∀ i, i < N → i ≠ j → fval μ' (32 * ci + i) a = fval μ (32 * ci + i) a)
    (kk : HW Z k n (pc + 3) L st μ') : HW Z k n pc L (v :: .ref a :: st) μ := by
  obtain ⟨p, l, e, R, s, m, args, below, meth, c, G, A, nL, Q⟩ := Z
  obtain ⟨⟨hx, hb, hml, hown, hts⟩, _, hK, _⟩ := C
  intro H locs ls hR hS hl
  obtain ⟨r, h1, cell, q1, q2, q3, q4⟩ := hR.obj hk hci
  have hr : r = (Cn, T, N) := Option.some.inj (h1.symm.trans hc)
  subst hr
  have hap := va_apart (own := own) hts hin ty0 hty hnm hK.1 hc
  obtain ⟨hSl, hfc, kC, hkC, hkind⟩ := hK.1.1 ci _ hc
  obtain ⟨cf, kf, fi, f, hi, hsl⟩ := hSl j hj
  have hi2 : s.fieldFound? ref (T j).2.1 (T j).2.2.1 = some (cf, kf, fi, f) := by
    rcases hsame with h | h
    · rw [h]; exact hi
    · exact u_same (hts _ h) _ hi
  have hlay := hts _ (hin _ (u_in_lay hj))
  have hst := (u_facts hfc hkC (u_lays hts hin hj) hi).1
  have hA := (hR a (by omega)).1
  have key : ∀ H' : Heap, H'[a]? = some (cell.setSlot f.slot v) → H'.size = H.size → (∀ q, q ≠ a → H'[q]? = H[q]?) → W p l e R s m args below meth c H' (locs ++ [⟨a, f.slot⟩]) k n Q (F0 m (pc + 3) ls st) := by
    intro H' e1 e2 e3
    rw [hsl] at e1 ⊢
    refine kk H' _ ls (hR.upd hμ (fun q hq _ => e3 q hq) hA ?_) (hS.put e2 e3 hA) hl
    unfold cellAt
    rw [if_pos (by omega), hkd, show μ.kd a % 32 - 1 = ci by omega]
    refine ⟨_, h1, t_OB.to (V := updV (fun i => fval μ (32 * ci + i) a) j v) ⟨_, e1, q2, q3, t_set q4 hap hj v⟩ (fun i hi9 => ?_)⟩
    by_cases hij : i = j
    · subst hij
      simp [updV, hv]
    · simp [updV, hij, ho i hi9 hij]
  unfold u_lay at hlay
  rcases hfin with hfin | ⟨hin2, hdecl⟩
  · rw [if_neg (by rw [hfin]; decide)] at hlay
    have h6 := u_store hfc hkC hkind hlay hi hd hn hfit
    exact W.putK hx hb (f := f) ⟨hown, hts _ hlink, ⟨_, _, _, hi2⟩, hst⟩ (by rw [q2]; exact h6) q1 q3 (by rw [hsl]; exact k2_hasslot (q4 j hj)) rfl rfl d key
  · by_cases hf : (T j).2.2.2 = true
    · rw [if_pos hf] at hlay
      have hcf : m.cls = cf := by
        obtain ⟨_, _, c', _, _, _, -, -, hf', -, -, -, hown2, -⟩ := Cond.laysFinal_spec hlay
        have e1 : c' = cf := by have := hi.symm.trans hf'; simp at this; exact this.1.symm
        rw [hdecl] at hown2
        rw [← e1]; exact Option.some.inj (hown.symm.trans hown2)
      have h6 := u_fits hfc hkC hkind (Or.inr hlay) hi hd hn hfit
      exact W.putFinK hx hb hown (hts _ hlink) hi2 hst hcf hin2 (by rw [q2]; exact h6) q1 q3 (by rw [hsl]; exact k2_hasslot (q4 j hj)) rfl rfl d key
    · rw [if_neg hf] at hlay
      have h6 := u_store hfc hkC hkind hlay hi hd hn hfit
      exact W.putK hx hb (f := f) ⟨hown, hts _ hlink, ⟨_, _, _, hi2⟩, hst⟩ (by rw [q2]; exact h6) q1 q3 (by rw [hsl]; exact k2_hasslot (q4 j hj)) rfl rfl d key
theorem same_sfi {μ : Mem} {f a : Nat} {v : Int32} {q : Nat} (h : q ≠ a) : SameAt μ (μ.sfi f a v) q := ⟨rfl, fun g => by show u2 μ.fi f a v g q = _; unfold u2; split <;> simp [h], fun _ => rfl, fun _ => rfl, rfl, rfl, rfl, rfl⟩
theorem same_sfr {μ : Mem} {f a : Nat} {v : Option Nat} {q : Nat} (h : q ≠ a) : SameAt μ (μ.sfr f a v) q := ⟨rfl, fun _ => rfl, fun g => by show u2 μ.fr f a v g q = _; unfold u2; split <;> simp [h], fun _ => rfl, rfl, rfl, rfl, rfl⟩
theorem same_sfl {μ : Mem} {f a : Nat} {v : Int64} {q : Nat} (h : q ≠ a) : SameAt μ (μ.sfl f a v) q := ⟨rfl, fun _ => rfl, fun _ => rfl, fun g => by show u2 μ.fl f a v g q = _; unfold u2; split <;> simp [h], rfl, rfl, rfl, rfl⟩
theorem fval_sfi {μ : Mem} {f g a : Nat} {v : Int32} (h : g ≠ f) : fval (μ.sfi f a v) g a = fval μ g a := by
  unfold fval
  have e : (μ.sfi f a v).fi g a = μ.fi g a := by show u2 μ.fi f a v g a = _; unfold u2; rw [if_neg h]
  rw [e]; rfl
theorem fval_sfr {μ : Mem} {f g a : Nat} {v : Option Nat} (h : g ≠ f) : fval (μ.sfr f a v) g a = fval μ g a := by
  unfold fval
  have e : (μ.sfr f a v).fr g a = μ.fr g a := by show u2 μ.fr f a v g a = _; unfold u2; rw [if_neg h]
  rw [e]; rfl
theorem fval_sfl {μ : Mem} {f g a : Nat} {v : Int64} (h : g ≠ f) : fval (μ.sfl f a v) g a = fval μ g a := by
  unfold fval
  have e : (μ.sfl f a v).fl g a = μ.fl g a := by show u2 μ.fl f a v g a = _; unfold u2; rw [if_neg h]
  rw [e]; rfl
theorem h_putfI {Z : Zx} {own : String} {cc : ByteArray} {rf rc rs rl k n pc : Nat} {L : List (Option Value)} {st : List Value} {μ : Mem} {idx ci j N a : Nat} {Cn : String} {T : u_T} {v : Int32} {ref : String} {ty0 : Nat → FieldType} {ty : FieldType} (C : Cx Z own cc rf rc rs rl) (hin : ∀ w ∈ u_ws Cn T N, w ∈ lw_good) (hty : ∀ k, k < N → parseFieldDescriptor (T k).2.2.1 = some (ty0 k)) (hnm : ∀ a, a < N → ∀ b, b < N → a ≠ b → (T a).2.1 ≠ (T b).2.1) (hc : vwCl[ci]? = some (Cn, T, N)) (hci : ci < 10) (hj : j < N) (hlink : Cond.fieldLink own idx ref (T j).2.1 (T j).2.2.1 ∈ lw_good) (hsame : ref = (T j).1 ∨ Cond.sameField ref (T j).1 (T j).2.1 (T j).2.2.1 ∈ lw_good)
    (hfin : (T j).2.2.2 = false ∨ (Mt Z "<init>" ∧ (T j).1 = own)) (hd : parseFieldDescriptor (T j).2.2.1 = some ty) (hft : fty (32 * ci + j) = 0) (hn : narrow ty (.int v) = .int v) (hfit : fits ty (.int v) = true) (d : decode cc pc = .ok (.putfield idx, 3)) (hk : μ.kd a % 32 = ci + 1)
    (kk : HW Z k n (pc + 3) L st (μ.sfi (32 * ci + j) a v)) : HW Z k n pc L (.int v :: .ref a :: st) μ :=
  h_putf C hin hty hnm hc hci hj hlink hsame hfin hd hn hfit d hk (fun q hq => same_sfi hq) rfl (by unfold fval; rw [if_pos hft]; show Value.int (u2 _ _ _ _ _ _) = _; unfold u2; simp) (fun i _ hij => fval_sfi (by omega)) kk
theorem h_putfR {Z : Zx} {own : String} {cc : ByteArray} {rf rc rs rl k n pc : Nat} {L : List (Option Value)} {st : List Value} {μ : Mem} {idx ci j N a : Nat} {Cn : String} {T : u_T} {r : Option Nat} {ref : String} {ty0 : Nat → FieldType} {ty : FieldType} (C : Cx Z own cc rf rc rs rl) (hin : ∀ w ∈ u_ws Cn T N, w ∈ lw_good) (hty : ∀ k, k < N → parseFieldDescriptor (T k).2.2.1 = some (ty0 k)) (hnm : ∀ a, a < N → ∀ b, b < N → a ≠ b → (T a).2.1 ≠ (T b).2.1) (hc : vwCl[ci]? = some (Cn, T, N)) (hci : ci < 10) (hj : j < N) (hlink : Cond.fieldLink own idx ref (T j).2.1 (T j).2.2.1 ∈ lw_good) (hsame : ref = (T j).1 ∨ Cond.sameField ref (T j).1 (T j).2.1 (T j).2.2.1 ∈ lw_good)
    (hfin : (T j).2.2.2 = false ∨ (Mt Z "<init>" ∧ (T j).1 = own)) (hd : parseFieldDescriptor (T j).2.2.1 = some ty) (hft : fty (32 * ci + j) = 1) (href : ty.isReference = true) (d : decode cc pc = .ok (.putfield idx, 3)) (hk : μ.kd a % 32 = ci + 1)
    (kk : HW Z k n (pc + 3) L st (μ.sfr (32 * ci + j) a r)) : HW Z k n pc L (va_rf r :: .ref a :: st) μ :=
  h_putf C hin hty hnm hc hci hj hlink hsame hfin hd (by cases r <;> cases ty <;> first | rfl | cases href) (by cases r <;> cases ty <;> first | rfl | cases href) d hk (fun q hq => same_sfr hq) rfl (by unfold fval; rw [if_neg (by rw [hft]; decide), if_pos hft]; show va_rf (u2 _ _ _ _ _ _) = _; unfold u2; simp) (fun i _ hij => fval_sfr (by omega)) kk
theorem h_putfL {Z : Zx} {own : String} {cc : ByteArray} {rf rc rs rl k n pc : Nat} {L : List (Option Value)} {st : List Value} {μ : Mem} {idx ci j N a : Nat} {Cn : String} {T : u_T} {v : Int64} {ref : String} {ty0 : Nat → FieldType} (C : Cx Z own cc rf rc rs rl) (hin : ∀ w ∈ u_ws Cn T N, w ∈ lw_good) (hty : ∀ k, k < N → parseFieldDescriptor (T k).2.2.1 = some (ty0 k)) (hnm : ∀ a, a < N → ∀ b, b < N → a ≠ b → (T a).2.1 ≠ (T b).2.1) (hc : vwCl[ci]? = some (Cn, T, N)) (hci : ci < 10) (hj : j < N) (hlink : Cond.fieldLink own idx ref (T j).2.1 (T j).2.2.1 ∈ lw_good) (hsame : ref = (T j).1 ∨ Cond.sameField ref (T j).1 (T j).2.1 (T j).2.2.1 ∈ lw_good)
    (hfin : (T j).2.2.2 = false ∨ (Mt Z "<init>" ∧ (T j).1 = own)) (hd : parseFieldDescriptor (T j).2.2.1 = some .long) (hft : fty (32 * ci + j) = 2) (d : decode cc pc = .ok (.putfield idx, 3)) (hk : μ.kd a % 32 = ci + 1)
    (kk : HW Z k n (pc + 3) L st (μ.sfl (32 * ci + j) a v)) : HW Z k n pc L (.long v :: .ref a :: st) μ :=
  h_putf C hin hty hnm hc hci hj hlink hsame hfin hd rfl rfl d hk (fun q hq => same_sfl hq) rfl (by unfold fval; rw [if_neg (by rw [hft]; decide), if_neg (by rw [hft]; decide)]; show Value.long (u2 _ _ _ _ _ _) = _; unfold u2; simp) (fun i _ hij => fval_sfl (by omega)) kk
/-! making -/
theorem h_new {Z : Zx} {own : String} {cc : ByteArray} {rf rc rs rl k n pc : Nat} {L : List (Option Value)} {st : List Value} {μ : Mem} {idx ci N : Nat} {Cn : String} {T : u_T} {ty0 : Nat → FieldType} (kd : Nat) (C : Cx Z own cc rf rc rs rl) (hin : ∀ w ∈ u_ws Cn T N, w ∈ lw_good) (hty : ∀ k, k < N → parseFieldDescriptor (T k).2.2.1 = some (ty0 k)) (hc : vwCl[ci]? = some (Cn, T, N)) (hci : ci < 10) (hcl : Cond.classLink own idx Cn ∈ lw_good) (hinst : Cond.instantiable Cn N ∈ lw_good) (hini : Cond.initialized Cn ∈ lw_good) (hdef : ∀ j, j < N → defaultValue (ty0 j) = if fty (32 * ci + j) = 0 then .int 0 else if fty (32 * ci + j) = 1 then .null else .long 0)
    (d : decode cc pc = .ok (.new idx, 3)) (hk : kd % 32 = ci + 1) (h1 : k + 1 ≤ rc) (h2 : n + N ≤ rs)
    (kk : ∀ a : Nat, μ.kd a = 0 → HW Z (k + 1) (n + N) (pc + 3) L (.ref a :: st) (μ.newO a kd)) : HW Z k n pc L st μ := by
  obtain ⟨p, l, e, R, s, m, args, below, meth, c, G, A, nL, Q⟩ := Z
  obtain ⟨⟨hx, hb, hml, hown, hts⟩, rfl, hK, hE, hA, _⟩ := C
  intro H locs ls hR hS hl
  have hKn := hK.1.1 ci _ hc
  refine W.newcK hx hb hown (hts _ hcl) (hts _ hinst) (hts _ hini) rfl d h1 h2 hKn.2.1 rfl fun H1 kC hkC e1 z1 o1 => ?_
  have hfr : μ.kd H.size = 0 := hR.fresh (Nat.le_refl _)
  refine kk H.size hfr H1 locs ls (hR.upd (a := H.size) (fun q hq => ?_) (fun q _ hlt => o1 q hlt) (hA _ hS.1) ?_) ⟨Nat.le_trans hS.1 (by omega), fun q a1 a2 => (o1 q (Nat.lt_of_lt_of_le a1 hS.1)).trans (hS.2.1 q a1 a2), hS.2.2⟩ hl
  · refine ⟨?_, fun f => ?_, fun f => ?_, fun f => ?_, rfl, rfl, rfl, rfl⟩
    · show u1 μ.kd _ _ q = _; unfold u1; rw [if_neg hq]
    · show ua μ.fi _ _ f q = _; unfold ua; rw [if_neg hq]
    · show ua μ.fr _ _ f q = _; unfold ua; rw [if_neg hq]
    · show ua μ.fl _ _ f q = _; unfold ua; rw [if_neg hq]
  · have hkd : (μ.newO H.size kd).kd H.size = kd := by show u1 μ.kd _ _ _ = _; unfold u1; rw [if_pos rfl]
    unfold cellAt
    rw [hkd, if_pos (by omega), show kd % 32 - 1 = ci by omega]
    refine ⟨_, hc, (u_born ty0 hts hin hKn hkC e1 hty).to (fun j hj => ?_)⟩
    show defaultValue (ty0 j) = _
    rw [hdef j hj]
    unfold fval
    have f1 : (μ.newO H.size kd).fi (32 * ci + j) H.size = 0 := by show ua μ.fi _ _ _ _ = _; unfold ua; rw [if_pos rfl]
    have f2 : (μ.newO H.size kd).fr (32 * ci + j) H.size = none := by show ua μ.fr _ _ _ _ = _; unfold ua; rw [if_pos rfl]
    have f3 : (μ.newO H.size kd).fl (32 * ci + j) H.size = 0 := by show ua μ.fl _ _ _ _ = _; unfold ua; rw [if_pos rfl]
    rw [f1, f2, f3]
    rfl
theorem same_newA {μ : Mem} {a kd N q : Nat} (hq : q ≠ a) : SameAt μ (μ.newA a kd N) q := by
  refine ⟨?_, fun f => rfl, fun f => rfl, fun f => rfl, ?_, ?_, ?_, ?_⟩
  · show u1 μ.kd _ _ q = _; unfold u1; rw [if_neg hq]
  · show u1 μ.ln _ _ q = _; unfold u1; rw [if_neg hq]
  · show ub μ.ei _ _ q = _; unfold ub; funext i; rw [if_neg hq]
  · show ub μ.er _ _ q = _; unfold ub; funext i; rw [if_neg hq]
  · show ub μ.el _ _ q = _; unfold ub; funext i; rw [if_neg hq]
theorem cell_newA {G : Gx} {μ : Mem} {a kd N : Nat} {H : Heap} (hb : 10 < kd % 32) (h : H[a]? = some (arrV (G.2.1 (kd % 32)) N (fun _ => if kd % 32 ≤ 12 then .int 0 else if kd % 32 = 13 then .long 0 else .null))) : cellAt G (μ.newA a kd N) a H := by
  have hkd : (μ.newA a kd N).kd a = kd := by show u1 μ.kd _ _ _ = _; unfold u1; rw [if_pos rfl]
  have hln : (μ.newA a kd N).ln a = N := by show u1 μ.ln _ _ _ = _; unfold u1; rw [if_pos rfl]
  unfold cellAt
  rw [hkd, if_neg (by omega), h, hln]
  congr 2
  funext i
  unfold aval
  have f1 : (μ.newA a kd N).ei a i = 0 := by show (if a = a then (0 : Int32) else μ.ei a i) = 0; exact if_pos rfl
  have f2 : (μ.newA a kd N).er a i = none := by show (if a = a then (none : Option Nat) else μ.er a i) = none; exact if_pos rfl
  have f3 : (μ.newA a kd N).el a i = 0 := by show (if a = a then (0 : Int64) else μ.el a i) = 0; exact if_pos rfl
  rw [f1, f2, f3]
  rfl
theorem h_newarr {Z : Zx} {own : String} {cc : ByteArray} {rf rc rs rl k n pc : Nat} {L : List (Option Value)} {st : List Value} {μ : Mem} {x : Int32} {N : Nat} {atype : ArrayType} (kd : Nat) (C : Cx Z own cc rf rc rs rl) (hcl : Cond.arrayClass (newarray.typeOf atype) ∈ lw_good) (hty : tyA (kd % 32) = newarray.typeOf atype) (hb : kd % 32 = 11 ∨ kd % 32 = 12 ∨ kd % 32 = 13) (d : decode cc pc = .ok (.newarray atype, 2)) (hx0 : ¬ x < 0) (hN : x.toNatClampNeg = N) (hbytes : N * 8 ≤ 536870912) (h1 : k + 1 ≤ rc) (h2 : n + N ≤ rs)
    (kk : ∀ a : Nat, μ.kd a = 0 → HW Z (k + 1) (n + N) (pc + 2) L (.ref a :: st) (μ.newA a kd N)) : HW Z k n pc L (.int x :: st) μ := by
  obtain ⟨p, l, e, R, s, m, args, below, meth, c, G, A, nL, Q⟩ := Z
  obtain ⟨⟨hx, hbb, hml, hown, hts⟩, rfl, hK, hE, hA, _⟩ := C
  intro H locs ls hR hS hl
  refine va_newaK hx hbb (hts _ hcl) rfl d rfl hx0 hN (by cases atype <;> simp [newarray.typeOf, componentBytes] <;> omega) h1 h2 rfl fun H1 cA e1 z1 o1 hAr hNm => ?_
  have hfr : μ.kd H.size = 0 := hR.fresh (Nat.le_refl _)
  have hcA : cA = G.2.1 (kd % 32) := by
    rcases hb with hb | hb | hb
    · have h3 := (hK.1.2 0 (G.2.1 11, .int) rfl).2
      rw [hb] at hty ⊢
      rw [← hty] at hNm
      exact Option.some.inj (hNm.symm.trans h3)
    · have h3 := (hK.1.2 1 (G.2.1 12, .boolean) rfl).2
      rw [hb] at hty ⊢
      rw [← hty] at hNm
      exact Option.some.inj (hNm.symm.trans h3)
    · have h3 := (hK.1.2 2 (G.2.1 13, .long) rfl).2
      rw [hb] at hty ⊢
      rw [← hty] at hNm
      exact Option.some.inj (hNm.symm.trans h3)
  refine kk H.size hfr H1 locs ls (hR.upd (a := H.size) (fun q hq => same_newA hq) (fun q _ hlt => o1 q hlt) (hA _ hS.1) (cell_newA (by omega) ?_)) ⟨Nat.le_trans hS.1 (by omega), fun q a1 a2 => (o1 q (Nat.lt_of_lt_of_le a1 hS.1)).trans (hS.2.1 q a1 a2), hS.2.2⟩ hl
  rw [e1, hcA]
  congr 2
  funext i
  rw [← hty]
  rcases hb with hb | hb | hb <;> rw [hb] <;> rfl
theorem h_anew {Z : Zx} {own : String} {cc : ByteArray} {rf rc rs rl k n pc : Nat} {L : List (Option Value)} {st : List Value} {μ : Mem} {x : Int32} {N idx : Nat} {Cn : String} (kd : Nat) (C : Cx Z own cc rf rc rs rl) (hcl : Cond.classLink own idx Cn ∈ lw_good) (hov : FieldType.object Cn ∈ aoTys) (hty : (kd % 32 = 14 ∨ kd % 32 = 15 ∨ kd % 32 = 16) ∧ tyA (kd % 32) = .object Cn) (d : decode cc pc = .ok (.anewarray idx, 3)) (hx0 : ¬ x < 0) (hN : x.toNatClampNeg = N) (hbytes : N * 4 ≤ 536870912) (h1 : k + 1 ≤ rc) (h2 : n + N ≤ rs)
    (kk : ∀ a : Nat, μ.kd a = 0 → HW Z (k + 1) (n + N) (pc + 3) L (.ref a :: st) (μ.newA a kd N)) : HW Z k n pc L (.int x :: st) μ := by
  obtain ⟨p, l, e, R, s, m, args, below, meth, c, G, A, nL, Q⟩ := Z
  obtain ⟨⟨hx, hbb, hml, hown, hts⟩, rfl, hK, hE, hA, _⟩ := C
  intro H locs ls hR hS hl
  subst hN
  refine W.anew hx hbb hown (hts _ hcl) (va_AO.use (hK.2.2.2.1 _ hov)) rfl d rfl hx0 hbytes h1 h2 fun cA kA comp f1 f2 f3 f4 => ?_
  generalize hH1 : H.push ({ cls := cA, slots := Array.replicate x.toNatClampNeg .null, vm := .none } : Cell) = H1
  have z1 : H1.size = H.size + 1 := by rw [← hH1, Array.size_push]
  have e1 : H1[H.size]? = some (arrV cA x.toNatClampNeg (fun _ => .null)) := by rw [← hH1, Array.getElem?_push_size, ← arrV_new]
  have o1 : ∀ q : Nat, q < H.size → H1[q]? = H[q]? := fun q hq => by rw [← hH1, Array.getElem?_push, if_neg (Nat.ne_of_lt hq)]
  have hfr : μ.kd H.size = 0 := hR.fresh (Nat.le_refl _)
  have hcA : cA = G.2.1 (kd % 32) := by
    obtain ⟨hb, hty⟩ := hty
    rcases hb with hb | hb | hb
    · obtain ⟨-, -, -, -, -, h3⟩ := (hK.1.2 3 (G.2.1 14, .object "java/lang/Object") rfl).2
      rw [hb] at hty ⊢
      rw [← hty] at f1
      exact Option.some.inj (f1.symm.trans h3)
    · obtain ⟨-, -, -, -, -, h3⟩ := (hK.1.2 4 (G.2.1 15, .object "Burrowline$End") rfl).2
      rw [hb] at hty ⊢
      rw [← hty] at f1
      exact Option.some.inj (f1.symm.trans h3)
    · obtain ⟨-, -, -, -, -, h3⟩ := (hK.1.2 5 (G.2.1 16, .object "Burrowline$Link") rfl).2
      rw [hb] at hty ⊢
      rw [← hty] at f1
      exact Option.some.inj (f1.symm.trans h3)
  refine kk H.size hfr H1 locs ls (hR.upd (a := H.size) (fun q hq => same_newA hq) (fun q _ hlt => o1 q hlt) (hA _ hS.1) (cell_newA (by omega) ?_)) ⟨Nat.le_trans hS.1 (by omega), fun q a1 a2 => (o1 q (Nat.lt_of_lt_of_le a1 hS.1)).trans (hS.2.1 q a1 a2), hS.2.2⟩ hl
  rw [e1, hcA]
  congr 2
  funext i
  obtain ⟨hb, -⟩ := hty
  rw [if_neg (by omega), if_neg (by omega)]
/-! arrays: reading and writing -/
theorem tyAt {G : Gx} {s : State} (hK : va_K G.1 vwCl (tysOf G.2.1) s) {b : Nat} (h1 : 10 < b) (h2 : b < 23) : ArrOfT s (G.2.1 b) (tyA b) := by
  have h := fun k q hq => (hK.2 k q hq).1
  have hb : b = 11 ∨ b = 12 ∨ b = 13 ∨ b = 14 ∨ b = 15 ∨ b = 16 ∨ b = 17 ∨ b = 18 ∨ b = 19 ∨ b = 20 ∨ b = 21 ∨ b = 22 := by omega
  rcases hb with rfl | rfl | rfl | rfl | rfl | rfl | rfl | rfl | rfl | rfl | rfl | rfl
  · exact h 0 (G.2.1 11, .int) rfl
  · exact h 1 (G.2.1 12, .boolean) rfl
  · exact h 2 (G.2.1 13, .long) rfl
  · exact h 3 (G.2.1 14, .object "java/lang/Object") rfl
  · exact h 4 (G.2.1 15, .object "Burrowline$End") rfl
  · exact h 5 (G.2.1 16, .object "Burrowline$Link") rfl
  · exact h 6 (G.2.1 17, .array .int) rfl
  · exact h 7 (G.2.1 18, .array (.array .int)) rfl
  · exact h 8 (G.2.1 19, .array (.array (.array .int))) rfl
  · exact h 9 (G.2.1 20, .array .boolean) rfl
  · exact h 10 (G.2.1 21, .array (.array .boolean)) rfl
  · exact h 11 (G.2.1 22, .array (.array (.array .boolean))) rfl
theorem h_alen {Z : Zx} {own : String} {cc : ByteArray} {rf rc rs rl k n pc : Nat} {L : List (Option Value)} {st : List Value} {μ : Mem} {a N : Nat} (C : Cx Z own cc rf rc rs rl) (d : decode cc pc = .ok (.arraylength, 1)) (hk : 10 < μ.kd a % 32 ∧ μ.kd a % 32 < 23) (hN : μ.ln a = N)
    (kk : HW Z k n (pc + 1) L (.int (Int32.ofNat N) :: st) μ) : HW Z k n pc L (.ref a :: st) μ := by
  obtain ⟨p, l, e, R, s, m, args, below, meth, c, G, A, nL, Q⟩ := Z
  obtain ⟨⟨hx, hb, hml, hown, hts⟩, _, hK, _⟩ := C
  intro H locs ls hR hS hl
  exact W.alen (n := Int32.ofNat N) hx hb (hR.arr rfl hk.1) (tyAt hK.1 hk.1 hk.2 _ _) (by rw [arrV_size, hN] <;> rfl) rfl rfl d (kk H locs ls hR hS hl)
theorem h_iald {Z : Zx} {own : String} {cc : ByteArray} {rf rc rs rl k n pc : Nat} {L : List (Option Value)} {st : List Value} {μ : Mem} {a : Nat} {i v : Int32} (C : Cx Z own cc rf rc rs rl) (d : decode cc pc = .ok (.iaload, 1)) (hk : μ.kd a % 32 = 11) (hin : vp_in i (μ.ln a)) (hv : μ.ei a i.toNatClampNeg = v)
    (kk : HW Z k n (pc + 1) L (.int v :: st) μ) : HW Z k n pc L (.int i :: .ref a :: st) μ := by
  obtain ⟨p, l, e, R, s, m, args, below, meth, c, G, A, nL, Q⟩ := Z
  obtain ⟨⟨hx, hb, hml, hown, hts⟩, _, hK, _⟩ := C
  intro H locs ls hR hS hl
  have hlt : i.toNatClampNeg < μ.ln a := Nat.not_le.mp fun q => hin (Or.inr q)
  exact W.iald (v := .int v) hx hb (hR.arr hk (by decide)) (tyAt hK.1 (b := 11) (by decide) (by decide) _ _) (fun q => by cases q) (by rw [arrV_size]; exact hin) (by rw [arrV_read _ _ hlt]; exact congrArg (fun z => some (Value.int z)) hv) rfl rfl d (kk H locs ls hR hS hl)
theorem h_zald {Z : Zx} {own : String} {cc : ByteArray} {rf rc rs rl k n pc : Nat} {L : List (Option Value)} {st : List Value} {μ : Mem} {a : Nat} {i v : Int32} (C : Cx Z own cc rf rc rs rl) (d : decode cc pc = .ok (.baload, 1)) (hk : μ.kd a % 32 = 12) (hin : vp_in i (μ.ln a)) (hv : μ.ei a i.toNatClampNeg = v)
    (kk : HW Z k n (pc + 1) L (.int v :: st) μ) : HW Z k n pc L (.int i :: .ref a :: st) μ := by
  obtain ⟨p, l, e, R, s, m, args, below, meth, c, G, A, nL, Q⟩ := Z
  obtain ⟨⟨hx, hb, hml, hown, hts⟩, _, hK, _⟩ := C
  intro H locs ls hR hS hl
  have hlt : i.toNatClampNeg < μ.ln a := Nat.not_le.mp fun q => hin (Or.inr q)
  exact W.zald (v := .int v) hx hb (hR.arr hk (by decide)) (tyAt hK.1 (b := 12) (by decide) (by decide) _ _) (fun q => by cases q) (by rw [arrV_size]; exact hin) (by rw [arrV_read _ _ hlt]; exact congrArg (fun z => some (Value.int z)) hv) rfl rfl d (kk H locs ls hR hS hl)
theorem h_lald {Z : Zx} {own : String} {cc : ByteArray} {rf rc rs rl k n pc : Nat} {L : List (Option Value)} {st : List Value} {μ : Mem} {a : Nat} {i : Int32} {v : Int64} (C : Cx Z own cc rf rc rs rl) (d : decode cc pc = .ok (.laload, 1)) (hk : μ.kd a % 32 = 13) (hin : vp_in i (μ.ln a)) (hv : μ.el a i.toNatClampNeg = v)
    (kk : HW Z k n (pc + 1) L (.long v :: st) μ) : HW Z k n pc L (.int i :: .ref a :: st) μ := by
  obtain ⟨p, l, e, R, s, m, args, below, meth, c, G, A, nL, Q⟩ := Z
  obtain ⟨⟨hx, hb, hml, hown, hts⟩, _, hK, _⟩ := C
  intro H locs ls hR hS hl
  have hlt : i.toNatClampNeg < μ.ln a := Nat.not_le.mp fun q => hin (Or.inr q)
  exact W.lald (v := .long v) hx hb (hR.arr hk (by decide)) (tyAt hK.1 (b := 13) (by decide) (by decide) _ _) (fun q => by cases q) (by rw [arrV_size]; exact hin) (by rw [arrV_read _ _ hlt]; exact congrArg (fun z => some (Value.long z)) hv) rfl rfl d (kk H locs ls hR hS hl)
theorem tyA_ref {b : Nat} (h1 : 13 < b) : (tyA b).isReference = true := by
  unfold tyA
  split <;> first | rfl | omega
theorem h_aald {Z : Zx} {own : String} {cc : ByteArray} {rf rc rs rl k n pc : Nat} {L : List (Option Value)} {st : List Value} {μ : Mem} {a : Nat} {i : Int32} {r : Option Nat} (C : Cx Z own cc rf rc rs rl) (d : decode cc pc = .ok (.aaload, 1)) (hk : 13 < μ.kd a % 32 ∧ μ.kd a % 32 < 23) (hin : vp_in i (μ.ln a)) (hv : μ.er a i.toNatClampNeg = r)
    (kk : HW Z k n (pc + 1) L (va_rf r :: st) μ) : HW Z k n pc L (.int i :: .ref a :: st) μ := by
  obtain ⟨p, l, e, R, s, m, args, below, meth, c, G, A, nL, Q⟩ := Z
  obtain ⟨⟨hx, hb, hml, hown, hts⟩, _, hK, _⟩ := C
  intro H locs ls hR hS hl
  have hlt : i.toNatClampNeg < μ.ln a := Nat.not_le.mp fun q => hin (Or.inr q)
  refine W.aald (v := va_rf r) hx hb (hR.arr rfl (by omega)) (tyAt hK.1 (by omega) hk.2 _ _) (tyA_ref hk.1) (fun q => by cases q) (by rw [arrV_size]; exact hin) ?_ rfl rfl d (kk H locs ls hR hS hl)
  rw [arrV_read _ _ hlt]
  unfold aval
  rw [if_neg (by omega), if_neg (by omega), hv]
theorem same_sei {μ : Mem} {a i : Nat} {v : Int32} {q : Nat} (h : q ≠ a) : SameAt μ (μ.sei a i v) q := ⟨rfl, fun _ => rfl, fun _ => rfl, fun _ => rfl, rfl, by funext j; show u2 μ.ei a i v q j = _; unfold u2; rw [if_neg h], rfl, rfl⟩
theorem same_ser {μ : Mem} {a i : Nat} {v : Option Nat} {q : Nat} (h : q ≠ a) : SameAt μ (μ.ser a i v) q := ⟨rfl, fun _ => rfl, fun _ => rfl, fun _ => rfl, rfl, rfl, by funext j; show u2 μ.er a i v q j = _; unfold u2; rw [if_neg h], rfl⟩
theorem same_sel {μ : Mem} {a i : Nat} {v : Int64} {q : Nat} (h : q ≠ a) : SameAt μ (μ.sel a i v) q := ⟨rfl, fun _ => rfl, fun _ => rfl, fun _ => rfl, rfl, rfl, rfl, by funext j; show u2 μ.el a i v q j = _; unfold u2; rw [if_neg h]⟩
theorem h_iast {Z : Zx} {own : String} {cc : ByteArray} {rf rc rs rl k n pc : Nat} {L : List (Option Value)} {st : List Value} {μ : Mem} {a : Nat} {i x : Int32} (C : Cx Z own cc rf rc rs rl) (d : decode cc pc = .ok (.iastore, 1)) (hk : μ.kd a % 32 = 11) (hin : vp_in i (μ.ln a))
    (kk : HW Z k n (pc + 1) L st (μ.sei a i.toNatClampNeg x)) : HW Z k n pc L (.int x :: .int i :: .ref a :: st) μ := by
  obtain ⟨p, l, e, R, s, m, args, below, meth, c, G, A, nL, Q⟩ := Z
  obtain ⟨⟨hx, hb, hml, hown, hts⟩, _, hK, _⟩ := C
  intro H locs ls hR hS hl
  have hA := (hR a (by omega)).1
  have hc := hR.arr hk (by decide)
  refine W.iast hx hb hc (tyAt hK.1 (b := 11) (by decide) (by decide) _ _) (fun q => by cases q) (by rw [arrV_size]; exact hin) rfl rfl d fun H1 e1 z oq => ?_
  refine kk H1 _ ls (hR.upd (fun q hq => same_sei hq) (fun q hq _ => oq q hq) hA ?_) (hS.put z oq hA) hl
  unfold cellAt
  show (if μ.kd a % 32 ≤ 10 then _ else H1[a]? = some (arrV (G.2.1 (μ.kd a % 32)) (μ.ln a) (aval (μ.sei a i.toNatClampNeg x) (μ.kd a % 32) a)))
  rw [if_neg (by omega), e1, arrV_store, hk]
  congr 2
  funext q
  show updV _ _ _ q = Value.int (u2 μ.ei a i.toNatClampNeg x a q)
  unfold updV u2
  rw [if_pos rfl]
  by_cases hq : q = i.toNatClampNeg
  · rw [if_pos hq, if_pos hq]
  · rw [if_neg hq, if_neg hq]; rfl
theorem h_zast {Z : Zx} {own : String} {cc : ByteArray} {rf rc rs rl k n pc : Nat} {L : List (Option Value)} {st : List Value} {μ : Mem} {a : Nat} {i x : Int32} (C : Cx Z own cc rf rc rs rl) (d : decode cc pc = .ok (.bastore, 1)) (hk : μ.kd a % 32 = 12) (hin : vp_in i (μ.ln a)) (hx01 : x = 0 ∨ x = 1)
    (kk : HW Z k n (pc + 1) L st (μ.sei a i.toNatClampNeg x)) : HW Z k n pc L (.int x :: .int i :: .ref a :: st) μ := by
  obtain ⟨p, l, e, R, s, m, args, below, meth, c, G, A, nL, Q⟩ := Z
  obtain ⟨⟨hx, hb, hml, hown, hts⟩, _, hK, _⟩ := C
  intro H locs ls hR hS hl
  have hA := (hR a (by omega)).1
  have hc := hR.arr hk (by decide)
  refine W.zast hx hb hc (tyAt hK.1 (b := 12) (by decide) (by decide) _ _) (fun q => by cases q) (by rw [arrV_size]; exact hin) rfl rfl d fun H1 e1 z oq => ?_
  refine kk H1 _ ls (hR.upd (fun q hq => same_sei hq) (fun q hq _ => oq q hq) hA ?_) (hS.put z oq hA) hl
  unfold cellAt
  show (if μ.kd a % 32 ≤ 10 then _ else H1[a]? = some (arrV (G.2.1 (μ.kd a % 32)) (μ.ln a) (aval (μ.sei a i.toNatClampNeg x) (μ.kd a % 32) a)))
  have hnr : narrow .boolean (.int x) = .int x := by rcases hx01 with rfl | rfl <;> rfl
  rw [if_neg (by omega), e1, hnr, arrV_store, hk]
  congr 2
  funext q
  show updV _ _ _ q = Value.int (u2 μ.ei a i.toNatClampNeg x a q)
  unfold updV u2
  rw [if_pos rfl]
  by_cases hq : q = i.toNatClampNeg
  · rw [if_pos hq, if_pos hq]
  · rw [if_neg hq, if_neg hq]; rfl
theorem h_last {Z : Zx} {own : String} {cc : ByteArray} {rf rc rs rl k n pc : Nat} {L : List (Option Value)} {st : List Value} {μ : Mem} {a : Nat} {i : Int32} {x : Int64} (C : Cx Z own cc rf rc rs rl) (d : decode cc pc = .ok (.lastore, 1)) (hk : μ.kd a % 32 = 13) (hin : vp_in i (μ.ln a))
    (kk : HW Z k n (pc + 1) L st (μ.sel a i.toNatClampNeg x)) : HW Z k n pc L (.long x :: .int i :: .ref a :: st) μ := by
  obtain ⟨p, l, e, R, s, m, args, below, meth, c, G, A, nL, Q⟩ := Z
  obtain ⟨⟨hx, hb, hml, hown, hts⟩, _, hK, _⟩ := C
  intro H locs ls hR hS hl
  have hA := (hR a (by omega)).1
  have hc := hR.arr hk (by decide)
  refine W.last hx hb hc (tyAt hK.1 (b := 13) (by decide) (by decide) _ _) (fun q => by cases q) (by rw [arrV_size]; exact hin) rfl rfl d fun H1 e1 z oq => ?_
  refine kk H1 _ ls (hR.upd (fun q hq => same_sel hq) (fun q hq _ => oq q hq) hA ?_) (hS.put z oq hA) hl
  unfold cellAt
  show (if μ.kd a % 32 ≤ 10 then _ else H1[a]? = some (arrV (G.2.1 (μ.kd a % 32)) (μ.ln a) (aval (μ.sel a i.toNatClampNeg x) (μ.kd a % 32) a)))
  rw [if_neg (by omega), e1, arrV_store, hk]
  congr 2
  funext q
  show updV _ _ _ q = Value.long (u2 μ.el a i.toNatClampNeg x a q)
  unfold updV u2
  rw [if_pos rfl]
  by_cases hq : q = i.toNatClampNeg
  · rw [if_pos hq, if_pos hq]
  · rw [if_neg hq, if_neg hq]; rfl
theorem RepH.cls {G : Gx} {A : Nat → Prop} {μ : Mem} {H : Heap} (h : RepH G A μ H) {a b : Nat} (hk : μ.kd a % 32 = b) (hb : 0 < b) : ∃ cell : Cell, H[a]? = some cell ∧ cell.vm = .none ∧ cell.cls = clsOf G b := by
  unfold clsOf
  by_cases c : b ≤ 10
  · obtain ⟨r, -, cell, g1, g2, g3, -⟩ := h.obj (a := a) (ci := b - 1) (by omega) (by omega)
    exact ⟨cell, g1, g3, by rw [if_pos c]; exact g2⟩
  · exact ⟨_, h.arr hk (by omega), rfl, by rw [if_neg c]; rfl⟩
theorem aval_r {μ : Mem} {b a i : Nat} (h : 13 < b) : aval μ b a i = va_rf (μ.er a i) := by
  unfold aval
  rw [if_neg (by omega), if_neg (by omega)]
theorem h_aast {Z : Zx} {own : String} {cc : ByteArray} {rf rc rs rl k n pc : Nat} {L : List (Option Value)} {st : List Value} {μ : Mem} {a v : Nat} {i : Int32} (C : Cx Z own cc rf rc rs rl) (d : decode cc pc = .ok (.aastore, 1)) (hk : (μ.kd a % 32, μ.kd v % 32) ∈ asPairs) (hin : vp_in i (μ.ln a))
    (kk : HW Z k n (pc + 1) L st (μ.ser a i.toNatClampNeg (some v))) : HW Z k n pc L (.ref v :: .int i :: .ref a :: st) μ := by
  obtain ⟨p, l, e, R, s, m, args, below, meth, c, G, A, nL, Q⟩ := Z
  obtain ⟨⟨hx, hb, hml, hown, hts⟩, _, hK, _⟩ := C
  intro H locs ls hR hS hl
  have hb14 : 13 < μ.kd a % 32 ∧ 0 < μ.kd v % 32 := by
    have : ∀ q ∈ asPairs, 13 < q.1 ∧ 0 < q.2 := by decide
    exact this _ hk
  have hA := (hR a (by omega)).1
  have hc := hR.arr (a := a) rfl (by omega)
  obtain ⟨kA, kc, kv, comp, ty, h1, h2, h3, h4, h5, h6⟩ := hK.2.1 _ hk
  obtain ⟨cellV, g1, g3, g2⟩ := hR.cls (a := v) rfl hb14.2
  have hlt : i.toNatClampNeg < μ.ln a := Nat.not_le.mp fun q => hin (Or.inr q)
  have h0 : ¬ i < 0 := fun q => hin (Or.inl q)
  refine W.aast hx hb hc (fun q h => by cases h) (fun h => by cases h) h1 h2 h3 h4 ⟨h0, by rw [arrV_size]; exact hlt⟩ g1 (fun q h => by rw [g3] at h; cases h) (by rw [g2]; exact h5) (by rw [g2]; exact h6) rfl rfl d fun H1 e1 z oq => ?_
  refine kk H1 _ ls (hR.upd (fun q hq => same_ser hq) (fun q hq _ => oq q hq) hA ?_) (hS.put z oq hA) hl
  unfold cellAt
  show (if μ.kd a % 32 ≤ 10 then _ else H1[a]? = some (arrV (G.2.1 (μ.kd a % 32)) (μ.ln a) (aval (μ.ser a i.toNatClampNeg (some v)) (μ.kd a % 32) a)))
  rw [if_neg (by omega), e1, arrV_store]
  congr 2
  funext q
  have e9 : (μ.ser a i.toNatClampNeg (some v)).er a q = if q = i.toNatClampNeg then some v else μ.er a q := by
    show u2 μ.er a i.toNatClampNeg (some v) a q = _
    unfold u2
    rw [if_pos rfl]
  rw [aval_r hb14.1, e9]
  unfold updV
  by_cases hq : q = i.toNatClampNeg
  · rw [if_pos hq, if_pos hq]; rfl
  · rw [if_neg hq, if_neg hq, aval_r hb14.1]
theorem h_ret {Z : Zx} {own : String} {cc : ByteArray} {rf rc rs rl k n pc mc ms : Nat} {L : List (Option Value)} {μ : Mem} {Post : Option Value → Mem → Prop} {PostX : String → Mem → Prop} (C : Cx Z own cc rf rc rs rl) (E : Rt Z mc ms none Post PostX) (d : decode cc pc = .ok (.return_, 1)) (h1 : k ≤ mc) (h2 : n ≤ ms) (hp : Post none μ) : HW Z k n pc L [] μ := by
  obtain ⟨p, l, e, R, s, m, args, below, meth, c, G, A, nL, Q⟩ := Z
  obtain ⟨⟨hx, hb, hml, hown, hts⟩, _, hK, _, _, _, hlocks⟩ := C
  obtain ⟨rfl, hr⟩ := E
  intro H locs ls hR hS hl
  exact vx_ret (W.widen h1 h2 (W.vret hx hb hr (fun t ht hW => ⟨none, μ, rfl, hp, by rw [ht]; exact hR, hS.F ht⟩) hS.2.2 d hlocks))
theorem h_iret {Z : Zx} {own : String} {cc : ByteArray} {rf rc rs rl k n pc mc ms : Nat} {L : List (Option Value)} {μ : Mem} {v : Int32} {Post : Option Value → Mem → Prop} {PostX : String → Mem → Prop} (C : Cx Z own cc rf rc rs rl) (E : Rt Z mc ms (some .int) Post PostX) (d : decode cc pc = .ok (.ireturn, 1)) (h1 : k ≤ mc) (h2 : n ≤ ms) (hp : Post (some (.int v)) μ) : HW Z k n pc L [.int v] μ := by
  obtain ⟨p, l, e, R, s, m, args, below, meth, c, G, A, nL, Q⟩ := Z
  obtain ⟨⟨hx, hb, hml, hown, hts⟩, _, hK, _, _, _, hlocks⟩ := C
  obtain ⟨rfl, hr⟩ := E
  intro H locs ls hR hS hl
  exact vx_ret (W.widen h1 h2 (W.iret hx hb hr (fun t ht hW => ⟨_, μ, rfl, hp, by rw [ht]; exact hR, hS.F ht⟩) hS.2.2 d hlocks))
theorem h_zret {Z : Zx} {own : String} {cc : ByteArray} {rf rc rs rl k n pc mc ms : Nat} {L : List (Option Value)} {μ : Mem} {v : Int32} {Post : Option Value → Mem → Prop} {PostX : String → Mem → Prop} (C : Cx Z own cc rf rc rs rl) (E : Rt Z mc ms (some .boolean) Post PostX) (d : decode cc pc = .ok (.ireturn, 1)) (h1 : k ≤ mc) (h2 : n ≤ ms) (hv : v = 0 ∨ v = 1) (hp : Post (some (.int v)) μ) : HW Z k n pc L [.int v] μ := by
  obtain ⟨p, l, e, R, s, m, args, below, meth, c, G, A, nL, Q⟩ := Z
  obtain ⟨⟨hx, hb, hml, hown, hts⟩, _, hK, _, _, _, hlocks⟩ := C
  obtain ⟨rfl, hr⟩ := E
  intro H locs ls hR hS hl
  exact vx_ret (W.widen h1 h2 (W.zret hx hb hr (by rcases hv with rfl | rfl <;> rfl) (fun t ht hW => ⟨_, μ, rfl, hp, by rw [ht]; exact hR, hS.F ht⟩) hS.2.2 d hlocks))
theorem h_aret {Z : Zx} {own : String} {cc : ByteArray} {rf rc rs rl k n pc mc ms : Nat} {L : List (Option Value)} {μ : Mem} {r : Option Nat} {rt : FieldType} {Post : Option Value → Mem → Prop} {PostX : String → Mem → Prop} (C : Cx Z own cc rf rc rs rl) (E : Rt Z mc ms (some rt) Post PostX) (hrt : (∃ n, rt = .object n) ∨ ∃ t, rt = .array t) (d : decode cc pc = .ok (.areturn, 1)) (h1 : k ≤ mc) (h2 : n ≤ ms) (hp : Post (some (va_rf r)) μ) : HW Z k n pc L [va_rf r] μ := by
  obtain ⟨p, l, e, R, s, m, args, below, meth, c, G, A, nL, Q⟩ := Z
  obtain ⟨⟨hx, hb, hml, hown, hts⟩, _, hK, _, _, _, hlocks⟩ := C
  obtain ⟨rfl, hr⟩ := E
  intro H locs ls hR hS hl
  exact vx_ret (W.widen h1 h2 (W.aret hx hb hr hrt (by cases r with | none => exact Or.inl rfl | some y => exact Or.inr ⟨y, rfl⟩) (fun t ht hW => ⟨_, μ, rfl, hp, by rw [ht]; exact hR, hS.F ht⟩) hS.2.2 d hlocks))
/-- not caught here -/
theorem hx_out {Z : Zx} {own : String} {cc : ByteArray} {rf rc rs rl k n pc mc ms : Nat} {ret : Option FieldType} {L : List (Option Value)} {μ : Mem} {X : String} {Post : Option Value → Mem → Prop} {PostX : String → Mem → Prop} (C : Cx Z own cc rf rc rs rl) (E : Rt Z mc ms ret Post PostX) (N : NoTab Z) (h1 : k ≤ mc) (h2 : n ≤ ms) (hp : PostX X μ) : HX Z k n pc L X μ := by
  obtain ⟨p, l, e, R, s, m, args, below, meth, c, G, A, nL, Q⟩ := Z
  obtain ⟨⟨hx, hb, hml, hown, hts⟩, _, hK, _, _, _, hlocks⟩ := C
  obtain ⟨rfl, hr⟩ := E
  intro H locs ls rest q ce hR hS hl hcell hv hcl
  exact vx_out (fun x hx9 => (N x hx9).elim) hlocks hcell hv hcl (fun t ht hW => ⟨μ, hp, by rw [ht]; exact hR, hS.F ht⟩) hS.2.2 h1 h2
theorem h_objInit {Z : Zx} {own : String} {cc : ByteArray} {rf rc rs rl k n pc idx : Nat} {L : List (Option Value)} {st : List Value} {μ : Mem} {a : Nat} (C : Cx Z own cc rf rc rs rl) (hlink : Cond.methodLink own idx Lib.objectInit ∈ lw_good) (hinst : Cond.instanceMethod Lib.objectInit ∈ lw_good) (hcode : Cond.code Lib.objectInit ⟨#[0xb1]⟩ 1 none ∈ lw_good) (d : decode cc pc = .ok (.invokespecial idx, 3)) (hf : 1 ≤ rf) (hlo : (st.map fun v => v.category).sum + 12 ≤ rl)
    (kk : HW Z k n (pc + 3) L st μ) : HW Z k n pc L (.ref a :: st) μ := by
  obtain ⟨p, l, e, R, s, m, args, below, meth, c, G, A, nL, Q⟩ := Z
  obtain ⟨⟨hx, hb, hml, hown, hts⟩, rfl, hK, _⟩ := C
  intro H locs ls hR hS hl
  exact W.objInit hx hb hown (hts _ hlink) (hts _ hinst) (hts _ hcode) rfl (by rw [hml]; exact hl.1) rfl d hf (by show 2 * 0 + _ + 12 ≤ rl; omega) (kk H locs ls hR hS hl)
end
