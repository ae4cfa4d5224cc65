section
theorem st_string {s : State} {own tx : String} {k : Nat} {A : Array Value} (h : (Cond.stringRef own k tx).before A s = true) : ∃ sa, vk_R own k tx sa s := by
  cases hc : s.vm.findClass own with
  | none =>
    have h2 := h
    simp [Cond.before, Cond.holds, Cond.value, hc] at h2
  | some cur =>
    obtain ⟨_, _, _, a, _, _, _, _, _, h6⟩ := Cond.stringRef_spec hc h
    exact ⟨a, vk_R.of h h6⟩
theorem st_len0 {args : Array Value} {s : State} {tm : Term} {z : Int32} (h : (Cond.eq (.length tm) (.int z)).before args s = true) : (Term.length tm).eval args s none [] s = some (.int z) := by
  cases hv : (Term.length tm).eval args s none [] s with
  | none => simp [Cond.before, Cond.holds, Cond.value, hv] at h
  | some w =>
    have hz : (Term.int z).eval args s none [] s = some (.int z) := rfl
    simp only [Cond.before, Cond.holds, Cond.value, hv, hz] at h
    cases w <;> simp_all
/-- the class of an array of prims -/
theorem st_prim {s : State} {t : FieldType} {A : Array Value} (h : (Cond.arrayClass t).before A s = true) : ∃ cA, s.vm.findClass ("[" ++ t.toString) = some cA ∧ ArrOfT s cA t := by
  obtain ⟨c, k, comp, h1, h2, h3⟩ := Cond.arrayClass_spec h
  exact ⟨c, h1, fun N z => ⟨(fun _ h => by cases h), k, h2, comp, h3⟩⟩
theorem st_ref {s : State} {C : String} {A : Array Value} (h : (Cond.arrayOver (.object C)).before A s = true) : ∃ cA, ArrOfT s cA (.object C) ∧ va_RA s cA (.object C) := by
  obtain ⟨comp, c, k, h1, h2, h3, h4, h5⟩ := Cond.arrayOver_spec h
  exact ⟨c, fun N z => ⟨(fun _ h => by cases h), k, h3, comp, h4⟩, k, comp, h3, h4, h1, h5⟩
theorem st_arr {s : State} {t : FieldType} {A : Array Value} (h : (Cond.arrayOver (.array t)).before A s = true) : ∃ cA, s.vm.findClass ("[" ++ (FieldType.array t).toString) = some cA ∧ ArrOfT s cA (.array t) := by
  obtain ⟨comp, c, k, h1, h2, h3, h4⟩ := ao_spec9 h
  exact ⟨c, h4, fun N z => ⟨(fun _ h => by cases h), k, h2, comp, h3⟩⟩
/-- arrays of arrays take arrays -/
theorem st_asA {G : Gx} {s : State} {t : FieldType} {A : Array Value} {b bv : Nat} (h : (Cond.arrayOver (.array t)).before A s = true) (hb : 10 < bv) (h1 : s.vm.findClass ("[" ++ (FieldType.array t).toString) = some (G.2.1 b)) (h2 : s.vm.findClass (FieldType.array t).toString = some (G.2.1 bv)) : asAt G s b bv := by
  obtain ⟨comp, c, k, f1, f2, f3, f4⟩ := ao_spec9 h
  cases f4.symm.trans h1
  cases f1.symm.trans h2
  obtain ⟨kc, hkc⟩ := Vm.classAt_of_findClass h2
  have e : clsOf G bv = G.2.1 bv := by unfold clsOf; rw [if_neg (by omega)]
  exact ⟨k, kc, kc, _, _, f2, f3, rfl, hkc, by rw [e]; exact hkc, by rw [e]; exact Vm.assignable_self _ _⟩
theorem st_asO {G : Gx} {s : State} {C E : String} {b ci : Nat} (h : va_RA s (G.2.1 b) (.object C)) (hE : ClassAt s E (G.1.1 ci)) (hci : ci < 10) (ha : ∀ comp, s.vm.findClass C = some comp → s.vm.assignable (G.1.1 ci) comp = true) : asAt G s b (ci + 1) := by
  obtain ⟨kA, comp, f1, f2, f3, f4⟩ := h
  obtain ⟨kc, hkc⟩ := Vm.classAt_of_findClass f3
  obtain ⟨g1, kv, g2, g3⟩ := hE
  have e : clsOf G (ci + 1) = G.1.1 ci := by unfold clsOf; rw [if_pos (by omega), Nat.add_sub_cancel]
  exact ⟨kA, kc, kv, comp, _, f1, f2, rfl, hkc, by rw [e]; exact g2, by rw [e]; exact ha comp f3⟩
theorem st_cast {s : State} {C E : String} {A : Array Value} {c0 : ClassId} (h : (Cond.castable C E).before A s = true) (hc : s.vm.findClass C = some c0) : ∀ comp, s.vm.findClass E = some comp → s.vm.assignable c0 comp = true := fun comp h2 => by
  obtain ⟨x, t1, f1, f2, f3⟩ := Cond.castable_spec h
  cases f1.symm.trans hc
  cases f2.symm.trans h2
  exact f3
set_option maxRecDepth 100000 in
/-- all of the start that the machine's side needs -/
theorem st_G {s : State} {args : Array Value} {A : Nat → Prop} (hts : ∀ w ∈ lw_tbl, w.before args s = true) (hgv : (Jvm.Cond.and given_1 narrow_1).before args s = true) (hA : ∀ a : Nat, a < s.heap.size → ¬ A a) : (∃ G : Gx, KX G s ∧ EnvS G A s s.heap) ∧ NcX s := by
  have hs := flat_of_before _ hgv
  have tb : ∀ w ∈ tables_1, w.before args s = true := fun w hw => hts w (List.mem_append_right _ hw)
  have gd : ∀ w ∈ lw_good, w.before args s = true := fun w hw => hts w (lg_tbl hw)
  refine ⟨?_, fun q hq => va_Nc.of (hs (.not (.castable q.1 q.2)) ?_)⟩
  · have hk : ∀ c : Nat, ∃ (cC : ClassId) (iS : Nat → Nat), ∀ q : vw_C, vwCl[c]? = some q → u_Kn s q.1 q.2.1 q.2.2 cC iS := by
      intro c
      match c with
      | 0 =>
        obtain ⟨cC, iS, h⟩ := u_known gd lin_Jx4a65c (tb (.instantiable RJx4a65c 3) (by decide +kernel))
        exact ⟨cC, iS, fun q hq => by cases hq; exact h⟩
      | 1 =>
        obtain ⟨cC, iS, h⟩ := u_known gd lin_X0 (tb (.instantiable RX0 7) (by decide +kernel))
        exact ⟨cC, iS, fun q hq => by cases hq; exact h⟩
      | 2 =>
        obtain ⟨cC, iS, h⟩ := u_known gd lin_X1 (tb (.instantiable RX1 4) (by decide +kernel))
        exact ⟨cC, iS, fun q hq => by cases hq; exact h⟩
      | 3 =>
        obtain ⟨cC, iS, h⟩ := u_known gd lin_X2 (tb (.instantiable RX2 8) (by decide +kernel))
        exact ⟨cC, iS, fun q hq => by cases hq; exact h⟩
      | 4 =>
        obtain ⟨cC, iS, h⟩ := u_known gd lin_X3 (tb (.instantiable RX3 13) (by decide +kernel))
        exact ⟨cC, iS, fun q hq => by cases hq; exact h⟩
      | 5 =>
        obtain ⟨cC, iS, h⟩ := u_known gd lin_X5 (tb (.instantiable RX5 4) (by decide +kernel))
        exact ⟨cC, iS, fun q hq => by cases hq; exact h⟩
      | 6 =>
        obtain ⟨cC, iS, h⟩ := u_known gd lin_X6 (tb (.instantiable RX6 3) (by decide +kernel))
        exact ⟨cC, iS, fun q hq => by cases hq; exact h⟩
      | 7 =>
        obtain ⟨cC, iS, h⟩ := u_known gd lin_X7 (tb (.instantiable RX7 10) (by decide +kernel))
        exact ⟨cC, iS, fun q hq => by cases hq; exact h⟩
      | 8 =>
        obtain ⟨cC, iS, h⟩ := u_known gd lin_X8 (tb (.instantiable RX8 6) (by decide +kernel))
        exact ⟨cC, iS, fun q hq => by cases hq; exact h⟩
      | 9 =>
        obtain ⟨cC, iS, h⟩ := u_known gd lin_X9 (tb (.instantiable RX9 27) (by decide +kernel))
        exact ⟨cC, iS, fun q hq => by cases hq; exact h⟩
      | n + 10 => exact ⟨0, fun _ => 0, fun q h => by cases h⟩
    obtain ⟨D1, hk⟩ := Classical.axiomOfChoice hk
    obtain ⟨D2, hk⟩ := Classical.axiomOfChoice hk
    obtain ⟨c11, i11, a11⟩ := st_prim (tb (.arrayClass .int) (by decide +kernel))
    obtain ⟨c12, i12, a12⟩ := st_prim (tb (.arrayClass .boolean) (by decide +kernel))
    obtain ⟨c13, i13, a13⟩ := st_prim (tb (.arrayClass .long) (by decide +kernel))
    obtain ⟨c14, a14, i14⟩ := st_ref (tb (.arrayOver (.object "java/lang/Object")) (by decide +kernel))
    obtain ⟨c15, a15, i15⟩ := st_ref (tb (.arrayOver (.object "Burrowline$End")) (by decide +kernel))
    obtain ⟨c16, a16, i16⟩ := st_ref (tb (.arrayOver (.object "Burrowline$Link")) (by decide +kernel))
    have o17 := tb (.arrayOver (.array .int)) (by decide +kernel)
    have o18 := tb (.arrayOver (.array (.array .int))) (by decide +kernel)
    have o19 := tb (.arrayOver (.array (.array (.array .int)))) (by decide +kernel)
    have o20 := tb (.arrayOver (.array .boolean)) (by decide +kernel)
    have o21 := tb (.arrayOver (.array (.array .boolean))) (by decide +kernel)
    have o22 := tb (.arrayOver (.array (.array (.array .boolean)))) (by decide +kernel)
    obtain ⟨c17, i17, a17⟩ := st_arr o17
    obtain ⟨c18, i18, a18⟩ := st_arr o18
    obtain ⟨c19, i19, a19⟩ := st_arr o19
    obtain ⟨c20, i20, a20⟩ := st_arr o20
    obtain ⟨c21, i21, a21⟩ := st_arr o21
    obtain ⟨c22, i22, a22⟩ := st_arr o22
    obtain ⟨mi, hmi⟩ := va_Mi.of (hs (.isRef (.mirror "[Ljava/lang/Object;")) (by decide +kernel))
    obtain ⟨t, ht, hT⟩ := va_Tof (N := 0) (f := fun _ => Value.null) (A := A) (by decide) (hs (.arrayOf (.static "java/util/ArrayList" "DEFAULTCAPACITY_EMPTY_ELEMENTDATA" "[Ljava/lang/Object;") (.object "java/lang/Object")) (by decide +kernel)) (st_len0 (hs (.eq (.length (.static "java/util/ArrayList" "DEFAULTCAPACITY_EMPTY_ELEMENTDATA" "[Ljava/lang/Object;")) (.int 0)) (by decide +kernel))) (fun j h => absurd h (Nat.not_lt_zero j)) hA
    refine ⟨((D1, D2), (fun b => match b with | 11 => c11 | 12 => c12 | 13 => c13 | 14 => c14 | 15 => c15 | 16 => c16 | 17 => c17 | 18 => c18 | 19 => c19 | 20 => c20 | 21 => c21 | 22 => c22 | _ => 0), t, mi), ⟨⟨fun c q h => hk c q h, fun k q h => ?_⟩, fun q hq => ?_, fun own k tx h => st_string (tb _ h), fun t9 h9 => ?_, hmi, va_Dc.of (tb (.declares ⟨"java/lang/Object", "getClass", "()Ljava/lang/Class;"⟩) (by decide +kernel)), fun w hw => ?_⟩, vx_Zqof (tb (.laysStatic Bundle.tN "UNASSIGNED_STACK" Bundle.steD) (by decide +kernel)) (tb (.initialized Bundle.tN) (by decide +kernel)) (hs (.isRef (.static Bundle.tN "UNASSIGNED_STACK" Bundle.steD)) (by decide +kernel)) hA, vx_Zqof (tb (.laysStatic Bundle.tN "SUPPRESSED_SENTINEL" Bundle.listD) (by decide +kernel)) (tb (.initialized Bundle.tN) (by decide +kernel)) (hs (.isRef (.static Bundle.tN "SUPPRESSED_SENTINEL" Bundle.listD)) (by decide +kernel)) hA, va_Zof (tb (.laysStatic "java/util/ArrayList" "DEFAULTCAPACITY_EMPTY_ELEMENTDATA" "[Ljava/lang/Object;") (by decide +kernel)) (tb (.initialized "java/util/ArrayList") (by decide +kernel)) ht hA, hT⟩
    · match k with
      | 0 => cases h; exact ⟨a11, i11⟩
      | 1 => cases h; exact ⟨a12, i12⟩
      | 2 => cases h; exact ⟨a13, i13⟩
      | 3 => cases h; exact ⟨a14, i14⟩
      | 4 => cases h; exact ⟨a15, i15⟩
      | 5 => cases h; exact ⟨a16, i16⟩
      | 6 => cases h; exact ⟨a17, i17⟩
      | 7 => cases h; exact ⟨a18, i18⟩
      | 8 => cases h; exact ⟨a19, i19⟩
      | 9 => cases h; exact ⟨a20, i20⟩
      | 10 => cases h; exact ⟨a21, i21⟩
      | 11 => cases h; exact ⟨a22, i22⟩
      | n + 12 => cases h
    · have kE : ∀ (c : Nat) (q : vw_C), vwCl[c]? = some q → ClassAt s q.1 (D1 c) := fun c q h => (hk c q h).2
      rcases List.mem_cons.mp hq with rfl | hq
      · exact st_asO (ci := 3) i14 (kE 3 _ rfl) (by decide) (st_cast (tb (.castable "Burrowline$Letter" "java/lang/Object") (by decide +kernel)) (kE 3 _ rfl).1)
      rcases List.mem_cons.mp hq with rfl | hq
      · exact st_asO (ci := 5) i14 (kE 5 _ rfl) (by decide) (st_cast (tb (.castable "Burrowline$Packet" "java/lang/Object") (by decide +kernel)) (kE 5 _ rfl).1)
      rcases List.mem_cons.mp hq with rfl | hq
      · exact st_asO (ci := 6) i14 (kE 6 _ rfl) (by decide) (st_cast (tb (.castable "Burrowline$Route" "java/lang/Object") (by decide +kernel)) (kE 6 _ rfl).1)
      rcases List.mem_cons.mp hq with rfl | hq
      · exact st_asO (ci := 1) i15 (kE 1 _ rfl) (by decide) (fun comp hc => by cases hc.symm.trans (kE 1 _ rfl).1; exact Vm.assignable_self _ _)
      rcases List.mem_cons.mp hq with rfl | hq
      · exact st_asO (ci := 4) i16 (kE 4 _ rfl) (by decide) (fun comp hc => by cases hc.symm.trans (kE 4 _ rfl).1; exact Vm.assignable_self _ _)
      rcases List.mem_cons.mp hq with rfl | hq
      · exact st_asA o17 (by decide) i17 i11
      rcases List.mem_cons.mp hq with rfl | hq
      · exact st_asA o18 (by decide) i18 i17
      rcases List.mem_cons.mp hq with rfl | hq
      · exact st_asA o19 (by decide) i19 i18
      rcases List.mem_cons.mp hq with rfl | hq
      · exact st_asA o20 (by decide) i20 i12
      rcases List.mem_cons.mp hq with rfl | hq
      · exact st_asA o21 (by decide) i21 i20
      rcases List.mem_cons.mp hq with rfl | hq
      · exact st_asA o22 (by decide) i22 i21
      cases hq
    · have ho : ∀ w ∈ aoTys, (Cond.arrayOver w) ∈ tables_1 := by decide +kernel
      exact tb _ (ho _ h9)
    · have h2 := List.mem_filter.mp hw
      have h3 := tb w h2.1
      have h4 := h2.2
      cases w with
      | declares x => exact va_Nw.of rfl h3
      | castable a b => exact va_Nw.of rfl h3
      | methodLinkNest a i x h => exact va_Nw.of rfl h3
      | _ => cases h4
  · have hn : ∀ q ∈ ncPairs, (Cond.not (.castable q.1 q.2)) ∈ flatC (Jvm.Cond.and given_1 narrow_1) := by decide +kernel
    exact hn q hq
end
