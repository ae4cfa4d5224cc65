section
theorem HW.go {Z : Zx} {own : String} {cc : ByteArray} {rf rc rs rl k n pc pc2 : Nat} {L L2 : List (Option Value)} {st st2 : List Value} {μ : Mem} (C : Cx Z own cc rf rc rs rl)
    (hgo : match Z with | (p, l, e, R, s, m, args, below, meth, c, G, A, nL, Q) => p.tables.exec = Jvm.exec → c.code = cc → s.vm.findClass own = some m.cls → (∀ w ∈ lw_good, w.before args s = true) → ∀ (H : Heap) (locs : List Loc) (ls : Array Slot), lhas ls nL L → (∀ ls2 : Array Slot, lhas ls2 nL L2 → W p l e R s m args below meth c H locs k n Q (F0 m pc2 ls2 st2)) → W p l e R s m args below meth c H locs k n Q (F0 m pc ls st))
    (kk : HW Z k n pc2 L2 st2 μ) : HW Z k n pc L st μ := by
  obtain ⟨p, l, e, R, s, m, args, below, meth, c, G, A, nL, Q⟩ := Z
  obtain ⟨⟨hx, hb, hml, hown, hts⟩, _⟩ := C
  intro H locs ls hR hS hl
  exact hgo hx hb hown hts H locs ls hl (fun ls2 hl2 => kk H locs ls2 hR hS hl2)
theorem h_iconst {Z : Zx} {own : String} {cc : ByteArray} {rf rc rs rl k n pc : Nat} {L : List (Option Value)} {st : List Value} {μ : Mem} {i : Int} {v : Int32} (C : Cx Z own cc rf rc rs rl) (d : decode cc pc = .ok (.iconst i, 1)) (hv : Int32.ofInt i = v) (kk : HW Z k n (pc + 1) L (.int v :: st) μ) : HW Z k n pc L st μ := by
  refine HW.go C ?_ kk
  obtain ⟨p, l, e, R, s, m, args, below, meth, c, G, A, nL, Q⟩ := Z
  intro hx hb hown hts H locs ls hl kk
  exact lv_iconst hx hb d hv (kk ls hl)
theorem h_bipush {Z : Zx} {own : String} {cc : ByteArray} {rf rc rs rl k n pc : Nat} {L : List (Option Value)} {st : List Value} {μ : Mem} {i : Int} {v : Int32} (C : Cx Z own cc rf rc rs rl) (d : decode cc pc = .ok (.bipush i, 2)) (hv : (Int8.ofInt i).toInt32 = v) (kk : HW Z k n (pc + 2) L (.int v :: st) μ) : HW Z k n pc L st μ := by
  refine HW.go C ?_ kk
  obtain ⟨p, l, e, R, s, m, args, below, meth, c, G, A, nL, Q⟩ := Z
  intro hx hb hown hts H locs ls hl kk
  exact lv_bipush hx hb d hv (kk ls hl)
theorem h_sipush {Z : Zx} {own : String} {cc : ByteArray} {rf rc rs rl k n pc : Nat} {L : List (Option Value)} {st : List Value} {μ : Mem} {i : Int} {v : Int32} (C : Cx Z own cc rf rc rs rl) (d : decode cc pc = .ok (.sipush i, 3)) (hv : (Int16.ofInt i).toInt32 = v) (kk : HW Z k n (pc + 3) L (.int v :: st) μ) : HW Z k n pc L st μ := by
  refine HW.go C ?_ kk
  obtain ⟨p, l, e, R, s, m, args, below, meth, c, G, A, nL, Q⟩ := Z
  intro hx hb hown hts H locs ls hl kk
  exact lv_sipush hx hb d hv (kk ls hl)
theorem h_lconst {Z : Zx} {own : String} {cc : ByteArray} {rf rc rs rl k n pc : Nat} {L : List (Option Value)} {st : List Value} {μ : Mem} {i : Fin 2} {v : Int64} (C : Cx Z own cc rf rc rs rl) (d : decode cc pc = .ok (.lconst i, 1)) (hv : Int64.ofNat (i : Nat) = v) (kk : HW Z k n (pc + 1) L (.long v :: st) μ) : HW Z k n pc L st μ := by
  refine HW.go C ?_ kk
  obtain ⟨p, l, e, R, s, m, args, below, meth, c, G, A, nL, Q⟩ := Z
  intro hx hb hown hts H locs ls hl kk
  exact lv_lconst hx hb d hv (kk ls hl)
theorem h_null {Z : Zx} {own : String} {cc : ByteArray} {rf rc rs rl k n pc : Nat} {L : List (Option Value)} {st : List Value} {μ : Mem} (C : Cx Z own cc rf rc rs rl) (d : decode cc pc = .ok (.aconst_null, 1)) (kk : HW Z k n (pc + 1) L (.null :: st) μ) : HW Z k n pc L st μ := by
  refine HW.go C ?_ kk
  obtain ⟨p, l, e, R, s, m, args, below, meth, c, G, A, nL, Q⟩ := Z
  intro hx hb hown hts H locs ls hl kk
  exact lv_null hx hb d (kk ls hl)
theorem h_ldc {Z : Zx} {own : String} {cc : ByteArray} {rf rc rs rl k n pc : Nat} {L : List (Option Value)} {st : List Value} {μ : Mem} {idx : Nat} {v : Int32} (C : Cx Z own cc rf rc rs rl) (hm : Cond.constant own idx v ∈ lw_good) (d : decode cc pc = .ok (.ldc idx, 2)) (kk : HW Z k n (pc + 2) L (.int v :: st) μ) : HW Z k n pc L st μ := by
  refine HW.go C ?_ kk
  obtain ⟨p, l, e, R, s, m, args, below, meth, c, G, A, nL, Q⟩ := Z
  intro hx hb hown hts H locs ls hl kk
  exact lv_ldc hx hb hown (hts _ hm) d (kk ls hl)
theorem h_ldc2 {Z : Zx} {own : String} {cc : ByteArray} {rf rc rs rl k n pc : Nat} {L : List (Option Value)} {st : List Value} {μ : Mem} {idx : Nat} {v : Int64} (C : Cx Z own cc rf rc rs rl) (hm : Cond.constantLong own idx v ∈ lw_good) (d : decode cc pc = .ok (.ldc2_w idx, 3)) (kk : HW Z k n (pc + 3) L (.long v :: st) μ) : HW Z k n pc L st μ := by
  refine HW.go C ?_ kk
  obtain ⟨p, l, e, R, s, m, args, below, meth, c, G, A, nL, Q⟩ := Z
  intro hx hb hown hts H locs ls hl kk
  exact lv_ldc2 hx hb hown (hts _ hm) d (kk ls hl)
theorem h_fconst0 {Z : Zx} {own : String} {cc : ByteArray} {rf rc rs rl k n pc : Nat} {L : List (Option Value)} {st : List Value} {μ : Mem} (C : Cx Z own cc rf rc rs rl) (d : decode cc pc = .ok (.fconst 0, 1)) (kk : HW Z k n (pc + 1) L (.float 0 :: st) μ) : HW Z k n pc L st μ := by
  refine HW.go C ?_ kk
  obtain ⟨p, l, e, R, s, m, args, below, meth, c, G, A, nL, Q⟩ := Z
  intro hx hb hown hts H locs ls hl kk
  exact lv_fconst0 hx hb d (kk ls hl)
theorem h_dconst0 {Z : Zx} {own : String} {cc : ByteArray} {rf rc rs rl k n pc : Nat} {L : List (Option Value)} {st : List Value} {μ : Mem} (C : Cx Z own cc rf rc rs rl) (d : decode cc pc = .ok (.dconst 0, 1)) (kk : HW Z k n (pc + 1) L (.double 0 :: st) μ) : HW Z k n pc L st μ := by
  refine HW.go C ?_ kk
  obtain ⟨p, l, e, R, s, m, args, below, meth, c, G, A, nL, Q⟩ := Z
  intro hx hb hown hts H locs ls hl kk
  exact lv_dconst0 hx hb d (kk ls hl)
theorem h_iadd {Z : Zx} {own : String} {cc : ByteArray} {rf rc rs rl k n pc : Nat} {L : List (Option Value)} {st : List Value} {μ : Mem} {x y : Int32} (C : Cx Z own cc rf rc rs rl) (d : decode cc pc = .ok (.iadd, 1)) (kk : HW Z k n (pc + 1) L (.int (x + y) :: st) μ) : HW Z k n pc L (.int y :: .int x :: st) μ := by
  refine HW.go C ?_ kk
  obtain ⟨p, l, e, R, s, m, args, below, meth, c, G, A, nL, Q⟩ := Z
  intro hx hb hown hts H locs ls hl kk
  exact lv_iadd hx hb d (kk ls hl)
theorem h_isub {Z : Zx} {own : String} {cc : ByteArray} {rf rc rs rl k n pc : Nat} {L : List (Option Value)} {st : List Value} {μ : Mem} {x y : Int32} (C : Cx Z own cc rf rc rs rl) (d : decode cc pc = .ok (.isub, 1)) (kk : HW Z k n (pc + 1) L (.int (x - y) :: st) μ) : HW Z k n pc L (.int y :: .int x :: st) μ := by
  refine HW.go C ?_ kk
  obtain ⟨p, l, e, R, s, m, args, below, meth, c, G, A, nL, Q⟩ := Z
  intro hx hb hown hts H locs ls hl kk
  exact lv_isub hx hb d (kk ls hl)
theorem h_imul {Z : Zx} {own : String} {cc : ByteArray} {rf rc rs rl k n pc : Nat} {L : List (Option Value)} {st : List Value} {μ : Mem} {x y : Int32} (C : Cx Z own cc rf rc rs rl) (d : decode cc pc = .ok (.imul, 1)) (kk : HW Z k n (pc + 1) L (.int (x * y) :: st) μ) : HW Z k n pc L (.int y :: .int x :: st) μ := by
  refine HW.go C ?_ kk
  obtain ⟨p, l, e, R, s, m, args, below, meth, c, G, A, nL, Q⟩ := Z
  intro hx hb hown hts H locs ls hl kk
  exact lv_imul hx hb d (kk ls hl)
theorem h_iand {Z : Zx} {own : String} {cc : ByteArray} {rf rc rs rl k n pc : Nat} {L : List (Option Value)} {st : List Value} {μ : Mem} {x y : Int32} (C : Cx Z own cc rf rc rs rl) (d : decode cc pc = .ok (.iand, 1)) (kk : HW Z k n (pc + 1) L (.int (x &&& y) :: st) μ) : HW Z k n pc L (.int y :: .int x :: st) μ := by
  refine HW.go C ?_ kk
  obtain ⟨p, l, e, R, s, m, args, below, meth, c, G, A, nL, Q⟩ := Z
  intro hx hb hown hts H locs ls hl kk
  exact lv_iand hx hb d (kk ls hl)
theorem h_ior {Z : Zx} {own : String} {cc : ByteArray} {rf rc rs rl k n pc : Nat} {L : List (Option Value)} {st : List Value} {μ : Mem} {x y : Int32} (C : Cx Z own cc rf rc rs rl) (d : decode cc pc = .ok (.ior, 1)) (kk : HW Z k n (pc + 1) L (.int (x ||| y) :: st) μ) : HW Z k n pc L (.int y :: .int x :: st) μ := by
  refine HW.go C ?_ kk
  obtain ⟨p, l, e, R, s, m, args, below, meth, c, G, A, nL, Q⟩ := Z
  intro hx hb hown hts H locs ls hl kk
  exact lv_ior hx hb d (kk ls hl)
theorem h_ixor {Z : Zx} {own : String} {cc : ByteArray} {rf rc rs rl k n pc : Nat} {L : List (Option Value)} {st : List Value} {μ : Mem} {x y : Int32} (C : Cx Z own cc rf rc rs rl) (d : decode cc pc = .ok (.ixor, 1)) (kk : HW Z k n (pc + 1) L (.int (x ^^^ y) :: st) μ) : HW Z k n pc L (.int y :: .int x :: st) μ := by
  refine HW.go C ?_ kk
  obtain ⟨p, l, e, R, s, m, args, below, meth, c, G, A, nL, Q⟩ := Z
  intro hx hb hown hts H locs ls hl kk
  exact lv_ixor hx hb d (kk ls hl)
theorem h_ishl {Z : Zx} {own : String} {cc : ByteArray} {rf rc rs rl k n pc : Nat} {L : List (Option Value)} {st : List Value} {μ : Mem} {x y : Int32} (C : Cx Z own cc rf rc rs rl) (d : decode cc pc = .ok (.ishl, 1)) (kk : HW Z k n (pc + 1) L (.int (x <<< (y &&& 31)) :: st) μ) : HW Z k n pc L (.int y :: .int x :: st) μ := by
  refine HW.go C ?_ kk
  obtain ⟨p, l, e, R, s, m, args, below, meth, c, G, A, nL, Q⟩ := Z
  intro hx hb hown hts H locs ls hl kk
  exact lv_ishl hx hb d (kk ls hl)
theorem h_ishr {Z : Zx} {own : String} {cc : ByteArray} {rf rc rs rl k n pc : Nat} {L : List (Option Value)} {st : List Value} {μ : Mem} {x y : Int32} (C : Cx Z own cc rf rc rs rl) (d : decode cc pc = .ok (.ishr, 1)) (kk : HW Z k n (pc + 1) L (.int (x >>> (y &&& 31)) :: st) μ) : HW Z k n pc L (.int y :: .int x :: st) μ := by
  refine HW.go C ?_ kk
  obtain ⟨p, l, e, R, s, m, args, below, meth, c, G, A, nL, Q⟩ := Z
  intro hx hb hown hts H locs ls hl kk
  exact lv_ishr hx hb d (kk ls hl)
theorem h_idiv {Z : Zx} {own : String} {cc : ByteArray} {rf rc rs rl k n pc : Nat} {L : List (Option Value)} {st : List Value} {μ : Mem} {x y : Int32} (C : Cx Z own cc rf rc rs rl) (d : decode cc pc = .ok (.idiv, 1)) (hne : ¬ y = 0) (kk : HW Z k n (pc + 1) L (.int (x / y) :: st) μ) : HW Z k n pc L (.int y :: .int x :: st) μ := by
  refine HW.go C ?_ kk
  obtain ⟨p, l, e, R, s, m, args, below, meth, c, G, A, nL, Q⟩ := Z
  intro hx hb hown hts H locs ls hl kk
  exact lv_idiv hx hb d hne (kk ls hl)
theorem h_irem {Z : Zx} {own : String} {cc : ByteArray} {rf rc rs rl k n pc : Nat} {L : List (Option Value)} {st : List Value} {μ : Mem} {x y : Int32} (C : Cx Z own cc rf rc rs rl) (d : decode cc pc = .ok (.irem, 1)) (hne : ¬ y = 0) (kk : HW Z k n (pc + 1) L (.int (x - x / y * y) :: st) μ) : HW Z k n pc L (.int y :: .int x :: st) μ := by
  refine HW.go C ?_ kk
  obtain ⟨p, l, e, R, s, m, args, below, meth, c, G, A, nL, Q⟩ := Z
  intro hx hb hown hts H locs ls hl kk
  exact lv_irem hx hb d hne (kk ls hl)
theorem h_ineg {Z : Zx} {own : String} {cc : ByteArray} {rf rc rs rl k n pc : Nat} {L : List (Option Value)} {st : List Value} {μ : Mem} {x : Int32} (C : Cx Z own cc rf rc rs rl) (d : decode cc pc = .ok (.ineg, 1)) (kk : HW Z k n (pc + 1) L (.int (-x) :: st) μ) : HW Z k n pc L (.int x :: st) μ := by
  refine HW.go C ?_ kk
  obtain ⟨p, l, e, R, s, m, args, below, meth, c, G, A, nL, Q⟩ := Z
  intro hx hb hown hts H locs ls hl kk
  exact lv_ineg hx hb d (kk ls hl)
theorem h_ladd {Z : Zx} {own : String} {cc : ByteArray} {rf rc rs rl k n pc : Nat} {L : List (Option Value)} {st : List Value} {μ : Mem} {x y : Int64} (C : Cx Z own cc rf rc rs rl) (d : decode cc pc = .ok (.ladd, 1)) (kk : HW Z k n (pc + 1) L (.long (x + y) :: st) μ) : HW Z k n pc L (.long y :: .long x :: st) μ := by
  refine HW.go C ?_ kk
  obtain ⟨p, l, e, R, s, m, args, below, meth, c, G, A, nL, Q⟩ := Z
  intro hx hb hown hts H locs ls hl kk
  exact lv_ladd hx hb d (kk ls hl)
theorem h_lsub {Z : Zx} {own : String} {cc : ByteArray} {rf rc rs rl k n pc : Nat} {L : List (Option Value)} {st : List Value} {μ : Mem} {x y : Int64} (C : Cx Z own cc rf rc rs rl) (d : decode cc pc = .ok (.lsub, 1)) (kk : HW Z k n (pc + 1) L (.long (x - y) :: st) μ) : HW Z k n pc L (.long y :: .long x :: st) μ := by
  refine HW.go C ?_ kk
  obtain ⟨p, l, e, R, s, m, args, below, meth, c, G, A, nL, Q⟩ := Z
  intro hx hb hown hts H locs ls hl kk
  exact lv_lsub hx hb d (kk ls hl)
theorem h_lmul {Z : Zx} {own : String} {cc : ByteArray} {rf rc rs rl k n pc : Nat} {L : List (Option Value)} {st : List Value} {μ : Mem} {x y : Int64} (C : Cx Z own cc rf rc rs rl) (d : decode cc pc = .ok (.lmul, 1)) (kk : HW Z k n (pc + 1) L (.long (x * y) :: st) μ) : HW Z k n pc L (.long y :: .long x :: st) μ := by
  refine HW.go C ?_ kk
  obtain ⟨p, l, e, R, s, m, args, below, meth, c, G, A, nL, Q⟩ := Z
  intro hx hb hown hts H locs ls hl kk
  exact lv_lmul hx hb d (kk ls hl)
theorem h_land {Z : Zx} {own : String} {cc : ByteArray} {rf rc rs rl k n pc : Nat} {L : List (Option Value)} {st : List Value} {μ : Mem} {x y : Int64} (C : Cx Z own cc rf rc rs rl) (d : decode cc pc = .ok (.land, 1)) (kk : HW Z k n (pc + 1) L (.long (x &&& y) :: st) μ) : HW Z k n pc L (.long y :: .long x :: st) μ := by
  refine HW.go C ?_ kk
  obtain ⟨p, l, e, R, s, m, args, below, meth, c, G, A, nL, Q⟩ := Z
  intro hx hb hown hts H locs ls hl kk
  exact lv_land hx hb d (kk ls hl)
theorem h_lor {Z : Zx} {own : String} {cc : ByteArray} {rf rc rs rl k n pc : Nat} {L : List (Option Value)} {st : List Value} {μ : Mem} {x y : Int64} (C : Cx Z own cc rf rc rs rl) (d : decode cc pc = .ok (.lor, 1)) (kk : HW Z k n (pc + 1) L (.long (x ||| y) :: st) μ) : HW Z k n pc L (.long y :: .long x :: st) μ := by
  refine HW.go C ?_ kk
  obtain ⟨p, l, e, R, s, m, args, below, meth, c, G, A, nL, Q⟩ := Z
  intro hx hb hown hts H locs ls hl kk
  exact lv_lor hx hb d (kk ls hl)
theorem h_lxor {Z : Zx} {own : String} {cc : ByteArray} {rf rc rs rl k n pc : Nat} {L : List (Option Value)} {st : List Value} {μ : Mem} {x y : Int64} (C : Cx Z own cc rf rc rs rl) (d : decode cc pc = .ok (.lxor, 1)) (kk : HW Z k n (pc + 1) L (.long (x ^^^ y) :: st) μ) : HW Z k n pc L (.long y :: .long x :: st) μ := by
  refine HW.go C ?_ kk
  obtain ⟨p, l, e, R, s, m, args, below, meth, c, G, A, nL, Q⟩ := Z
  intro hx hb hown hts H locs ls hl kk
  exact lv_lxor hx hb d (kk ls hl)
theorem h_ldiv {Z : Zx} {own : String} {cc : ByteArray} {rf rc rs rl k n pc : Nat} {L : List (Option Value)} {st : List Value} {μ : Mem} {x y : Int64} (C : Cx Z own cc rf rc rs rl) (d : decode cc pc = .ok (.ldiv, 1)) (hne : ¬ y = 0) (kk : HW Z k n (pc + 1) L (.long (x / y) :: st) μ) : HW Z k n pc L (.long y :: .long x :: st) μ := by
  refine HW.go C ?_ kk
  obtain ⟨p, l, e, R, s, m, args, below, meth, c, G, A, nL, Q⟩ := Z
  intro hx hb hown hts H locs ls hl kk
  exact lv_ldiv hx hb d hne (kk ls hl)
theorem h_lrem {Z : Zx} {own : String} {cc : ByteArray} {rf rc rs rl k n pc : Nat} {L : List (Option Value)} {st : List Value} {μ : Mem} {x y : Int64} (C : Cx Z own cc rf rc rs rl) (d : decode cc pc = .ok (.lrem, 1)) (hne : ¬ y = 0) (kk : HW Z k n (pc + 1) L (.long (x - x / y * y) :: st) μ) : HW Z k n pc L (.long y :: .long x :: st) μ := by
  refine HW.go C ?_ kk
  obtain ⟨p, l, e, R, s, m, args, below, meth, c, G, A, nL, Q⟩ := Z
  intro hx hb hown hts H locs ls hl kk
  exact lv_lrem hx hb d hne (kk ls hl)
theorem h_lshl {Z : Zx} {own : String} {cc : ByteArray} {rf rc rs rl k n pc : Nat} {L : List (Option Value)} {st : List Value} {μ : Mem} {y : Int32} {x : Int64} (C : Cx Z own cc rf rc rs rl) (d : decode cc pc = .ok (.lshl, 1)) (kk : HW Z k n (pc + 1) L (.long (x <<< (y.toInt64 &&& 63)) :: st) μ) : HW Z k n pc L (.int y :: .long x :: st) μ := by
  refine HW.go C ?_ kk
  obtain ⟨p, l, e, R, s, m, args, below, meth, c, G, A, nL, Q⟩ := Z
  intro hx hb hown hts H locs ls hl kk
  exact lv_lshl hx hb d rfl (kk ls hl)
theorem h_lushr {Z : Zx} {own : String} {cc : ByteArray} {rf rc rs rl k n pc : Nat} {L : List (Option Value)} {st : List Value} {μ : Mem} {y : Int32} {x : Int64} (C : Cx Z own cc rf rc rs rl) (d : decode cc pc = .ok (.lushr, 1)) (kk : HW Z k n (pc + 1) L (.long ((x.toUInt64 >>> (y.toInt64.toUInt64 &&& Int64.toUInt64 63)).toInt64) :: st) μ) : HW Z k n pc L (.int y :: .long x :: st) μ := by
  refine HW.go C ?_ kk
  obtain ⟨p, l, e, R, s, m, args, below, meth, c, G, A, nL, Q⟩ := Z
  intro hx hb hown hts H locs ls hl kk
  exact lv_lushr hx hb d rfl (kk ls hl)
theorem h_i2l {Z : Zx} {own : String} {cc : ByteArray} {rf rc rs rl k n pc : Nat} {L : List (Option Value)} {st : List Value} {μ : Mem} {x : Int32} (C : Cx Z own cc rf rc rs rl) (d : decode cc pc = .ok (.i2l, 1)) (kk : HW Z k n (pc + 1) L (.long x.toInt64 :: st) μ) : HW Z k n pc L (.int x :: st) μ := by
  refine HW.go C ?_ kk
  obtain ⟨p, l, e, R, s, m, args, below, meth, c, G, A, nL, Q⟩ := Z
  intro hx hb hown hts H locs ls hl kk
  exact lv_i2l hx hb d rfl (kk ls hl)
theorem h_l2i {Z : Zx} {own : String} {cc : ByteArray} {rf rc rs rl k n pc : Nat} {L : List (Option Value)} {st : List Value} {μ : Mem} {x : Int64} (C : Cx Z own cc rf rc rs rl) (d : decode cc pc = .ok (.l2i, 1)) (kk : HW Z k n (pc + 1) L (.int x.toInt32 :: st) μ) : HW Z k n pc L (.long x :: st) μ := by
  refine HW.go C ?_ kk
  obtain ⟨p, l, e, R, s, m, args, below, meth, c, G, A, nL, Q⟩ := Z
  intro hx hb hown hts H locs ls hl kk
  exact lv_l2i hx hb d rfl (kk ls hl)
theorem lcmp_any {x y : Int64} : True := trivial
theorem h_dup {Z : Zx} {own : String} {cc : ByteArray} {rf rc rs rl k n pc : Nat} {L : List (Option Value)} {st : List Value} {μ : Mem} {va : Value} (C : Cx Z own cc rf rc rs rl) (d : decode cc pc = .ok (.dup, 1)) (h1 : va.category = 1) (kk : HW Z k n (pc + 1) L (va :: va :: st) μ) : HW Z k n pc L (va :: st) μ := by
  refine HW.go C ?_ kk
  obtain ⟨p, l, e, R, s, m, args, below, meth, c, G, A, nL, Q⟩ := Z
  intro hx hb hown hts H locs ls hl kk
  exact lv_dup hx hb d h1 (kk ls hl)
theorem h_pop {Z : Zx} {own : String} {cc : ByteArray} {rf rc rs rl k n pc : Nat} {L : List (Option Value)} {st : List Value} {μ : Mem} {va : Value} (C : Cx Z own cc rf rc rs rl) (d : decode cc pc = .ok (.pop, 1)) (h1 : va.category = 1) (kk : HW Z k n (pc + 1) L st μ) : HW Z k n pc L (va :: st) μ := by
  refine HW.go C ?_ kk
  obtain ⟨p, l, e, R, s, m, args, below, meth, c, G, A, nL, Q⟩ := Z
  intro hx hb hown hts H locs ls hl kk
  exact lv_pop hx hb d h1 (kk ls hl)
theorem h_dup_x1 {Z : Zx} {own : String} {cc : ByteArray} {rf rc rs rl k n pc : Nat} {L : List (Option Value)} {st : List Value} {μ : Mem} {va vb : Value} (C : Cx Z own cc rf rc rs rl) (d : decode cc pc = .ok (.dup_x1, 1)) (h1 : va.category = 1) (h2 : vb.category = 1) (kk : HW Z k n (pc + 1) L (va :: vb :: va :: st) μ) : HW Z k n pc L (va :: vb :: st) μ := by
  refine HW.go C ?_ kk
  obtain ⟨p, l, e, R, s, m, args, below, meth, c, G, A, nL, Q⟩ := Z
  intro hx hb hown hts H locs ls hl kk
  exact lv_dup_x1 hx hb d h1 h2 (kk ls hl)
theorem h_dup_x2 {Z : Zx} {own : String} {cc : ByteArray} {rf rc rs rl k n pc : Nat} {L : List (Option Value)} {st : List Value} {μ : Mem} {va vb vc : Value} (C : Cx Z own cc rf rc rs rl) (d : decode cc pc = .ok (.dup_x2, 1)) (h1 : va.category = 1) (h2 : vb.category = 1) (h3 : vc.category = 1) (kk : HW Z k n (pc + 1) L (va :: vb :: vc :: va :: st) μ) : HW Z k n pc L (va :: vb :: vc :: st) μ := by
  refine HW.go C ?_ kk
  obtain ⟨p, l, e, R, s, m, args, below, meth, c, G, A, nL, Q⟩ := Z
  intro hx hb hown hts H locs ls hl kk
  exact lv_dup_x2 hx hb d h1 h2 h3 (kk ls hl)
theorem h_dup2 {Z : Zx} {own : String} {cc : ByteArray} {rf rc rs rl k n pc : Nat} {L : List (Option Value)} {st : List Value} {μ : Mem} {va vb : Value} (C : Cx Z own cc rf rc rs rl) (d : decode cc pc = .ok (.dup2, 1)) (h1 : va.category = 1) (h2 : vb.category = 1) (kk : HW Z k n (pc + 1) L (va :: vb :: va :: vb :: st) μ) : HW Z k n pc L (va :: vb :: st) μ := by
  refine HW.go C ?_ kk
  obtain ⟨p, l, e, R, s, m, args, below, meth, c, G, A, nL, Q⟩ := Z
  intro hx hb hown hts H locs ls hl kk
  exact lv_dup2_11 hx hb d h1 h2 (kk ls hl)
theorem h_dup2L {Z : Zx} {own : String} {cc : ByteArray} {rf rc rs rl k n pc : Nat} {L : List (Option Value)} {st : List Value} {μ : Mem} {va : Value} (C : Cx Z own cc rf rc rs rl) (d : decode cc pc = .ok (.dup2, 1)) (h1 : va.category = 2) (kk : HW Z k n (pc + 1) L (va :: va :: st) μ) : HW Z k n pc L (va :: st) μ := by
  refine HW.go C ?_ kk
  obtain ⟨p, l, e, R, s, m, args, below, meth, c, G, A, nL, Q⟩ := Z
  intro hx hb hown hts H locs ls hl kk
  exact lv_dup2_2 hx hb d h1 (kk ls hl)
theorem h_goto {Z : Zx} {own : String} {cc : ByteArray} {rf rc rs rl k n pc : Nat} {L : List (Option Value)} {st : List Value} {μ : Mem} {off : Int} {tgt : Nat} (C : Cx Z own cc rf rc rs rl) (d : decode cc pc = .ok (.goto off, 3)) (ht : (pc : Int) + off = (tgt : Int)) (kk : HW Z k n tgt L st μ) : HW Z k n pc L st μ := by
  refine HW.go C ?_ kk
  obtain ⟨p, l, e, R, s, m, args, below, meth, c, G, A, nL, Q⟩ := Z
  intro hx hb hown hts H locs ls hl kk
  exact lv_goto hx hb d ht (kk ls hl)
theorem h_ifnull_r {Z : Zx} {own : String} {cc : ByteArray} {rf rc rs rl k n pc : Nat} {L : List (Option Value)} {st : List Value} {μ : Mem} {off : Int} {x : Nat} (C : Cx Z own cc rf rc rs rl) (d : decode cc pc = .ok (.ifnull off, 3)) (kk : HW Z k n (pc + 3) L st μ) : HW Z k n pc L (.ref x :: st) μ := by
  refine HW.go C ?_ kk
  obtain ⟨p, l, e, R, s, m, args, below, meth, c, G, A, nL, Q⟩ := Z
  intro hx hb hown hts H locs ls hl kk
  exact lv_ifnull hx hb d (kk ls hl)
theorem h_ifnull_n {Z : Zx} {own : String} {cc : ByteArray} {rf rc rs rl k n pc : Nat} {L : List (Option Value)} {st : List Value} {μ : Mem} {off : Int} {tgt : Nat} (C : Cx Z own cc rf rc rs rl) (d : decode cc pc = .ok (.ifnull off, 3)) (ht : (pc : Int) + off = (tgt : Int)) (kk : HW Z k n tgt L st μ) : HW Z k n pc L (.null :: st) μ := by
  refine HW.go C ?_ kk
  obtain ⟨p, l, e, R, s, m, args, below, meth, c, G, A, nL, Q⟩ := Z
  intro hx hb hown hts H locs ls hl kk
  exact lv_ifnullN hx hb d ht (kk ls hl)
theorem h_ifnonnull_r {Z : Zx} {own : String} {cc : ByteArray} {rf rc rs rl k n pc : Nat} {L : List (Option Value)} {st : List Value} {μ : Mem} {off : Int} {tgt x : Nat} (C : Cx Z own cc rf rc rs rl) (d : decode cc pc = .ok (.ifnonnull off, 3)) (ht : (pc : Int) + off = (tgt : Int)) (kk : HW Z k n tgt L st μ) : HW Z k n pc L (.ref x :: st) μ := by
  refine HW.go C ?_ kk
  obtain ⟨p, l, e, R, s, m, args, below, meth, c, G, A, nL, Q⟩ := Z
  intro hx hb hown hts H locs ls hl kk
  exact lv_ifnonnull hx hb d ht (kk ls hl)
theorem h_ifnonnull_n {Z : Zx} {own : String} {cc : ByteArray} {rf rc rs rl k n pc : Nat} {L : List (Option Value)} {st : List Value} {μ : Mem} {off : Int} (C : Cx Z own cc rf rc rs rl) (d : decode cc pc = .ok (.ifnonnull off, 3)) (kk : HW Z k n (pc + 3) L st μ) : HW Z k n pc L (.null :: st) μ := by
  refine HW.go C ?_ kk
  obtain ⟨p, l, e, R, s, m, args, below, meth, c, G, A, nL, Q⟩ := Z
  intro hx hb hown hts H locs ls hl kk
  exact lv_ifnonnullN hx hb d (kk ls hl)
theorem h_tableIn {Z : Zx} {own : String} {cc : ByteArray} {rf rc rs rl k n pc : Nat} {L : List (Option Value)} {st : List Value} {μ : Mem} {dflt lo9 hi9 : Int} {offs : Array Int} {len : Nat} {x : Int32} {off : Int} {tgt : Nat} (C : Cx Z own cc rf rc rs rl) (d : decode cc pc = .ok (.tableswitch dflt lo9 hi9 offs, len)) (h1 : ¬ x.toInt < lo9) (h2 : ¬ hi9 < x.toInt) (ho : offs[(x.toInt - lo9).toNat]? = some off) (ht : (pc : Int) + off = (tgt : Int)) (kk : HW Z k n tgt L st μ) : HW Z k n pc L (.int x :: st) μ := by
  refine HW.go C ?_ kk
  obtain ⟨p, l, e, R, s, m, args, below, meth, c, G, A, nL, Q⟩ := Z
  intro hx hb hown hts H locs ls hl kk
  exact lv_tableIn hx hb d h1 h2 ho ht (kk ls hl)
theorem h_tableOut {Z : Zx} {own : String} {cc : ByteArray} {rf rc rs rl k n pc : Nat} {L : List (Option Value)} {st : List Value} {μ : Mem} {dflt lo9 hi9 : Int} {offs : Array Int} {len : Nat} {x : Int32} {tgt : Nat} (C : Cx Z own cc rf rc rs rl) (d : decode cc pc = .ok (.tableswitch dflt lo9 hi9 offs, len)) (h : x.toInt < lo9 ∨ hi9 < x.toInt) (ht : (pc : Int) + dflt = (tgt : Int)) (kk : HW Z k n tgt L st μ) : HW Z k n pc L (.int x :: st) μ := by
  refine HW.go C ?_ kk
  obtain ⟨p, l, e, R, s, m, args, below, meth, c, G, A, nL, Q⟩ := Z
  intro hx hb hown hts H locs ls hl kk
  exact lv_tableOut hx hb d h ht (kk ls hl)
theorem h_if_eq {Z : Zx} {own : String} {cc : ByteArray} {rf rc rs rl k n pc : Nat} {L : List (Option Value)} {st : List Value} {μ : Mem} {x : Int32} {off : Int} {tgt : Nat} (C : Cx Z own cc rf rc rs rl) (d : decode cc pc = .ok (.ifCond .eq off, 3)) (ht : (pc : Int) + off = (tgt : Int)) (kt : (x = 0) → HW Z k n tgt L st μ) (kf : ¬ (x = 0) → HW Z k n (pc + 3) L st μ) : HW Z k n pc L (.int x :: st) μ := by
  obtain ⟨p, l, e, R, s, m, args, below, meth, c, G, A, nL, Q⟩ := Z
  obtain ⟨⟨hx, hb, hml, hown, hts⟩, _⟩ := C
  intro H locs ls hR hS hl
  exact lv_if_eq hx hb d ht (fun h => kt h H locs ls hR hS hl) (fun h => kf h H locs ls hR hS hl)
theorem h_icmp_eq {Z : Zx} {own : String} {cc : ByteArray} {rf rc rs rl k n pc : Nat} {L : List (Option Value)} {st : List Value} {μ : Mem} {x y : Int32} {off : Int} {tgt : Nat} (C : Cx Z own cc rf rc rs rl) (d : decode cc pc = .ok (.if_icmp .eq off, 3)) (ht : (pc : Int) + off = (tgt : Int)) (kt : (x = y) → HW Z k n tgt L st μ) (kf : ¬ (x = y) → HW Z k n (pc + 3) L st μ) : HW Z k n pc L (.int y :: .int x :: st) μ := by
  obtain ⟨p, l, e, R, s, m, args, below, meth, c, G, A, nL, Q⟩ := Z
  obtain ⟨⟨hx, hb, hml, hown, hts⟩, _⟩ := C
  intro H locs ls hR hS hl
  exact lv_icmp_eq hx hb d ht (fun h => kt h H locs ls hR hS hl) (fun h => kf h H locs ls hR hS hl)
theorem h_if_ne {Z : Zx} {own : String} {cc : ByteArray} {rf rc rs rl k n pc : Nat} {L : List (Option Value)} {st : List Value} {μ : Mem} {x y : Int32} {off : Int} {tgt : Nat} (C : Cx Z own cc rf rc rs rl) (d : decode cc pc = .ok (.ifCond .ne off, 3)) (ht : (pc : Int) + off = (tgt : Int)) (kt : ¬ x = 0 → HW Z k n tgt L st μ) (kf : x = 0 → HW Z k n (pc + 3) L st μ) : HW Z k n pc L (.int x :: st) μ := by
  obtain ⟨p, l, e, R, s, m, args, below, meth, c, G, A, nL, Q⟩ := Z
  obtain ⟨⟨hx, hb, hml, hown, hts⟩, _⟩ := C
  intro H locs ls hR hS hl
  exact lv_if_ne hx hb d ht (fun h => kt h H locs ls hR hS hl) (fun h => kf h H locs ls hR hS hl)
theorem h_icmp_ne {Z : Zx} {own : String} {cc : ByteArray} {rf rc rs rl k n pc : Nat} {L : List (Option Value)} {st : List Value} {μ : Mem} {x y : Int32} {off : Int} {tgt : Nat} (C : Cx Z own cc rf rc rs rl) (d : decode cc pc = .ok (.if_icmp .ne off, 3)) (ht : (pc : Int) + off = (tgt : Int)) (kt : ¬ x = y → HW Z k n tgt L st μ) (kf : x = y → HW Z k n (pc + 3) L st μ) : HW Z k n pc L (.int y :: .int x :: st) μ := by
  obtain ⟨p, l, e, R, s, m, args, below, meth, c, G, A, nL, Q⟩ := Z
  obtain ⟨⟨hx, hb, hml, hown, hts⟩, _⟩ := C
  intro H locs ls hR hS hl
  exact lv_icmp_ne hx hb d ht (fun h => kt h H locs ls hR hS hl) (fun h => kf h H locs ls hR hS hl)
theorem h_if_lt {Z : Zx} {own : String} {cc : ByteArray} {rf rc rs rl k n pc : Nat} {L : List (Option Value)} {st : List Value} {μ : Mem} {x : Int32} {off : Int} {tgt : Nat} (C : Cx Z own cc rf rc rs rl) (d : decode cc pc = .ok (.ifCond .lt off, 3)) (ht : (pc : Int) + off = (tgt : Int)) (kt : (x < 0) → HW Z k n tgt L st μ) (kf : ¬ (x < 0) → HW Z k n (pc + 3) L st μ) : HW Z k n pc L (.int x :: st) μ := by
  obtain ⟨p, l, e, R, s, m, args, below, meth, c, G, A, nL, Q⟩ := Z
  obtain ⟨⟨hx, hb, hml, hown, hts⟩, _⟩ := C
  intro H locs ls hR hS hl
  exact lv_if_lt hx hb d ht (fun h => kt h H locs ls hR hS hl) (fun h => kf h H locs ls hR hS hl)
theorem h_icmp_lt {Z : Zx} {own : String} {cc : ByteArray} {rf rc rs rl k n pc : Nat} {L : List (Option Value)} {st : List Value} {μ : Mem} {x y : Int32} {off : Int} {tgt : Nat} (C : Cx Z own cc rf rc rs rl) (d : decode cc pc = .ok (.if_icmp .lt off, 3)) (ht : (pc : Int) + off = (tgt : Int)) (kt : (x < y) → HW Z k n tgt L st μ) (kf : ¬ (x < y) → HW Z k n (pc + 3) L st μ) : HW Z k n pc L (.int y :: .int x :: st) μ := by
  obtain ⟨p, l, e, R, s, m, args, below, meth, c, G, A, nL, Q⟩ := Z
  obtain ⟨⟨hx, hb, hml, hown, hts⟩, _⟩ := C
  intro H locs ls hR hS hl
  exact lv_icmp_lt hx hb d ht (fun h => kt h H locs ls hR hS hl) (fun h => kf h H locs ls hR hS hl)
theorem h_if_ge {Z : Zx} {own : String} {cc : ByteArray} {rf rc rs rl k n pc : Nat} {L : List (Option Value)} {st : List Value} {μ : Mem} {x : Int32} {off : Int} {tgt : Nat} (C : Cx Z own cc rf rc rs rl) (d : decode cc pc = .ok (.ifCond .ge off, 3)) (ht : (pc : Int) + off = (tgt : Int)) (kt : (0 ≤ x) → HW Z k n tgt L st μ) (kf : ¬ (0 ≤ x) → HW Z k n (pc + 3) L st μ) : HW Z k n pc L (.int x :: st) μ := by
  obtain ⟨p, l, e, R, s, m, args, below, meth, c, G, A, nL, Q⟩ := Z
  obtain ⟨⟨hx, hb, hml, hown, hts⟩, _⟩ := C
  intro H locs ls hR hS hl
  exact lv_if_ge hx hb d ht (fun h => kt h H locs ls hR hS hl) (fun h => kf h H locs ls hR hS hl)
theorem h_icmp_ge {Z : Zx} {own : String} {cc : ByteArray} {rf rc rs rl k n pc : Nat} {L : List (Option Value)} {st : List Value} {μ : Mem} {x y : Int32} {off : Int} {tgt : Nat} (C : Cx Z own cc rf rc rs rl) (d : decode cc pc = .ok (.if_icmp .ge off, 3)) (ht : (pc : Int) + off = (tgt : Int)) (kt : (y ≤ x) → HW Z k n tgt L st μ) (kf : ¬ (y ≤ x) → HW Z k n (pc + 3) L st μ) : HW Z k n pc L (.int y :: .int x :: st) μ := by
  obtain ⟨p, l, e, R, s, m, args, below, meth, c, G, A, nL, Q⟩ := Z
  obtain ⟨⟨hx, hb, hml, hown, hts⟩, _⟩ := C
  intro H locs ls hR hS hl
  exact lv_icmp_ge hx hb d ht (fun h => kt h H locs ls hR hS hl) (fun h => kf h H locs ls hR hS hl)
theorem h_if_gt {Z : Zx} {own : String} {cc : ByteArray} {rf rc rs rl k n pc : Nat} {L : List (Option Value)} {st : List Value} {μ : Mem} {x : Int32} {off : Int} {tgt : Nat} (C : Cx Z own cc rf rc rs rl) (d : decode cc pc = .ok (.ifCond .gt off, 3)) (ht : (pc : Int) + off = (tgt : Int)) (kt : (0 < x) → HW Z k n tgt L st μ) (kf : ¬ (0 < x) → HW Z k n (pc + 3) L st μ) : HW Z k n pc L (.int x :: st) μ := by
  obtain ⟨p, l, e, R, s, m, args, below, meth, c, G, A, nL, Q⟩ := Z
  obtain ⟨⟨hx, hb, hml, hown, hts⟩, _⟩ := C
  intro H locs ls hR hS hl
  exact lv_if_gt hx hb d ht (fun h => kt h H locs ls hR hS hl) (fun h => kf h H locs ls hR hS hl)
theorem h_icmp_gt {Z : Zx} {own : String} {cc : ByteArray} {rf rc rs rl k n pc : Nat} {L : List (Option Value)} {st : List Value} {μ : Mem} {x y : Int32} {off : Int} {tgt : Nat} (C : Cx Z own cc rf rc rs rl) (d : decode cc pc = .ok (.if_icmp .gt off, 3)) (ht : (pc : Int) + off = (tgt : Int)) (kt : (y < x) → HW Z k n tgt L st μ) (kf : ¬ (y < x) → HW Z k n (pc + 3) L st μ) : HW Z k n pc L (.int y :: .int x :: st) μ := by
  obtain ⟨p, l, e, R, s, m, args, below, meth, c, G, A, nL, Q⟩ := Z
  obtain ⟨⟨hx, hb, hml, hown, hts⟩, _⟩ := C
  intro H locs ls hR hS hl
  exact lv_icmp_gt hx hb d ht (fun h => kt h H locs ls hR hS hl) (fun h => kf h H locs ls hR hS hl)
theorem h_if_le {Z : Zx} {own : String} {cc : ByteArray} {rf rc rs rl k n pc : Nat} {L : List (Option Value)} {st : List Value} {μ : Mem} {x : Int32} {off : Int} {tgt : Nat} (C : Cx Z own cc rf rc rs rl) (d : decode cc pc = .ok (.ifCond .le off, 3)) (ht : (pc : Int) + off = (tgt : Int)) (kt : (x ≤ 0) → HW Z k n tgt L st μ) (kf : ¬ (x ≤ 0) → HW Z k n (pc + 3) L st μ) : HW Z k n pc L (.int x :: st) μ := by
  obtain ⟨p, l, e, R, s, m, args, below, meth, c, G, A, nL, Q⟩ := Z
  obtain ⟨⟨hx, hb, hml, hown, hts⟩, _⟩ := C
  intro H locs ls hR hS hl
  exact lv_if_le hx hb d ht (fun h => kt h H locs ls hR hS hl) (fun h => kf h H locs ls hR hS hl)
theorem h_icmp_le {Z : Zx} {own : String} {cc : ByteArray} {rf rc rs rl k n pc : Nat} {L : List (Option Value)} {st : List Value} {μ : Mem} {x y : Int32} {off : Int} {tgt : Nat} (C : Cx Z own cc rf rc rs rl) (d : decode cc pc = .ok (.if_icmp .le off, 3)) (ht : (pc : Int) + off = (tgt : Int)) (kt : (x ≤ y) → HW Z k n tgt L st μ) (kf : ¬ (x ≤ y) → HW Z k n (pc + 3) L st μ) : HW Z k n pc L (.int y :: .int x :: st) μ := by
  obtain ⟨p, l, e, R, s, m, args, below, meth, c, G, A, nL, Q⟩ := Z
  obtain ⟨⟨hx, hb, hml, hown, hts⟩, _⟩ := C
  intro H locs ls hR hS hl
  exact lv_icmp_le hx hb d ht (fun h => kt h H locs ls hR hS hl) (fun h => kf h H locs ls hR hS hl)
theorem h_acmp_eq {Z : Zx} {own : String} {cc : ByteArray} {rf rc rs rl k n pc : Nat} {L : List (Option Value)} {st : List Value} {μ : Mem} {rx ry : Option Nat} {off : Int} {tgt : Nat} (C : Cx Z own cc rf rc rs rl) (d : decode cc pc = .ok (.if_acmp .eq off, 3)) (ht : (pc : Int) + off = (tgt : Int)) (kt : rx = ry → HW Z k n tgt L st μ) (kf : ¬ rx = ry → HW Z k n (pc + 3) L st μ) : HW Z k n pc L (va_rf ry :: va_rf rx :: st) μ := by
  obtain ⟨p, l, e, R, s, m, args, below, meth, c, G, A, nL, Q⟩ := Z
  obtain ⟨⟨hx, hb, hml, hown, hts⟩, _⟩ := C
  intro H locs ls hR hS hl
  exact lv_acmp_eq hx hb d ht (fun h => kt h H locs ls hR hS hl) (fun h => kf h H locs ls hR hS hl)
theorem h_acmp_ne {Z : Zx} {own : String} {cc : ByteArray} {rf rc rs rl k n pc : Nat} {L : List (Option Value)} {st : List Value} {μ : Mem} {rx ry : Option Nat} {off : Int} {tgt : Nat} (C : Cx Z own cc rf rc rs rl) (d : decode cc pc = .ok (.if_acmp .ne off, 3)) (ht : (pc : Int) + off = (tgt : Int)) (kt : ¬ rx = ry → HW Z k n tgt L st μ) (kf : rx = ry → HW Z k n (pc + 3) L st μ) : HW Z k n pc L (va_rf ry :: va_rf rx :: st) μ := by
  obtain ⟨p, l, e, R, s, m, args, below, meth, c, G, A, nL, Q⟩ := Z
  obtain ⟨⟨hx, hb, hml, hown, hts⟩, _⟩ := C
  intro H locs ls hR hS hl
  exact lv_acmp_ne hx hb d ht (fun h => kt h H locs ls hR hS hl) (fun h => kf h H locs ls hR hS hl)
theorem h_iload_g {Z : Zx} {own : String} {cc : ByteArray} {rf rc rs rl k n pc : Nat} {L : List (Option Value)} {st : List Value} {μ : Mem} {j : Fin 4} {i : Nat} {x : Int32} (C : Cx Z own cc rf rc rs rl) (d : decode cc pc = .ok (.iload_n j, 1)) (hj : (j : Nat) = i) (hL : L[i]? = some (some (.int x))) (kk : HW Z k n (pc + 1) L (.int x :: st) μ) : HW Z k n pc L st μ := by
  refine HW.go C ?_ kk
  obtain ⟨p, l, e, R, s, m, args, below, meth, c, G, A, nL, Q⟩ := Z
  intro hx hb hown hts H locs ls hl kk
  exact lv_iload_n hx hb d hj (hl.2.2 i _ hL) (kk ls hl)
theorem h_iload_w {Z : Zx} {own : String} {cc : ByteArray} {rf rc rs rl k n pc : Nat} {L : List (Option Value)} {st : List Value} {μ : Mem} {i : Nat} {x : Int32} (C : Cx Z own cc rf rc rs rl) (d : decode cc pc = .ok (.iload i, 2)) (hL : L[i]? = some (some (.int x))) (kk : HW Z k n (pc + 2) L (.int x :: st) μ) : HW Z k n pc L st μ := by
  refine HW.go C ?_ kk
  obtain ⟨p, l, e, R, s, m, args, below, meth, c, G, A, nL, Q⟩ := Z
  intro hx hb hown hts H locs ls hl kk
  exact lv_iload hx hb d (hl.2.2 i _ hL) (kk ls hl)
theorem h_istore_g {Z : Zx} {own : String} {cc : ByteArray} {rf rc rs rl k n pc : Nat} {L : List (Option Value)} {st : List Value} {μ : Mem} {j : Fin 4} {i : Nat} {x : Int32} (C : Cx Z own cc rf rc rs rl) (d : decode cc pc = .ok (.istore_n j, 1)) (hj : (j : Nat) = i) (hn : i < Z.2.2.2.2.2.2.2.2.2.2.2.2.1) (hc : ∀ (j : Nat) (w : Value), j + 1 = i → L[j]? = some (some w) → w.category = 1) (kk : HW Z k n (pc + 1) (L.set i (some (.int x))) st μ) : HW Z k n pc L (.int x :: st) μ := by
  refine HW.go C ?_ kk
  obtain ⟨p, l, e, R, s, m, args, below, meth, c, G, A, nL, Q⟩ := Z
  intro hx hb hown hts H locs ls hl kk
  exact lv_istore_n hx hb d hj hl.to hn rfl (fun ls2 h2 => kk ls2 (lhas.st1 h2 hc))
theorem h_istore_w {Z : Zx} {own : String} {cc : ByteArray} {rf rc rs rl k n pc : Nat} {L : List (Option Value)} {st : List Value} {μ : Mem} {j : Fin 4} {i : Nat} {x : Int32} (C : Cx Z own cc rf rc rs rl) (d : decode cc pc = .ok (.istore i, 2)) (hn : i < Z.2.2.2.2.2.2.2.2.2.2.2.2.1) (hc : ∀ (j : Nat) (w : Value), j + 1 = i → L[j]? = some (some w) → w.category = 1) (kk : HW Z k n (pc + 2) (L.set i (some (.int x))) st μ) : HW Z k n pc L (.int x :: st) μ := by
  refine HW.go C ?_ kk
  obtain ⟨p, l, e, R, s, m, args, below, meth, c, G, A, nL, Q⟩ := Z
  intro hx hb hown hts H locs ls hl kk
  exact lv_istore hx hb d hl.to hn rfl (fun ls2 h2 => kk ls2 (lhas.st1 h2 hc))
theorem h_lload_g {Z : Zx} {own : String} {cc : ByteArray} {rf rc rs rl k n pc : Nat} {L : List (Option Value)} {st : List Value} {μ : Mem} {j : Fin 4} {i : Nat} {x : Int64} (C : Cx Z own cc rf rc rs rl) (d : decode cc pc = .ok (.lload_n j, 1)) (hj : (j : Nat) = i) (hL : L[i]? = some (some (.long x))) (kk : HW Z k n (pc + 1) L (.long x :: st) μ) : HW Z k n pc L st μ := by
  refine HW.go C ?_ kk
  obtain ⟨p, l, e, R, s, m, args, below, meth, c, G, A, nL, Q⟩ := Z
  intro hx hb hown hts H locs ls hl kk
  exact lv_lload_n hx hb d hj (hl.2.2 i _ hL) (kk ls hl)
theorem h_lload_w {Z : Zx} {own : String} {cc : ByteArray} {rf rc rs rl k n pc : Nat} {L : List (Option Value)} {st : List Value} {μ : Mem} {i : Nat} {x : Int64} (C : Cx Z own cc rf rc rs rl) (d : decode cc pc = .ok (.lload i, 2)) (hL : L[i]? = some (some (.long x))) (kk : HW Z k n (pc + 2) L (.long x :: st) μ) : HW Z k n pc L st μ := by
  refine HW.go C ?_ kk
  obtain ⟨p, l, e, R, s, m, args, below, meth, c, G, A, nL, Q⟩ := Z
  intro hx hb hown hts H locs ls hl kk
  exact lv_lload hx hb d (hl.2.2 i _ hL) (kk ls hl)
theorem h_lstore_g {Z : Zx} {own : String} {cc : ByteArray} {rf rc rs rl k n pc : Nat} {L : List (Option Value)} {st : List Value} {μ : Mem} {j : Fin 4} {i : Nat} {x : Int64} (C : Cx Z own cc rf rc rs rl) (d : decode cc pc = .ok (.lstore_n j, 1)) (hj : (j : Nat) = i) (hn : i + 1 < Z.2.2.2.2.2.2.2.2.2.2.2.2.1) (hc : ∀ (j : Nat) (w : Value), j + 1 = i → L[j]? = some (some w) → w.category = 1) (kk : HW Z k n (pc + 1) ((L.set i (some (.long x))).set (i + 1) none) st μ) : HW Z k n pc L (.long x :: st) μ := by
  refine HW.go C ?_ kk
  obtain ⟨p, l, e, R, s, m, args, below, meth, c, G, A, nL, Q⟩ := Z
  intro hx hb hown hts H locs ls hl kk
  exact lv_lstore_n hx hb d hj hl.to hn rfl (fun ls2 h2 => kk ls2 (lhas.st2 h2 hc))
theorem h_lstore_w {Z : Zx} {own : String} {cc : ByteArray} {rf rc rs rl k n pc : Nat} {L : List (Option Value)} {st : List Value} {μ : Mem} {j : Fin 4} {i : Nat} {x : Int64} (C : Cx Z own cc rf rc rs rl) (d : decode cc pc = .ok (.lstore i, 2)) (hn : i + 1 < Z.2.2.2.2.2.2.2.2.2.2.2.2.1) (hc : ∀ (j : Nat) (w : Value), j + 1 = i → L[j]? = some (some w) → w.category = 1) (kk : HW Z k n (pc + 2) ((L.set i (some (.long x))).set (i + 1) none) st μ) : HW Z k n pc L (.long x :: st) μ := by
  refine HW.go C ?_ kk
  obtain ⟨p, l, e, R, s, m, args, below, meth, c, G, A, nL, Q⟩ := Z
  intro hx hb hown hts H locs ls hl kk
  exact lv_lstore hx hb d hl.to hn rfl (fun ls2 h2 => kk ls2 (lhas.st2 h2 hc))
theorem h_dload_g {Z : Zx} {own : String} {cc : ByteArray} {rf rc rs rl k n pc : Nat} {L : List (Option Value)} {st : List Value} {μ : Mem} {j : Fin 4} {i : Nat} {x : UInt64} (C : Cx Z own cc rf rc rs rl) (d : decode cc pc = .ok (.dload_n j, 1)) (hj : (j : Nat) = i) (hL : L[i]? = some (some (.double x))) (kk : HW Z k n (pc + 1) L (.double x :: st) μ) : HW Z k n pc L st μ := by
  refine HW.go C ?_ kk
  obtain ⟨p, l, e, R, s, m, args, below, meth, c, G, A, nL, Q⟩ := Z
  intro hx hb hown hts H locs ls hl kk
  exact lv_dload_n hx hb d hj (hl.2.2 i _ hL) (kk ls hl)
theorem h_dload_w {Z : Zx} {own : String} {cc : ByteArray} {rf rc rs rl k n pc : Nat} {L : List (Option Value)} {st : List Value} {μ : Mem} {i : Nat} {x : UInt64} (C : Cx Z own cc rf rc rs rl) (d : decode cc pc = .ok (.dload i, 2)) (hL : L[i]? = some (some (.double x))) (kk : HW Z k n (pc + 2) L (.double x :: st) μ) : HW Z k n pc L st μ := by
  refine HW.go C ?_ kk
  obtain ⟨p, l, e, R, s, m, args, below, meth, c, G, A, nL, Q⟩ := Z
  intro hx hb hown hts H locs ls hl kk
  exact lv_dload hx hb d (hl.2.2 i _ hL) (kk ls hl)
theorem h_dstore_g {Z : Zx} {own : String} {cc : ByteArray} {rf rc rs rl k n pc : Nat} {L : List (Option Value)} {st : List Value} {μ : Mem} {j : Fin 4} {i : Nat} {x : UInt64} (C : Cx Z own cc rf rc rs rl) (d : decode cc pc = .ok (.dstore_n j, 1)) (hj : (j : Nat) = i) (hn : i + 1 < Z.2.2.2.2.2.2.2.2.2.2.2.2.1) (hc : ∀ (j : Nat) (w : Value), j + 1 = i → L[j]? = some (some w) → w.category = 1) (kk : HW Z k n (pc + 1) ((L.set i (some (.double x))).set (i + 1) none) st μ) : HW Z k n pc L (.double x :: st) μ := by
  refine HW.go C ?_ kk
  obtain ⟨p, l, e, R, s, m, args, below, meth, c, G, A, nL, Q⟩ := Z
  intro hx hb hown hts H locs ls hl kk
  exact lv_dstore_n hx hb d hj hl.to hn rfl (fun ls2 h2 => kk ls2 (lhas.st2 h2 hc))
theorem h_dstore_w {Z : Zx} {own : String} {cc : ByteArray} {rf rc rs rl k n pc : Nat} {L : List (Option Value)} {st : List Value} {μ : Mem} {j : Fin 4} {i : Nat} {x : UInt64} (C : Cx Z own cc rf rc rs rl) (d : decode cc pc = .ok (.dstore i, 2)) (hn : i + 1 < Z.2.2.2.2.2.2.2.2.2.2.2.2.1) (hc : ∀ (j : Nat) (w : Value), j + 1 = i → L[j]? = some (some w) → w.category = 1) (kk : HW Z k n (pc + 2) ((L.set i (some (.double x))).set (i + 1) none) st μ) : HW Z k n pc L (.double x :: st) μ := by
  refine HW.go C ?_ kk
  obtain ⟨p, l, e, R, s, m, args, below, meth, c, G, A, nL, Q⟩ := Z
  intro hx hb hown hts H locs ls hl kk
  exact lv_dstore hx hb d hl.to hn rfl (fun ls2 h2 => kk ls2 (lhas.st2 h2 hc))
theorem h_aload_g {Z : Zx} {own : String} {cc : ByteArray} {rf rc rs rl k n pc : Nat} {L : List (Option Value)} {st : List Value} {μ : Mem} {j : Fin 4} {i : Nat} {r : Option Nat} (C : Cx Z own cc rf rc rs rl) (d : decode cc pc = .ok (.aload_n j, 1)) (hj : (j : Nat) = i) (hL : L[i]? = some (some (va_rf r))) (kk : HW Z k n (pc + 1) L (va_rf r :: st) μ) : HW Z k n pc L st μ := by
  refine HW.go C ?_ kk
  obtain ⟨p, l, e, R, s, m, args, below, meth, c, G, A, nL, Q⟩ := Z
  intro hx hb hown hts H locs ls hl kk
  have hq := hl.2.2 i _ hL
  cases r with
  | none => exact lv_aload_nN hx hb d hj hq (kk ls hl)
  | some y => exact lv_aload_n hx hb d hj hq (kk ls hl)
theorem h_astore_g {Z : Zx} {own : String} {cc : ByteArray} {rf rc rs rl k n pc : Nat} {L : List (Option Value)} {st : List Value} {μ : Mem} {j : Fin 4} {i : Nat} {r : Option Nat} (C : Cx Z own cc rf rc rs rl) (d : decode cc pc = .ok (.astore_n j, 1)) (hj : (j : Nat) = i) (hn : i < Z.2.2.2.2.2.2.2.2.2.2.2.2.1) (hc : ∀ (j : Nat) (w : Value), j + 1 = i → L[j]? = some (some w) → w.category = 1) (kk : HW Z k n (pc + 1) (L.set i (some (va_rf r))) st μ) : HW Z k n pc L (va_rf r :: st) μ := by
  refine HW.go C ?_ kk
  obtain ⟨p, l, e, R, s, m, args, below, meth, c, G, A, nL, Q⟩ := Z
  intro hx hb hown hts H locs ls hl kk
  cases r with
  | none => exact lv_astore_nN hx hb d hj hl.to hn rfl (fun ls2 h2 => kk ls2 (lhas.st1 h2 hc))
  | some y => exact lv_astore_n hx hb d hj hl.to hn rfl (fun ls2 h2 => kk ls2 (lhas.st1 h2 hc))
theorem h_aload_w {Z : Zx} {own : String} {cc : ByteArray} {rf rc rs rl k n pc : Nat} {L : List (Option Value)} {st : List Value} {μ : Mem} {j : Fin 4} {i : Nat} {r : Option Nat} (C : Cx Z own cc rf rc rs rl) (d : decode cc pc = .ok (.aload i, 2)) (hL : L[i]? = some (some (va_rf r))) (kk : HW Z k n (pc + 2) L (va_rf r :: st) μ) : HW Z k n pc L st μ := by
  refine HW.go C ?_ kk
  obtain ⟨p, l, e, R, s, m, args, below, meth, c, G, A, nL, Q⟩ := Z
  intro hx hb hown hts H locs ls hl kk
  have hq := hl.2.2 i _ hL
  cases r with
  | none => exact lv_aloadN hx hb d hq (kk ls hl)
  | some y => exact lv_aload hx hb d hq (kk ls hl)
theorem h_astore_w {Z : Zx} {own : String} {cc : ByteArray} {rf rc rs rl k n pc : Nat} {L : List (Option Value)} {st : List Value} {μ : Mem} {j : Fin 4} {i : Nat} {r : Option Nat} (C : Cx Z own cc rf rc rs rl) (d : decode cc pc = .ok (.astore i, 2)) (hn : i < Z.2.2.2.2.2.2.2.2.2.2.2.2.1) (hc : ∀ (j : Nat) (w : Value), j + 1 = i → L[j]? = some (some w) → w.category = 1) (kk : HW Z k n (pc + 2) (L.set i (some (va_rf r))) st μ) : HW Z k n pc L (va_rf r :: st) μ := by
  refine HW.go C ?_ kk
  obtain ⟨p, l, e, R, s, m, args, below, meth, c, G, A, nL, Q⟩ := Z
  intro hx hb hown hts H locs ls hl kk
  cases r with
  | none => exact lv_astoreN hx hb d hl.to hn rfl (fun ls2 h2 => kk ls2 (lhas.st1 h2 hc))
  | some y => exact lv_astore hx hb d hl.to hn rfl (fun ls2 h2 => kk ls2 (lhas.st1 h2 hc))
theorem h_iinc {Z : Zx} {own : String} {cc : ByteArray} {rf rc rs rl k n pc : Nat} {L : List (Option Value)} {st : List Value} {μ : Mem} {i : Nat} {q : Int} {x v : Int32} (C : Cx Z own cc rf rc rs rl) (d : decode cc pc = .ok (.iinc i q, 3)) (hL : L[i]? = some (some (.int x))) (hv : x + Int32.ofInt q = v) (hn : i < Z.2.2.2.2.2.2.2.2.2.2.2.2.1) (hc : ∀ (j : Nat) (w : Value), j + 1 = i → L[j]? = some (some w) → w.category = 1) (kk : HW Z k n (pc + 3) (L.set i (some (.int v))) st μ) : HW Z k n pc L st μ := by
  refine HW.go C ?_ kk
  obtain ⟨p, l, e, R, s, m, args, below, meth, c, G, A, nL, Q⟩ := Z
  intro hx hb hown hts H locs ls hl kk
  obtain ⟨k9, hk9⟩ := List.getElem?_of_mem (lo_in.mpr hL)
  exact lv_iinc hx hb d hl.to hk9 hv hn rfl (fun ls2 h2 => kk ls2 (lhas.st1 h2 hc))
theorem h_drop {Z : Zx} {k n pc : Nat} {L L2 : List (Option Value)} {st : List Value} {μ : Mem} (hs : ∀ (i : Nat) (v : Value), L2[i]? = some (some v) → L[i]? = some (some v)) (kk : HW Z k n pc L2 st μ) : HW Z k n pc L st μ := by
  obtain ⟨p, l, e, R, s, m, args, below, meth, c, G, A, nL, Q⟩ := Z
  intro H locs ls hR hS hl
  exact kk H locs ls hR hS (hl.drop hs)
theorem h_widen {Z : Zx} {k n k2 n2 pc : Nat} {L : List (Option Value)} {st : List Value} {μ : Mem} (h1 : k ≤ k2) (h2 : n ≤ n2) (kk : HW Z k2 n2 pc L st μ) : HW Z k n pc L st μ := by
  obtain ⟨p, l, e, R, s, m, args, below, meth, c, G, A, nL, Q⟩ := Z
  intro H locs ls hR hS hl
  exact W.widen h1 h2 (kk H locs ls hR hS hl)
end
