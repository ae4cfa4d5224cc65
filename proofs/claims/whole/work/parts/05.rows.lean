section
theorem HW.go {Z : Zx} {own : String} {cc : ByteArray} {rf rc rs rl k n pc pc2 : Nat} {L L2 : List (Option Value)} {st st2 : List Value} {μ : Mem} (C : Cx Z own cc rf rc rs rl)
    (hgo : match Z with | (p, l, e, R, s, m, args, below, meth, c, G, A, nL, Q) => p.tables.exec = Jvm.exec → c.code = cc → s.vm.findClass own = some m.cls → (∀ w ∈ lw_good, w.before args s = true) → ∀ (H : Heap) (locs : List Loc) (ls : Array Slot), lhas ls nL L → (∀ ls2 : Array Slot, lhas ls2 nL L2 → W p l e R s m args below meth c H locs k n Q (F0 m pc2 ls2 st2)) → W p l e R s m args below meth c H locs k n Q (F0 m pc ls st))
    (kk : HW Z k n pc2 L2 st2 μ) : HW Z k n pc L st μ := by
  obtain ⟨p, l, e, R, s, m, args, below, meth, c, G, A, nL, Q⟩ := Z
  obtain ⟨⟨hx, hb, hml, hown, hts⟩, _⟩ := C
  intro H locs ls hR hS hl
  exact hgo hx hb hown hts H locs ls hl (fun ls2 hl2 => kk H locs ls2 hR hS hl2)
theorem h_iconst {Z : Zx} {own : String} {cc : ByteArray} {rf rc rs rl k n pc : Nat} {L : List (Option Value)} {st : List Value} {μ : Mem} {i : Int} {v : Int32} (C : Cx Z own cc rf rc rs rl) (d : decode cc pc = .ok (.iconst i, 1)) (hv : Int32.ofInt i = v) (kk : HW Z k n (pc + 1) L (.int v :: st) μ) : HW Z k n pc L st μ := by
  refine HW.go C ?_ kk
  obtain ⟨p, l, e, R, s, m, args, below, meth, c, G, A, nL, Q⟩ := Z
  intro hx hb hown hts H locs ls hl kk
  exact lv_iconst hx hb d hv (kk ls hl)
theorem h_bipush {Z : Zx} {own : String} {cc : ByteArray} {rf rc rs rl k n pc : Nat} {L : List (Option Value)} {st : List Value} {μ : Mem} {i : Int} {v : Int32} (C : Cx Z own cc rf rc rs rl) (d : decode cc pc = .ok (.bipush i, 2)) (hv : (Int8.ofInt i).toInt32 = v) (kk : HW Z k n (pc + 2) L (.int v :: st) μ) : HW Z k n pc L st μ := by
  refine HW.go C ?_ kk
  obtain ⟨p, l, e, R, s, m, args, below, meth, c, G, A, nL, Q⟩ := Z
  intro hx hb hown hts H locs ls hl kk
  exact lv_bipush hx hb d hv (kk ls hl)
theorem h_sipush {Z : Zx} {own : String} {cc : ByteArray} {rf rc rs rl k n pc : Nat} {L : List (Option Value)} {st : List Value} {μ : Mem} {i : Int} {v : Int32} (C : Cx Z own cc rf rc rs rl) (d : decode cc pc = .ok (.sipush i, 3)) (hv : (Int16.ofInt i).toInt32 = v) (kk : HW Z k n (pc + 3) L (.int v :: st) μ) : HW Z k n pc L st μ := by
  refine HW.go C ?_ kk
  obtain ⟨p, l, e, R, s, m, args, below, meth, c, G, A, nL, Q⟩ := Z
  intro hx hb hown hts H locs ls hl kk
  exact lv_sipush hx hb d hv (kk ls hl)
theorem h_lconst {Z : Zx} {own : String} {cc : ByteArray} {rf rc rs rl k n pc : Nat} {L : List (Option Value)} {st : List Value} {μ : Mem} {i : Fin 2} {v : Int64} (C : Cx Z own cc rf rc rs rl) (d : decode cc pc = .ok (.lconst i, 1)) (hv : Int64.ofNat (i : Nat) = v) (kk : HW Z k n (pc + 1) L (.long v :: st) μ) : HW Z k n pc L st μ := by
  refine HW.go C ?_ kk
  obtain ⟨p, l, e, R, s, m, args, below, meth, c, G, A, nL, Q⟩ := Z
  intro hx hb hown hts H locs ls hl kk
  exact lv_lconst hx hb d hv (kk ls hl)
theorem h_null {Z : Zx} {own : String} {cc : ByteArray} {rf rc rs rl k n pc : Nat} {L : List (Option Value)} {st : List Value} {μ : Mem} (C : Cx Z own cc rf rc rs rl) (d : decode cc pc = .ok (.aconst_null, 1)) (kk : HW Z k n (pc + 1) L (.null :: st) μ) : HW Z k n pc L st μ := by
  refine HW.go C ?_ kk
  obtain ⟨p, l, e, R, s, m, args, below, meth, c, G, A, nL, Q⟩ := Z
  intro hx hb hown hts H locs ls hl kk
  exact lv_null hx hb d (kk ls hl)
theorem h_ldc {Z : Zx} {own : String} {cc : ByteArray} {rf rc rs rl k n pc : Nat} {L : List (Option Value)} {st : List Value} {μ : Mem} {idx : Nat} {v : Int32} (C : Cx Z own cc rf rc rs rl) (hm : Cond.constant own idx v ∈ lw_good) (d : decode cc pc = .ok (.ldc idx, 2)) (kk : HW Z k n (pc + 2) L (.int v :: st) μ) : HW Z k n pc L st μ := by
  refine HW.go C ?_ kk
  obtain ⟨p, l, e, R, s, m, args, below, meth, c, G, A, nL, Q⟩ := Z
  intro hx hb hown hts H locs ls hl kk
  exact lv_ldc hx hb hown (hts _ hm) d (kk ls hl)
theorem h_ldc2 {Z : Zx} {own : String} {cc : ByteArray} {rf rc rs rl k n pc : Nat} {L : List (Option Value)} {st : List Value} {μ : Mem} {idx : Nat} {v : Int64} (C : Cx Z own cc rf rc rs rl) (hm : Cond.constantLong own idx v ∈ lw_good) (d : decode cc pc = .ok (.ldc2_w idx, 3)) (kk : HW Z k n (pc + 3) L (.long v :: st) μ) : HW Z k n pc L st μ := by
  refine HW.go C ?_ kk
  obtain ⟨p, l, e, R, s, m, args, below, meth, c, G, A, nL, Q⟩ := Z
  intro hx hb hown hts H locs ls hl kk
  exact lv_ldc2 hx hb hown (hts _ hm) d (kk ls hl)
theorem h_fconst0 {Z : Zx} {own : String} {cc : ByteArray} {rf rc rs rl k n pc : Nat} {L : List (Option Value)} {st : List Value} {μ : Mem} (C : Cx Z own cc rf rc rs rl) (d : decode cc pc = .ok (.fconst 0, 1)) (kk : HW Z k n (pc + 1) L (.float 0 :: st) μ) : HW Z k n pc L st μ := by
  refine HW.go C ?_ kk
  obtain ⟨p, l, e, R, s, m, args, below, meth, c, G, A, nL, Q⟩ := Z
  intro hx hb hown hts H locs ls hl kk
  exact lv_fconst0 hx hb d (kk ls hl)
theorem h_dconst0 {Z : Zx} {own : String} {cc : ByteArray} {rf rc rs rl k n pc : Nat} {L : List (Option Value)} {st : List Value} {μ : Mem} (C : Cx Z own cc rf rc rs rl) (d : decode cc pc = .ok (.dconst 0, 1)) (kk : HW Z k n (pc + 1) L (.double 0 :: st) μ) : HW Z k n pc L st μ := by
  refine HW.go C ?_ kk
  obtain ⟨p, l, e, R, s, m, args, below, meth, c, G, A, nL, Q⟩ := Z
  intro hx hb hown hts H locs ls hl kk
  exact lv_dconst0 hx hb d (kk ls hl)
theorem h_iadd {Z : Zx} {own : String} {cc : ByteArray} {rf rc rs rl k n pc : Nat} {L : List (Option Value)} {st : List Value} {μ : Mem} {x y : Int32} (C : Cx Z own cc rf rc rs rl) (d : decode cc pc = .ok (.iadd, 1)) (kk : HW Z k n (pc + 1) L (.int (x + y) :: st) μ) : HW Z k n pc L (.int y :: .int x :: st) μ := by
  refine HW.go C ?_ kk
  obtain ⟨p, l, e, R, s, m, args, below, meth, c, G, A, nL, Q⟩ := Z
  intro hx hb hown hts H locs ls hl kk
  exact lv_iadd hx hb d (kk ls hl)
theorem h_isub {Z : Zx} {own : String} {cc : ByteArray} {rf rc rs rl k n pc : Nat} {L : List (Option Value)} {st : List Value} {μ : Mem} {x y : Int32} (C : Cx Z own cc rf rc rs rl) (d : decode cc pc = .ok (.isub, 1)) (kk : HW Z k n (pc + 1) L (.int (x - y) :: st) μ) : HW Z k n pc L (.int y :: .int x :: st) μ := by
  refine HW.go C ?_ kk
  obtain ⟨p, l, e, R, s, m, args, below, meth, c, G, A, nL, Q⟩ := Z
  intro hx hb hown hts H locs ls hl kk
  exact lv_isub hx hb d (kk ls hl)
theorem h_imul {Z : Zx} {own : String} {cc : ByteArray} {rf rc rs rl k n pc : Nat} {L : List (Option Value)} {st : List Value} {μ : Mem} {x y : Int32} (C : Cx Z own cc rf rc rs rl) (d : decode cc pc = .ok (.imul, 1)) (kk : HW Z k n (pc + 1) L (.int (x * y) :: st) μ) : HW Z k n pc L (.int y :: .int x :: st) μ := by
  refine HW.go C ?_ kk
  obtain ⟨p, l, e, R, s, m, args, below, meth, c, G, A, nL, Q⟩ := Z
  intro hx hb hown hts H locs ls hl kk
  exact lv_imul hx hb d (kk ls hl)
theorem h_iand {Z : Zx} {own : String} {cc : ByteArray} {rf rc rs rl k n pc : Nat} {L : List (Option Value)} {st : List Value} {μ : Mem} {x y : Int32} (C : Cx Z own cc rf rc rs rl) (d : decode cc pc = .ok (.iand, 1)) (kk : HW Z k n (pc + 1) L (.int (x &&& y) :: st) μ) : HW Z k n pc L (.int y :: .int x :: st) μ := by
  refine HW.go C ?_ kk
  obtain ⟨p, l, e, R, s, m, args, below, meth, c, G, A, nL, Q⟩ := Z
  intro hx hb hown hts H locs ls hl kk
  exact lv_iand hx hb d (kk ls hl)
theorem h_ior {Z : Zx} {own : String} {cc : ByteArray} {rf rc rs rl k n pc : Nat} {L : List (Option Value)} {st : List Value} {μ : Mem} {x y : Int32} (C : Cx Z own cc rf rc rs rl) (d : decode cc pc = .ok (.ior, 1)) (kk : HW Z k n (pc + 1) L (.int (x ||| y) :: st) μ) : HW Z k n pc L (.int y :: .int x :: st) μ := by
  refine HW.go C ?_ kk
  obtain ⟨p, l, e, R, s, m, args, below, meth, c, G, A, nL, Q⟩ := Z
  intro hx hb hown hts H locs ls hl kk
  exact lv_ior hx hb d (kk ls hl)
theorem h_ixor {Z : Zx} {own : String} {cc : ByteArray} {rf rc rs rl k n pc : Nat} {L : List (Option Value)} {st : List Value} {μ : Mem} {x y : Int32} (C : Cx Z own cc rf rc rs rl) (d : decode cc pc = .ok (.ixor, 1)) (kk : HW Z k n (pc + 1) L (.int (x ^^^ y) :: st) μ) : HW Z k n pc L (.int y :: .int x :: st) μ := by
  refine HW.go C ?_ kk
  obtain ⟨p, l, e, R, s, m, args, below, meth, c, G, A, nL, Q⟩ := Z
  intro hx hb hown hts H locs ls hl kk
  exact lv_ixor hx hb d (kk ls hl)
theorem h_ishl {Z : Zx} {own : String} {cc : ByteArray} {rf rc rs rl k n pc : Nat} {L : List (Option Value)} {st : List Value} {μ : Mem} {x y : Int32} (C : Cx Z own cc rf rc rs rl) (d : decode cc pc = .ok (.ishl, 1)) (kk : HW Z k n (pc + 1) L (.int (x <<< (y &&& 31)) :: st) μ) : HW Z k n pc L (.int y :: .int x :: st) μ := by
  refine HW.go C ?_ kk
  obtain ⟨p, l, e, R, s, m, args, below, meth, c, G, A, nL, Q⟩ := Z
  intro hx hb hown hts H locs ls hl kk
  exact lv_ishl hx hb d (kk ls hl)
theorem h_ishr {Z : Zx} {own : String} {cc : ByteArray} {rf rc rs rl k n pc : Nat} {L : List (Option Value)} {st : List Value} {μ : Mem} {x y : Int32} (C : Cx Z own cc rf rc rs rl) (d : decode cc pc = .ok (.ishr, 1)) (kk : HW Z k n (pc + 1) L (.int (x >>> (y &&& 31)) :: st) μ) : HW Z k n pc L (.int y :: .int x :: st) μ := by
  refine HW.go C ?_ kk
  obtain ⟨p, l, e, R, s, m, args, below, meth, c, G, A, nL, Q⟩ := Z
  intro hx hb hown hts H locs ls hl kk
  exact lv_ishr hx hb d (kk ls hl)
theorem h_idiv {Z : Zx} {own : String} {cc : ByteArray} {rf rc rs rl k n pc : Nat} {L : List (Option Value)} {st : List Value} {μ : Mem} {x y : Int32} (C : Cx Z own cc rf rc rs rl) (d : decode cc pc = .ok (.idiv, 1)) (hne : ¬ y = 0) (kk : HW Z k n (pc + 1) L (.int (x / y) :: st) μ) : HW Z k n pc L (.int y :: .int x :: st) μ := by
  refine HW.go C ?_ kk
  obtain ⟨p, l, e, R, s, m, args, below, meth, c, G, A, nL, Q⟩ := Z
  intro hx hb hown hts H locs ls hl kk
  exact lv_idiv hx hb d hne (kk ls hl)
theorem h_irem {Z : Zx} {own : String} {cc : ByteArray} {rf rc rs rl k n pc : Nat} {L : List (Option Value)} {st : List Value} {μ : Mem} {x y : Int32} (C : Cx Z own cc rf rc rs rl) (d : decode cc pc = .ok (.irem, 1)) (hne : ¬ y = 0) (kk : HW Z k n (pc + 1) L (.int (x - x / y * y) :: st) μ) : HW Z k n pc L (.int y :: .int x :: st) μ := by
  refine HW.go C ?_ kk
  obtain ⟨p, l, e, R, s, m, args, below, meth, c, G, A, nL, Q⟩ := Z
  intro hx hb hown hts H locs ls hl kk
  exact lv_irem hx hb d hne (kk ls hl)
theorem h_ineg {Z : Zx} {own : String} {cc : ByteArray} {rf rc rs rl k n pc : Nat} {L : List (Option Value)} {st : List Value} {μ : Mem} {x : Int32} (C : Cx Z own cc rf rc rs rl) (d : decode cc pc = .ok (.ineg, 1)) (kk : HW Z k n (pc + 1) L (.int (-x) :: st) μ) : HW Z k n pc L (.int x :: st) μ := by
  refine HW.go C ?_ kk
  obtain ⟨p, l, e, R, s, m, args, below, meth, c, G, A, nL, Q⟩ := Z
  intro hx hb hown hts H locs ls hl kk
  exact lv_ineg hx hb d (kk ls hl)
theorem h_ladd {Z : Zx} {own : String} {cc : ByteArray} {rf rc rs rl k n pc : Nat} {L : List (Option Value)} {st : List Value} {μ : Mem} {x y : Int64} (C : Cx Z own cc rf rc rs rl) (d : decode cc pc = .ok (.ladd, 1)) (kk : HW Z k n (pc + 1) L (.long (x + y) :: st) μ) : HW Z k n pc L (.long y :: .long x :: st) μ := by
  refine HW.go C ?_ kk
  obtain ⟨p, l, e, R, s, m, args, below, meth, c, G, A, nL, Q⟩ := Z
  intro hx hb hown hts H locs ls hl kk
  exact lv_ladd hx hb d (kk ls hl)
theorem h_lsub {Z : Zx} {own : String} {cc : ByteArray} {rf rc rs rl k n pc : Nat} {L : List (Option Value)} {st : List Value} {μ : Mem} {x y : Int64} (C : Cx Z own cc rf rc rs rl) (d : decode cc pc = .ok (.lsub, 1)) (kk : HW Z k n (pc + 1) L (.long (x - y) :: st) μ) : HW Z k n pc L (.long y :: .long x :: st) μ := by
  refine HW.go C ?_ kk
  obtain ⟨p, l, e, R, s, m, args, below, meth, c, G, A, nL, Q⟩ := Z
  intro hx hb hown hts H locs ls hl kk
  exact lv_lsub hx hb d (kk ls hl)
theorem h_lmul {Z : Zx} {own : String} {cc : ByteArray} {rf rc rs rl k n pc : Nat} {L : List (Option Value)} {st : List Value} {μ : Mem} {x y : Int64} (C : Cx Z own cc rf rc rs rl) (d : decode cc pc = .ok (.lmul, 1)) (kk : HW Z k n (pc + 1) L (.long (x * y) :: st) μ) : HW Z k n pc L (.long y :: .long x :: st) μ := by
  refine HW.go C ?_ kk
  obtain ⟨p, l, e, R, s, m, args, below, meth, c, G, A, nL, Q⟩ := Z
  intro hx hb hown hts H locs ls hl kk
  exact lv_lmul hx hb d (kk ls hl)
theorem h_land {Z : Zx} {own : String} {cc : ByteArray} {rf rc rs rl k n pc : Nat} {L : List (Option Value)} {st : List Value} {μ : Mem} {x y : Int64} (C : Cx Z own cc rf rc rs rl) (d : decode cc pc = .ok (.land, 1)) (kk : HW Z k n (pc + 1) L (.long (x &&& y) :: st) μ) : HW Z k n pc L (.long y :: .long x :: st) μ := by
  refine HW.go C ?_ kk
  obtain ⟨p, l, e, R, s, m, args, below, meth, c, G, A, nL, Q⟩ := Z
  intro hx hb hown hts H locs ls hl kk
  exact lv_land hx hb d (kk ls hl)
theorem h_lor {Z : Zx} {own : String} {cc : ByteArray} {rf rc rs rl k n pc : Nat} {L : List (Option Value)} {st : List Value} {μ : Mem} {x y : Int64} (C : Cx Z own cc rf rc rs rl) (d : decode cc pc = .ok (.lor, 1)) (kk : HW Z k n (pc + 1) L (.long (x ||| y) :: st) μ) : HW Z k n pc L (.long y :: .long x :: st) μ := by
  refine HW.go C ?_ kk
  obtain ⟨p, l, e, R, s, m, args, below, meth, c, G, A, nL, Q⟩ := Z
  intro hx hb hown hts H locs ls hl kk
  exact lv_lor hx hb d (kk ls hl)
theorem h_lxor {Z : Zx} {own : String} {cc : ByteArray} {rf rc rs rl k n pc : Nat} {L : List (Option Value)} {st : List Value} {μ : Mem} {x y : Int64} (C : Cx Z own cc rf rc rs rl) (d : decode cc pc = .ok (.lxor, 1)) (kk : HW Z k n (pc + 1) L (.long (x ^^^ y) :: st) μ) : HW Z k n pc L (.long y :: .long x :: st) μ := by
  refine HW.go C ?_ kk
  obtain ⟨p, l, e, R, s, m, args, below, meth, c, G, A, nL, Q⟩ := Z
  intro hx hb hown hts H locs ls hl kk
  exact lv_lxor hx hb d (kk ls hl)
theorem h_ldiv {Z : Zx} {own : String} {cc : ByteArray} {rf rc rs rl k n pc : Nat} {L : List (Option Value)} {st : List Value} {μ : Mem} {x y : Int64} (C : Cx Z own cc rf rc rs rl) (d : decode cc pc = .ok (.ldiv, 1)) (hne : ¬ y = 0) (kk : HW Z k n (pc + 1) L (.long (x / y) :: st) μ) : HW Z k n pc L (.long y :: .long x :: st) μ := by
  refine HW.go C ?_ kk
  obtain ⟨p, l, e, R, s, m, args, below, meth, c, G, A, nL, Q⟩ := Z
  intro hx hb hown hts H locs ls hl kk
  exact lv_ldiv hx hb d hne (kk ls hl)
theorem h_lrem {Z : Zx} {own : String} {cc : ByteArray} {rf rc rs rl k n pc : Nat} {L : List (Option Value)} {st : List Value} {μ : Mem} {x y : Int64} (C : Cx Z own cc rf rc rs rl) (d : decode cc pc = .ok (.lrem, 1)) (hne : ¬ y = 0) (kk : HW Z k n (pc + 1) L (.long (x - x / y * y) :: st) μ) : HW Z k n pc L (.long y :: .long x :: st) μ := by
  refine HW.go C ?_ kk
  obtain ⟨p, l, e, R, s, m, args, below, meth, c, G, A, nL, Q⟩ := Z
  intro hx hb hown hts H locs ls hl kk
  exact lv_lrem hx hb d hne (kk ls hl)
theorem h_lshl {Z : Zx} {own : String} {cc : ByteArray} {rf rc rs rl k n pc : Nat} {L : List (Option Value)} {st : List Value} {μ : Mem} {y : Int32} {x : Int64} (C : Cx Z own cc rf rc rs rl) (d : decode cc pc = .ok (.lshl, 1)) (kk : HW Z k n (pc + 1) L (.long (x <<< (y.toInt64 &&& 63)) :: st) μ) : HW Z k n pc L (.int y :: .long x :: st) μ := by
  refine HW.go C ?_ kk
  obtain ⟨p, l, e, R, s, m, args, below, meth, c, G, A, nL, Q⟩ := Z
  intro hx hb hown hts H locs ls hl kk
  exact lv_lshl hx hb d rfl (kk ls hl)
theorem h_lushr {Z : Zx} {own : String} {cc : ByteArray} {rf rc rs rl k n pc : Nat} {L : List (Option Value)} {st : List Value} {μ : Mem} {y : Int32} {x : Int64} (C : Cx Z own cc rf rc rs rl) (d : decode cc pc = .ok (.lushr, 1)) (kk : HW Z k n (pc + 1) L (.long ((x.toUInt64 >>> (y.toInt64.toUInt64 &&& Int64.toUInt64 63)).toInt64) :: st) μ) : HW Z k n pc L (.int y :: .long x :: st) μ := by
  refine HW.go C ?_ kk
  obtain ⟨p, l, e, R, s, m, args, below, meth, c, G, A, nL, Q⟩ := Z
  intro hx hb hown hts H locs ls hl kk
  exact lv_lushr hx hb d rfl (kk ls hl)
theorem h_i2l {Z : Zx} {own : String} {cc : ByteArray} {rf rc rs rl k n pc : Nat} {L : List (Option Value)} {st : List Value} {μ : Mem} {x : Int32} (C : Cx Z own cc rf rc rs rl) (d : decode cc pc = .ok (.i2l, 1)) (kk : HW Z k n (pc + 1) L (.long x.toInt64 :: st) μ) : HW Z k n pc L (.int x :: st) μ := by
  refine HW.go C ?_ kk
  obtain ⟨p, l, e, R, s, m, args, below, meth, c, G, A, nL, Q⟩ := Z
  intro hx hb hown hts H locs ls hl kk
  exact lv_i2l hx hb d rfl (kk ls hl)
theorem h_l2i {Z : Zx} {own : String} {cc : ByteArray} {rf rc rs rl k n pc : Nat} {L : List (Option Value)} {st : List Value} {μ : Mem} {x : Int64} (C : Cx Z own cc rf rc rs rl) (d : decode cc pc = .ok (.l2i, 1)) (kk : HW Z k n (pc + 1) L (.int x.toInt32 :: st) μ) : HW Z k n pc L (.long x :: st) μ := by
  refine HW.go C ?_ kk
  obtain ⟨p, l, e, R, s, m, args, below, meth, c, G, A, nL, Q⟩ := Z
  intro hx hb hown hts H locs ls hl kk
  exact lv_l2i hx hb d rfl (kk ls hl)
theorem lcmp_any {x y : Int64} : True := trivial
theorem h_dup {Z : Zx} {own : String} {cc : ByteArray} {rf rc rs rl k n pc : Nat} {L : List (Option Value)} {st : List Value} {μ : Mem} {va : Value} (C : Cx Z own cc rf rc rs rl) (d : decode cc pc = .ok (.dup, 1)) (h1 : va.category = 1) (kk : HW Z k n (pc + 1) L (va :: va :: st) μ) : HW Z k n pc L (va :: st) μ := by
  refine HW.go C ?_ kk
  obtain ⟨p, l, e, R, s, m, args, below, meth, c, G, A, nL, Q⟩ := Z
  intro hx hb hown hts H locs ls hl kk
  exact lv_dup hx hb d h1 (kk ls hl)
theorem h_pop {Z : Zx} {own : String} {cc : ByteArray} {rf rc rs rl k n pc : Nat} {L : List (Option Value)} {st : List Value} {μ : Mem} {va : Value} (C : Cx Z own cc rf rc rs rl) (d : decode cc pc = .ok (.pop, 1)) (h1 : va.category = 1) (kk : HW Z k n (pc + 1) L st μ) : HW Z k n pc L (va :: st) μ := by
  refine HW.go C ?_ kk
  obtain ⟨p, l, e, R, s, m, args, below, meth, c, G, A, nL, Q⟩ := Z
  intro hx hb hown hts H locs ls hl kk
  exact lv_pop hx hb d h1 (kk ls hl)
theorem h_dup_x1 {Z : Zx} {own : String} {cc : ByteArray} {rf rc rs rl k n pc : Nat} {L : List (Option Value)} {st : List Value} {μ : Mem} {va vb : Value} (C : Cx Z own cc rf rc rs rl) (d : decode cc pc = .ok (.dup_x1, 1)) (h1 : va.category = 1) (h2 : vb.category = 1) (kk : HW Z k n (pc + 1) L (va :: vb :: va :: st) μ) : HW Z k n pc L (va :: vb :: st) μ := by
  refine HW.go C ?_ kk
  obtain ⟨p, l, e, R, s, m, args, below, meth, c, G, A, nL, Q⟩ := Z
  intro hx hb hown hts H locs ls hl kk
  exact lv_dup_x1 hx hb d h1 h2 (kk ls hl)
theorem h_dup_x2 {Z : Zx} {own : String} {cc : ByteArray} {rf rc rs rl k n pc : Nat} {L : List (Option Value)} {st : List Value} {μ : Mem} {va vb vc : Value} (C : Cx Z own cc rf rc rs rl) (d : decode cc pc = .ok (.dup_x2, 1)) (h1 : va.category = 1) (h2 : vb.category = 1) (h3 : vc.category = 1) (kk : HW Z k n (pc + 1) L (va :: vb :: vc :: va :: st) μ) : HW Z k n pc L (va :: vb :: vc :: st) μ := by
  refine HW.go C ?_ kk
  obtain ⟨p, l, e, R, s, m, args, below, meth, c, G, A, nL, Q⟩ := Z
  intro hx hb hown hts H locs ls hl kk
  exact lv_dup_x2 hx hb d h1 h2 h3 (kk ls hl)
theorem h_dup2 {Z : Zx} {own : String} {cc : ByteArray} {rf rc rs rl k n pc : Nat} {L : List (Option Value)} {st : List Value} {μ : Mem} {va vb : Value} (C : Cx Z own cc rf rc rs rl) (d : decode cc pc = .ok (.dup2, 1)) (h1 : va.category = 1) (h2 : vb.category = 1) (kk : HW Z k n (pc + 1) L (va :: vb :: va :: vb :: st) μ) : HW Z k n pc L (va :: vb :: st) μ := by
  refine HW.go C ?_ kk
  obtain ⟨p, l, e, R, s, m, args, below, meth, c, G, A, nL, Q⟩ := Z
  intro hx hb hown hts H locs ls hl kk
  exact lv_dup2_11 hx hb d h1 h2 (kk ls hl)
theorem h_dup2L {Z : Zx} {own : String} {cc : ByteArray} {rf rc rs rl k n pc : Nat} {L : List (Option Value)} {st : List Value} {μ : Mem} {va : Value} (C : Cx Z own cc rf rc rs rl) (d : decode cc pc = .ok (.dup2, 1)) (h1 : va.category = 2) (kk : HW Z k n (pc + 1) L (va :: va :: st) μ) : HW Z k n pc L (va :: st) μ := by
  refine HW.go C ?_ kk
  obtain ⟨p, l, e, R, s, m, args, below, meth, c, G, A, nL, Q⟩ := Z
  intro hx hb hown hts H locs ls hl kk
  exact lv_dup2_2 hx hb d h1 (kk ls hl)
theorem h_goto {Z : Zx} {own : String} {cc : ByteArray} {rf rc rs rl k n pc : Nat} {L : List (Option Value)} {st : List Value} {μ : Mem} {off : Int} {tgt : Nat} (C : Cx Z own cc rf rc rs rl) (d : decode cc pc = .ok (.goto off, 3)) (ht : (pc : Int) + off = (tgt : Int)) (kk : HW Z k n tgt L st μ) : HW Z k n pc L st μ := by
  refine HW.go C ?_ kk
  obtain ⟨p, l, e, R, s, m, args, below, meth, c, G, A, nL, Q⟩ := Z
  intro hx hb hown hts H locs ls hl kk
  exact lv_goto hx hb d ht (kk ls hl)
theorem h_ifnull_r {Z : Zx} {own : String} {cc : ByteArray} {rf rc rs rl k n pc : Nat} {L : List (Option Value)} {st : List Value} {μ : Mem} {off : Int} {x : Nat} (C : Cx Z own cc rf rc rs rl) (d : decode cc pc = .ok (.ifnull off, 3)) (kk : HW Z k n (pc + 3) L st μ) : HW Z k n pc L (.ref x :: st) μ := by
  refine HW.go C ?_ kk
  obtain ⟨p, l, e, R, s, m, args, below, meth, c, G, A, nL, Q⟩ := Z
  intro hx hb hown hts H locs ls hl kk
  exact lv_ifnull hx hb d (kk ls hl)
theorem h_ifnull_n {Z : Zx} {own : String} {cc : ByteArray} {rf rc rs rl k n pc : Nat} {L : List (Option Value)} {st : List Value} {μ : Mem} {off : Int} {tgt : Nat} (C : Cx Z own cc rf rc rs rl) (d : decode cc pc = .ok (.ifnull off, 3)) (ht : (pc : Int) + off = (tgt : Int)) (kk : HW Z k n tgt L st μ) : HW Z k n pc L (.null :: st) μ := by
  refine HW.go C ?_ kk
  obtain ⟨p, l, e, R, s, m, args, below, meth, c, G, A, nL, Q⟩ := Z
  intro hx hb hown hts H locs ls hl kk
  exact lv_ifnullN hx hb d ht (kk ls hl)
theorem h_ifnonnull_r {Z : Zx} {own : String} {cc : ByteArray} {rf rc rs rl k n pc : Nat} {L : List (Option Value)} {st : List Value} {μ : Mem} {off : Int} {tgt x : Nat} (C : Cx Z own cc rf rc rs rl) (d : decode cc pc = .ok (.ifnonnull off, 3)) (ht : (pc : Int) + off = (tgt : Int)) (kk : HW Z k n tgt L st μ) : HW Z k n pc L (.ref x :: st) μ := by
  refine HW.go C ?_ kk
  obtain ⟨p, l, e, R, s, m, args, below, meth, c, G, A, nL, Q⟩ := Z
  intro hx hb hown hts H locs ls hl kk
  exact lv_ifnonnull hx hb d ht (kk ls hl)
theorem h_ifnonnull_n {Z : Zx} {own : String} {cc : ByteArray} {rf rc rs rl k n pc : Nat} {L : List (Option Value)} {st : List Value} {μ : Mem} {off : Int} (C : Cx Z own cc rf rc rs rl) (d : decode cc pc = .ok (.ifnonnull off, 3)) (kk : HW Z k n (pc + 3) L st μ) : HW Z k n pc L (.null :: st) μ := by
  refine HW.go C ?_ kk
  obtain ⟨p, l, e, R, s, m, args, below, meth, c, G, A, nL, Q⟩ := Z
  intro hx hb hown hts H locs ls hl kk
  exact lv_ifnonnullN hx hb d (kk ls hl)
theorem h_tableIn {Z : Zx} {own : String} {cc : ByteArray} {rf rc rs rl k n pc : Nat} {L : List (Option Value)} {st : List Value} {μ : Mem} {dflt lo9 hi9 : Int} {offs : Array Int} {len : Nat} {x : Int32} {off : Int} {tgt : Nat} (C : Cx Z own cc rf rc rs rl) (d : decode cc pc = .ok (.tableswitch dflt lo9 hi9 offs, len)) (h1 : ¬ x.toInt < lo9) (h2 : ¬ hi9 < x.toInt) (ho : offs[(x.toInt - lo9).toNat]? = some off) (ht : (pc : Int) + off = (tgt : Int)) (kk : HW Z k n tgt L st μ) : HW Z k n pc L (.int x :: st) μ := by
  refine HW.go C ?_ kk
  obtain ⟨p, l, e, R, s, m, args, below, meth, c, G, A, nL, Q⟩ := Z
  intro hx hb hown hts H locs ls hl kk
  exact lv_tableIn hx hb d h1 h2 ho ht (kk ls hl)
theorem h_tableOut {Z : Zx} {own : String} {cc : ByteArray} {rf rc rs rl k n pc : Nat} {L : List (Option Value)} {st : List Value} {μ : Mem} {dflt lo9 hi9 : Int} {offs : Array Int} {len : Nat} {x : Int32} {tgt : Nat} (C : Cx Z own cc rf rc rs rl) (d : decode cc pc = .ok (.tableswitch dflt lo9 hi9 offs, len)) (h : x.toInt < lo9 ∨ hi9 < x.toInt) (ht : (pc : Int) + dflt = (tgt : Int)) (kk : HW Z k n tgt L st μ) : HW Z k n pc L (.int x :: st) μ := by
  refine HW.go C ?_ kk
  obtain ⟨p, l, e, R, s, m, args, below, meth, c, G, A, nL, Q⟩ := Z
  intro hx hb hown hts H locs ls hl kk
  exact lv_tableOut hx hb d h ht (kk ls hl)
theorem h_if_eq {Z : Zx} {own : String} {cc : ByteArray} {rf rc rs rl k n pc : Nat} {L : List (Option Value)} {st : List Value} {μ : Mem} {x : Int32} {off : Int} {tgt : Nat} (C : Cx Z own cc rf rc rs rl) (d : decode cc pc = .ok (.ifCond .eq off, 3)) (ht : (pc : Int) + off = (tgt : Int)) (kt : (x = 0) → HW Z k n tgt L st μ) (kf : ¬ (x = 0) → HW Z k n (pc + 3) L st μ) : HW Z k n pc L (.int x :: st) μ := by
  obtain ⟨p, l, e, R, s, m, args, below, meth, c, G, A, nL, Q⟩ := Z
  obtain ⟨⟨hx, hb, hml, hown, hts⟩, _⟩ := C
  intro H locs ls hR hS hl
  exact lv_if_eq hx hb d ht (fun h => kt h H locs ls hR hS hl) (fun h => kf h H locs ls hR hS hl)
theorem h_icmp_eq {Z : Zx} {own : String} {cc : ByteArray} {rf rc rs rl k n pc : Nat} {L : List (Option Value)} {st : List Value} {μ : Mem} {x y : Int32} {off : Int} {tgt : Nat} (C : Cx Z own cc rf rc rs rl) (d : decode cc pc = .ok (.if_icmp .eq off, 3)) (ht : (pc : Int) + off = (tgt : Int)) (kt : (x = y) → HW Z k n tgt L st μ) (kf : ¬ (x = y) → HW Z k n (pc + 3) L st μ) : HW Z k n pc L (.int y :: .int x :: st) μ := by
  obtain ⟨p, l, e, R, s, m, args, below, meth, c, G, A, nL, Q⟩ := Z
  obtain ⟨⟨hx, hb, hml, hown, hts⟩, _⟩ := C
  intro H locs ls hR hS hl
  exact lv_icmp_eq hx hb d ht (fun h => kt h H locs ls hR hS hl) (fun h => kf h H locs ls hR hS hl)
theorem h_if_ne {Z : Zx} {own : String} {cc : ByteArray} {rf rc rs rl k n pc : Nat} {L : List (Option Value)} {st : List Value} {μ : Mem} {x : Int32} {off : Int} {tgt : Nat} (C : Cx Z own cc rf rc rs rl) (d : decode cc pc = .ok (.ifCond .ne off, 3)) (ht : (pc : Int) + off = (tgt : Int)) (kt : ¬ x = 0 → HW Z k n tgt L st μ) (kf : x = 0 → HW Z k n (pc + 3) L st μ) : HW Z k n pc L (.int x :: st) μ := by
  obtain ⟨p, l, e, R, s, m, args, below, meth, c, G, A, nL, Q⟩ := Z
  obtain ⟨⟨hx, hb, hml, hown, hts⟩, _⟩ := C
  intro H locs ls hR hS hl
  exact lv_if_ne hx hb d ht (fun h => kt h H locs ls hR hS hl) (fun h => kf h H locs ls hR hS hl)
theorem h_icmp_ne {Z : Zx} {own : String} {cc : ByteArray} {rf rc rs rl k n pc : Nat} {L : List (Option Value)} {st : List Value} {μ : Mem} {x y : Int32} {off : Int} {tgt : Nat} (C : Cx Z own cc rf rc rs rl) (d : decode cc pc = .ok (.if_icmp .ne off, 3)) (ht : (pc : Int) + off = (tgt : Int)) (kt : ¬ x = y → HW Z k n tgt L st μ) (kf : x = y → HW Z k n (pc + 3) L st μ) : HW Z k n pc L (.int y :: .int x :: st) μ := by
  obtain ⟨p, l, e, R, s, m, args, below, meth, c, G, A, nL, Q⟩ := Z
  obtain ⟨⟨hx, hb, hml, hown, hts⟩, _⟩ := C
  intro H locs ls hR hS hl
  exact lv_icmp_ne hx hb d ht (fun h => kt h H locs ls hR hS hl) (fun h => kf h H locs ls hR hS hl)
theorem h_if_lt {Z : Zx} {own : String} {cc : ByteArray} {rf rc rs rl k n pc : Nat} {L : List (Option Value)} {st : List Value} {μ : Mem} {x : Int32} {off : Int} {tgt : Nat} (C : Cx Z own cc rf rc rs rl) (d : decode cc pc = .ok (.ifCond .lt off, 3)) (ht : (pc : Int) + off = (tgt : Int)) (kt : (x < 0) → HW Z k n tgt L st μ) (kf : ¬ (x < 0) → HW Z k n (pc + 3) L st μ) : HW Z k n pc L (.int x :: st) μ := by
  obtain ⟨p, l, e, R, s, m, args, below, meth, c, G, A, nL, Q⟩ := Z
  obtain ⟨⟨hx, hb, hml, hown, hts⟩, _⟩ := C
  intro H locs ls hR hS hl
  exact lv_if_lt hx hb d ht (fun h => kt h H locs ls hR hS hl) (fun h => kf h H locs ls hR hS hl)
theorem h_icmp_lt {Z : Zx} {own : String} {cc : ByteArray} {rf rc rs rl k n pc : Nat} {L : List (Option Value)} {st : List Value} {μ : Mem} {x y : Int32} {off : Int} {tgt : Nat} (C : Cx Z own cc rf rc rs rl) (d : decode cc pc = .ok (.if_icmp .lt off, 3)) (ht : (pc : Int) + off = (tgt : Int)) (kt : (x < y) → HW Z k n tgt L st μ) (kf : ¬ (x < y) → HW Z k n (pc + 3) L st μ) : HW Z k n pc L (.int y :: .int x :: st) μ := by
  obtain ⟨p, l, e, R, s, m, args, below, meth, c, G, A, nL, Q⟩ := Z
  obtain ⟨⟨hx, hb, hml, hown, hts⟩, _⟩ := C
  intro H locs ls hR hS hl
  exact lv_icmp_lt hx hb d ht (fun h => kt h H locs ls hR hS hl) (fun h => kf h H locs ls hR hS hl)
theorem h_if_ge {Z : Zx} {own : String} {cc : ByteArray} {rf rc rs rl k n pc : Nat} {L : List (Option Value)} {st : List Value} {μ : Mem} {x : Int32} {off : Int} {tgt : Nat} (C : Cx Z own cc rf rc rs rl) (d : decode cc pc = .ok (.ifCond .ge off, 3)) (ht : (pc : Int) + off = (tgt : Int)) (kt : (0 ≤ x) → HW Z k n tgt L st μ) (kf : ¬ (0 ≤ x) → HW Z k n (pc + 3) L st μ) : HW Z k n pc L (.int x :: st) μ := by
  obtain ⟨p, l, e, R, s, m, args, below, meth, c, G, A, nL, Q⟩ := Z
  obtain ⟨⟨hx, hb, hml, hown, hts⟩, _⟩ := C
  intro H locs ls hR hS hl
  exact lv_if_ge hx hb d ht (fun h => kt h H locs ls hR hS hl) (fun h => kf h H locs ls hR hS hl)
theorem h_icmp_ge {Z : Zx} {own : String} {cc : ByteArray} {rf rc rs rl k n pc : Nat} {L : List (Option Value)} {st : List Value} {μ : Mem} {x y : Int32} {off : Int} {tgt : Nat} (C : Cx Z own cc rf rc rs rl) (d : decode cc pc = .ok (.if_icmp .ge off, 3)) (ht : (pc : Int) + off = (tgt : Int)) (kt : (y ≤ x) → HW Z k n tgt L st μ) (kf : ¬ (y ≤ x) → HW Z k n (pc + 3) L st μ) : HW Z k n pc L (.int y :: .int x :: st) μ := by
  obtain ⟨p, l, e, R, s, m, args, below, meth, c, G, A, nL, Q⟩ := Z
  obtain ⟨⟨hx, hb, hml, hown, hts⟩, _⟩ := C
  intro H locs ls hR hS hl
  exact lv_icmp_ge hx hb d ht (fun h => kt h H locs ls hR hS hl) (fun h => kf h H locs ls hR hS hl)
theorem h_if_gt {Z : Zx} {own : String} {cc : ByteArray} {rf rc rs rl k n pc : Nat} {L : List (Option Value)} {st : List Value} {μ : Mem} {x : Int32} {off : Int} {tgt : Nat} (C : Cx Z own cc rf rc rs rl) (d : decode cc pc = .ok (.ifCond .gt off, 3)) (ht : (pc : Int) + off = (tgt : Int)) (kt : (0 < x) → HW Z k n tgt L st μ) (kf : ¬ (0 < x) → HW Z k n (pc + 3) L st μ) : HW Z k n pc L (.int x :: st) μ := by
  obtain ⟨p, l, e, R, s, m, args, below, meth, c, G, A, nL, Q⟩ := Z
  obtain ⟨⟨hx, hb, hml, hown, hts⟩, _⟩ := C
  intro H locs ls hR hS hl
  exact lv_if_gt hx hb d ht (fun h => kt h H locs ls hR hS hl) (fun h => kf h H locs ls hR hS hl)
theorem h_icmp_gt {Z : Zx} {own : String} {cc : ByteArray} {rf rc rs rl k n pc : Nat} {L : List (Option Value)} {st : List Value} {μ : Mem} {x y : Int32} {off : Int} {tgt : Nat} (C : Cx Z own cc rf rc rs rl) (d : decode cc pc = .ok (.if_icmp .gt off, 3)) (ht : (pc : Int) + off = (tgt : Int)) (kt : (y < x) → HW Z k n tgt L st μ) (kf : ¬ (y < x) → HW Z k n (pc + 3) L st μ) : HW Z k n pc L (.int y :: .int x :: st) μ := by
  obtain ⟨p, l, e, R, s, m, args, below, meth, c, G, A, nL, Q⟩ := Z
  obtain ⟨⟨hx, hb, hml, hown, hts⟩, _⟩ := C
  intro H locs ls hR hS hl
  exact lv_icmp_gt hx hb d ht (fun h => kt h H locs ls hR hS hl) (fun h => kf h H locs ls hR hS hl)
theorem h_if_le {Z : Zx} {own : String} {cc : ByteArray} {rf rc rs rl k n pc : Nat} {L : List (Option Value)} {st : List Value} {μ : Mem} {x : Int32} {off : Int} {tgt : Nat} (C : Cx Z own cc rf rc rs rl) (d : decode cc pc = .ok (.ifCond .le off, 3)) (ht : (pc : Int) + off = (tgt : Int)) (kt : (x ≤ 0) → HW Z k n tgt L st μ) (kf : ¬ (x ≤ 0) → HW Z k n (pc + 3) L st μ) : HW Z k n pc L (.int x :: st) μ := by
  obtain ⟨p, l, e, R, s, m, args, below, meth, c, G, A, nL, Q⟩ := Z
  obtain ⟨⟨hx, hb, hml, hown, hts⟩, _⟩ := C
  intro H locs ls hR hS hl
  exact lv_if_le hx hb d ht (fun h => kt h H locs ls hR hS hl) (fun h => kf h H locs ls hR hS hl)
theorem h_icmp_le {Z : Zx} {own : String} {cc : ByteArray} {rf rc rs rl k n pc : Nat} {L : List (Option Value)} {st : List Value} {μ : Mem} {x y : Int32} {off : Int} {tgt : Nat} (C : Cx Z own cc rf rc rs rl) (d : decode cc pc = .ok (.if_icmp .le off, 3)) (ht : (pc : Int) + off = (tgt : Int)) (kt : (x ≤ y) → HW Z k n tgt L st μ) (kf : ¬ (x ≤ y) → HW Z k n (pc + 3) L st μ) : HW Z k n pc L (.int y :: .int x :: st) μ := by
  obtain ⟨p, l, e, R, s, m, args, below, meth, c, G, A, nL, Q⟩ := Z
  obtain ⟨⟨hx, hb, hml, hown, hts⟩, _⟩ := C
  intro H locs ls hR hS hl
  exact lv_icmp_le hx hb d ht (fun h => kt h H locs ls hR hS hl) (fun h => kf h H locs ls hR hS hl)
theorem h_acmp_eq {Z : Zx} {own : String} {cc : ByteArray} {rf rc rs rl k n pc : Nat} {L : List (Option Value)} {st : List Value} {μ : Mem} {rx ry : Option Nat} {off : Int} {tgt : Nat} (C : Cx Z own cc rf rc rs rl) (d : decode cc pc = .ok (.if_acmp .eq off, 3)) (ht : (pc : Int) + off = (tgt : Int)) (kt : rx = ry → HW Z k n tgt L st μ) (kf : ¬ rx = ry → HW Z k n (pc + 3) L st μ) : HW Z k n pc L (va_rf ry :: va_rf rx :: st) μ := by
  obtain ⟨p, l, e, R, s, m, args, below, meth, c, G, A, nL, Q⟩ := Z
  obtain ⟨⟨hx, hb, hml, hown, hts⟩, _⟩ := C
  intro H locs ls hR hS hl
  exact lv_acmp_eq hx hb d ht (fun h => kt h H locs ls hR hS hl) (fun h => kf h H locs ls hR hS hl)
theorem h_acmp_ne {Z : Zx} {own : String} {cc : ByteArray} {rf rc rs rl k n pc : Nat} {L : List (Option Value)} {st : List Value} {μ : Mem} {rx ry : Option Nat} {off : Int} {tgt : Nat} (C : Cx Z own cc rf rc rs rl) (d : decode cc pc = .ok (.if_acmp .ne off, 3)) (ht : (pc : Int) + off = (tgt : Int)) (kt : ¬ rx = ry → HW Z k n tgt L st μ) (kf : rx = ry → HW Z k n (pc + 3) L st μ) : HW Z k n pc L (va_rf ry :: va_rf rx :: st) μ := by
  obtain ⟨p, l, e, R, s, m, args, below, meth, c, G, A, nL, Q⟩ := Z
  obtain ⟨⟨hx, hb, hml, hown, hts⟩, _⟩ := C
  intro H locs ls hR hS hl
  exact lv_acmp_ne hx hb d ht (fun h => kt h H locs ls hR hS hl) (fun h => kf h H locs ls hR hS hl)
theorem h_iload_g {Z : Zx} {own : String} {cc : ByteArray} {rf rc rs rl k n pc : Nat} {L : List (Option Value)} {st : List Value} {μ : Mem} {j : Fin 4} {i : Nat} {x : Int32} (C : Cx Z own cc rf rc rs rl) (d : decode cc pc = .ok (.iload_n j, 1)) (hj : (j : Nat) = i) (hL : L[i]? = some (some (.int x))) (kk : HW Z k n (pc + 1) L (.int x :: st) μ) : HW Z k n pc L st μ := by
  refine HW.go C ?_ kk
  obtain ⟨p, l, e, R, s, m, args, below, meth, c, G, A, nL, Q⟩ := Z
  intro hx hb hown hts H locs ls hl kk
  exact lv_iload_n hx hb d hj (hl.2.2.1 i _ hL) (kk ls hl)
theorem h_iload_w {Z : Zx} {own : String} {cc : ByteArray} {rf rc rs rl k n pc : Nat} {L : List (Option Value)} {st : List Value} {μ : Mem} {i : Nat} {x : Int32} (C : Cx Z own cc rf rc rs rl) (d : decode cc pc = .ok (.iload i, 2)) (hL : L[i]? = some (some (.int x))) (kk : HW Z k n (pc + 2) L (.int x :: st) μ) : HW Z k n pc L st μ := by
  refine HW.go C ?_ kk
  obtain ⟨p, l, e, R, s, m, args, below, meth, c, G, A, nL, Q⟩ := Z
  intro hx hb hown hts H locs ls hl kk
  exact lv_iload hx hb d (hl.2.2.1 i _ hL) (kk ls hl)
theorem h_istore_g {Z : Zx} {own : String} {cc : ByteArray} {rf rc rs rl k n pc : Nat} {L : List (Option Value)} {st : List Value} {μ : Mem} {j : Fin 4} {i : Nat} {x : Int32} (C : Cx Z own cc rf rc rs rl) (d : decode cc pc = .ok (.istore_n j, 1)) (hj : (j : Nat) = i) (hn : i < L.length) (hc : ∀ (j : Nat) (w : Value), j + 1 = i → L[j]? = some (some w) → w.category = 1) (kk : HW Z k n (pc + 1) (L.set i (some (.int x))) st μ) : HW Z k n pc L (.int x :: st) μ := by
  refine HW.go C ?_ kk
  obtain ⟨p, l, e, R, s, m, args, below, meth, c, G, A, nL, Q⟩ := Z
  intro hx hb hown hts H locs ls hl kk
  exact lv_istore_n hx hb d hj hl.to (Nat.lt_of_lt_of_le hn hl.2.2.2) rfl (fun ls2 h2 => kk ls2 (lhas.st1 h2 hl.2.2.2 hc))
theorem h_istore_w {Z : Zx} {own : String} {cc : ByteArray} {rf rc rs rl k n pc : Nat} {L : List (Option Value)} {st : List Value} {μ : Mem} {j : Fin 4} {i : Nat} {x : Int32} (C : Cx Z own cc rf rc rs rl) (d : decode cc pc = .ok (.istore i, 2)) (hn : i < L.length) (hc : ∀ (j : Nat) (w : Value), j + 1 = i → L[j]? = some (some w) → w.category = 1) (kk : HW Z k n (pc + 2) (L.set i (some (.int x))) st μ) : HW Z k n pc L (.int x :: st) μ := by
  refine HW.go C ?_ kk
  obtain ⟨p, l, e, R, s, m, args, below, meth, c, G, A, nL, Q⟩ := Z
  intro hx hb hown hts H locs ls hl kk
  exact lv_istore hx hb d hl.to (Nat.lt_of_lt_of_le hn hl.2.2.2) rfl (fun ls2 h2 => kk ls2 (lhas.st1 h2 hl.2.2.2 hc))
theorem h_lload_g {Z : Zx} {own : String} {cc : ByteArray} {rf rc rs rl k n pc : Nat} {L : List (Option Value)} {st : List Value} {μ : Mem} {j : Fin 4} {i : Nat} {x : Int64} (C : Cx Z own cc rf rc rs rl) (d : decode cc pc = .ok (.lload_n j, 1)) (hj : (j : Nat) = i) (hL : L[i]? = some (some (.long x))) (kk : HW Z k n (pc + 1) L (.long x :: st) μ) : HW Z k n pc L st μ := by
  refine HW.go C ?_ kk
  obtain ⟨p, l, e, R, s, m, args, below, meth, c, G, A, nL, Q⟩ := Z
  intro hx hb hown hts H locs ls hl kk
  exact lv_lload_n hx hb d hj (hl.2.2.1 i _ hL) (kk ls hl)
theorem h_lload_w {Z : Zx} {own : String} {cc : ByteArray} {rf rc rs rl k n pc : Nat} {L : List (Option Value)} {st : List Value} {μ : Mem} {i : Nat} {x : Int64} (C : Cx Z own cc rf rc rs rl) (d : decode cc pc = .ok (.lload i, 2)) (hL : L[i]? = some (some (.long x))) (kk : HW Z k n (pc + 2) L (.long x :: st) μ) : HW Z k n pc L st μ := by
  refine HW.go C ?_ kk
  obtain ⟨p, l, e, R, s, m, args, below, meth, c, G, A, nL, Q⟩ := Z
  intro hx hb hown hts H locs ls hl kk
  exact lv_lload hx hb d (hl.2.2.1 i _ hL) (kk ls hl)
theorem h_lstore_g {Z : Zx} {own : String} {cc : ByteArray} {rf rc rs rl k n pc : Nat} {L : List (Option Value)} {st : List Value} {μ : Mem} {j : Fin 4} {i : Nat} {x : Int64} (C : Cx Z own cc rf rc rs rl) (d : decode cc pc = .ok (.lstore_n j, 1)) (hj : (j : Nat) = i) (hn : i + 1 < L.length) (hc : ∀ (j : Nat) (w : Value), j + 1 = i → L[j]? = some (some w) → w.category = 1) (kk : HW Z k n (pc + 1) ((L.set i (some (.long x))).set (i + 1) none) st μ) : HW Z k n pc L (.long x :: st) μ := by
  refine HW.go C ?_ kk
  obtain ⟨p, l, e, R, s, m, args, below, meth, c, G, A, nL, Q⟩ := Z
  intro hx hb hown hts H locs ls hl kk
  exact lv_lstore_n hx hb d hj hl.to (Nat.lt_of_lt_of_le hn hl.2.2.2) rfl (fun ls2 h2 => kk ls2 (lhas.st2 h2 hl.2.2.2 hc))
theorem h_lstore_w {Z : Zx} {own : String} {cc : ByteArray} {rf rc rs rl k n pc : Nat} {L : List (Option Value)} {st : List Value} {μ : Mem} {j : Fin 4} {i : Nat} {x : Int64} (C : Cx Z own cc rf rc rs rl) (d : decode cc pc = .ok (.lstore i, 2)) (hn : i + 1 < L.length) (hc : ∀ (j : Nat) (w : Value), j + 1 = i → L[j]? = some (some w) → w.category = 1) (kk : HW Z k n (pc + 2) ((L.set i (some (.long x))).set (i + 1) none) st μ) : HW Z k n pc L (.long x :: st) μ := by
  refine HW.go C ?_ kk
  obtain ⟨p, l, e, R, s, m, args, below, meth, c, G, A, nL, Q⟩ := Z
  intro hx hb hown hts H locs ls hl kk
  exact lv_lstore hx hb d hl.to (Nat.lt_of_lt_of_le hn hl.2.2.2) rfl (fun ls2 h2 => kk ls2 (lhas.st2 h2 hl.2.2.2 hc))
theorem h_dload_g {Z : Zx} {own : String} {cc : ByteArray} {rf rc rs rl k n pc : Nat} {L : List (Option Value)} {st : List Value} {μ : Mem} {j : Fin 4} {i : Nat} {x : UInt64} (C : Cx Z own cc rf rc rs rl) (d : decode cc pc = .ok (.dload_n j, 1)) (hj : (j : Nat) = i) (hL : L[i]? = some (some (.double x))) (kk : HW Z k n (pc + 1) L (.double x :: st) μ) : HW Z k n pc L st μ := by
  refine HW.go C ?_ kk
  obtain ⟨p, l, e, R, s, m, args, below, meth, c, G, A, nL, Q⟩ := Z
  intro hx hb hown hts H locs ls hl kk
  exact lv_dload_n hx hb d hj (hl.2.2.1 i _ hL) (kk ls hl)
theorem h_dload_w {Z : Zx} {own : String} {cc : ByteArray} {rf rc rs rl k n pc : Nat} {L : List (Option Value)} {st : List Value} {μ : Mem} {i : Nat} {x : UInt64} (C : Cx Z own cc rf rc rs rl) (d : decode cc pc = .ok (.dload i, 2)) (hL : L[i]? = some (some (.double x))) (kk : HW Z k n (pc + 2) L (.double x :: st) μ) : HW Z k n pc L st μ := by
  refine HW.go C ?_ kk
  obtain ⟨p, l, e, R, s, m, args, below, meth, c, G, A, nL, Q⟩ := Z
  intro hx hb hown hts H locs ls hl kk
  exact lv_dload hx hb d (hl.2.2.1 i _ hL) (kk ls hl)
theorem h_dstore_g {Z : Zx} {own : String} {cc : ByteArray} {rf rc rs rl k n pc : Nat} {L : List (Option Value)} {st : List Value} {μ : Mem} {j : Fin 4} {i : Nat} {x : UInt64} (C : Cx Z own cc rf rc rs rl) (d : decode cc pc = .ok (.dstore_n j, 1)) (hj : (j : Nat) = i) (hn : i + 1 < L.length) (hc : ∀ (j : Nat) (w : Value), j + 1 = i → L[j]? = some (some w) → w.category = 1) (kk : HW Z k n (pc + 1) ((L.set i (some (.double x))).set (i + 1) none) st μ) : HW Z k n pc L (.double x :: st) μ := by
  refine HW.go C ?_ kk
  obtain ⟨p, l, e, R, s, m, args, below, meth, c, G, A, nL, Q⟩ := Z
  intro hx hb hown hts H locs ls hl kk
  exact lv_dstore_n hx hb d hj hl.to (Nat.lt_of_lt_of_le hn hl.2.2.2) rfl (fun ls2 h2 => kk ls2 (lhas.st2 h2 hl.2.2.2 hc))
theorem h_dstore_w {Z : Zx} {own : String} {cc : ByteArray} {rf rc rs rl k n pc : Nat} {L : List (Option Value)} {st : List Value} {μ : Mem} {j : Fin 4} {i : Nat} {x : UInt64} (C : Cx Z own cc rf rc rs rl) (d : decode cc pc = .ok (.dstore i, 2)) (hn : i + 1 < L.length) (hc : ∀ (j : Nat) (w : Value), j + 1 = i → L[j]? = some (some w) → w.category = 1) (kk : HW Z k n (pc + 2) ((L.set i (some (.double x))).set (i + 1) none) st μ) : HW Z k n pc L (.double x :: st) μ := by
  refine HW.go C ?_ kk
  obtain ⟨p, l, e, R, s, m, args, below, meth, c, G, A, nL, Q⟩ := Z
  intro hx hb hown hts H locs ls hl kk
  exact lv_dstore hx hb d hl.to (Nat.lt_of_lt_of_le hn hl.2.2.2) rfl (fun ls2 h2 => kk ls2 (lhas.st2 h2 hl.2.2.2 hc))
theorem h_aload_g {Z : Zx} {own : String} {cc : ByteArray} {rf rc rs rl k n pc : Nat} {L : List (Option Value)} {st : List Value} {μ : Mem} {j : Fin 4} {i : Nat} {r : Option Nat} (C : Cx Z own cc rf rc rs rl) (d : decode cc pc = .ok (.aload_n j, 1)) (hj : (j : Nat) = i) (hL : L[i]? = some (some (va_rf r))) (kk : HW Z k n (pc + 1) L (va_rf r :: st) μ) : HW Z k n pc L st μ := by
  refine HW.go C ?_ kk
  obtain ⟨p, l, e, R, s, m, args, below, meth, c, G, A, nL, Q⟩ := Z
  intro hx hb hown hts H locs ls hl kk
  have hq := hl.2.2.1 i _ hL
  cases r with
  | none => exact lv_aload_nN hx hb d hj hq (kk ls hl)
  | some y => exact lv_aload_n hx hb d hj hq (kk ls hl)
theorem h_astore_g {Z : Zx} {own : String} {cc : ByteArray} {rf rc rs rl k n pc : Nat} {L : List (Option Value)} {st : List Value} {μ : Mem} {j : Fin 4} {i : Nat} {r : Option Nat} (C : Cx Z own cc rf rc rs rl) (d : decode cc pc = .ok (.astore_n j, 1)) (hj : (j : Nat) = i) (hn : i < L.length) (hc : ∀ (j : Nat) (w : Value), j + 1 = i → L[j]? = some (some w) → w.category = 1) (kk : HW Z k n (pc + 1) (L.set i (some (va_rf r))) st μ) : HW Z k n pc L (va_rf r :: st) μ := by
  refine HW.go C ?_ kk
  obtain ⟨p, l, e, R, s, m, args, below, meth, c, G, A, nL, Q⟩ := Z
  intro hx hb hown hts H locs ls hl kk
  cases r with
  | none => exact lv_astore_nN hx hb d hj hl.to (Nat.lt_of_lt_of_le hn hl.2.2.2) rfl (fun ls2 h2 => kk ls2 (lhas.st1 h2 hl.2.2.2 hc))
  | some y => exact lv_astore_n hx hb d hj hl.to (Nat.lt_of_lt_of_le hn hl.2.2.2) rfl (fun ls2 h2 => kk ls2 (lhas.st1 h2 hl.2.2.2 hc))
theorem h_aload_w {Z : Zx} {own : String} {cc : ByteArray} {rf rc rs rl k n pc : Nat} {L : List (Option Value)} {st : List Value} {μ : Mem} {j : Fin 4} {i : Nat} {r : Option Nat} (C : Cx Z own cc rf rc rs rl) (d : decode cc pc = .ok (.aload i, 2)) (hL : L[i]? = some (some (va_rf r))) (kk : HW Z k n (pc + 2) L (va_rf r :: st) μ) : HW Z k n pc L st μ := by
  refine HW.go C ?_ kk
  obtain ⟨p, l, e, R, s, m, args, below, meth, c, G, A, nL, Q⟩ := Z
  intro hx hb hown hts H locs ls hl kk
  have hq := hl.2.2.1 i _ hL
  cases r with
  | none => exact lv_aloadN hx hb d hq (kk ls hl)
  | some y => exact lv_aload hx hb d hq (kk ls hl)
theorem h_astore_w {Z : Zx} {own : String} {cc : ByteArray} {rf rc rs rl k n pc : Nat} {L : List (Option Value)} {st : List Value} {μ : Mem} {j : Fin 4} {i : Nat} {r : Option Nat} (C : Cx Z own cc rf rc rs rl) (d : decode cc pc = .ok (.astore i, 2)) (hn : i < L.length) (hc : ∀ (j : Nat) (w : Value), j + 1 = i → L[j]? = some (some w) → w.category = 1) (kk : HW Z k n (pc + 2) (L.set i (some (va_rf r))) st μ) : HW Z k n pc L (va_rf r :: st) μ := by
  refine HW.go C ?_ kk
  obtain ⟨p, l, e, R, s, m, args, below, meth, c, G, A, nL, Q⟩ := Z
  intro hx hb hown hts H locs ls hl kk
  cases r with
  | none => exact lv_astoreN hx hb d hl.to (Nat.lt_of_lt_of_le hn hl.2.2.2) rfl (fun ls2 h2 => kk ls2 (lhas.st1 h2 hl.2.2.2 hc))
  | some y => exact lv_astore hx hb d hl.to (Nat.lt_of_lt_of_le hn hl.2.2.2) rfl (fun ls2 h2 => kk ls2 (lhas.st1 h2 hl.2.2.2 hc))
theorem h_iinc {Z : Zx} {own : String} {cc : ByteArray} {rf rc rs rl k n pc : Nat} {L : List (Option Value)} {st : List Value} {μ : Mem} {i : Nat} {q : Int} {x v : Int32} (C : Cx Z own cc rf rc rs rl) (d : decode cc pc = .ok (.iinc i q, 3)) (hL : L[i]? = some (some (.int x))) (hv : x + Int32.ofInt q = v) (hn : i < L.length) (hc : ∀ (j : Nat) (w : Value), j + 1 = i → L[j]? = some (some w) → w.category = 1) (kk : HW Z k n (pc + 3) (L.set i (some (.int v))) st μ) : HW Z k n pc L st μ := by
  refine HW.go C ?_ kk
  obtain ⟨p, l, e, R, s, m, args, below, meth, c, G, A, nL, Q⟩ := Z
  intro hx hb hown hts H locs ls hl kk
  obtain ⟨k9, hk9⟩ := List.getElem?_of_mem (lo_in.mpr hL)
  exact lv_iinc hx hb d hl.to hk9 hv (Nat.lt_of_lt_of_le hn hl.2.2.2) rfl (fun ls2 h2 => kk ls2 (lhas.st1 h2 hl.2.2.2 hc))
theorem h_drop {Z : Zx} {k n pc : Nat} {L L2 : List (Option Value)} {st : List Value} {μ : Mem} (hs : ∀ (i : Nat) (v : Value), L2[i]? = some (some v) → L[i]? = some (some v)) (hn : L2.length ≤ L.length) (kk : HW Z k n pc L2 st μ) : HW Z k n pc L st μ := by
  obtain ⟨p, l, e, R, s, m, args, below, meth, c, G, A, nL, Q⟩ := Z
  intro H locs ls hR hS hl
  exact kk H locs ls hR hS (hl.drop hs hn)
theorem h_widen {Z : Zx} {k n k2 n2 pc : Nat} {L : List (Option Value)} {st : List Value} {μ : Mem} (h1 : k ≤ k2) (h2 : n ≤ n2) (kk : HW Z k2 n2 pc L st μ) : HW Z k n pc L st μ := by
  obtain ⟨p, l, e, R, s, m, args, below, meth, c, G, A, nL, Q⟩ := Z
  intro H locs ls hR hS hl
  exact W.widen h1 h2 (kk H locs ls hR hS hl)
def rfv (v : Value) : Prop := v = .null ∨ ∃ y, v = .ref y
theorem rfv_r {y : Nat} : rfv (.ref y) := Or.inr ⟨y, rfl⟩
theorem rfv_n : rfv .null := Or.inl rfl
theorem rfv_o {r : Option Nat} : rfv (va_rf r) := by cases r with | none => exact Or.inl rfl | some y => exact Or.inr ⟨y, rfl⟩
theorem rfv.to {v : Value} (h : rfv v) : ∃ r, v = va_rf r := by rcases h with rfl | ⟨y, rfl⟩; exact ⟨none, rfl⟩; exact ⟨some y, rfl⟩
def ct (o : Option Value) : Prop := ∀ w, o = some w → w.category = 1
theorem ctp {L : List (Option Value)} {i : Nat} {o : Option Value} (hL : L[i]? = some o) (hc : ct o) : ∀ (j : Nat) (w : Value), j + 1 = i + 1 → L[j]? = some (some w) → w.category = 1 := fun j w h h2 => by
  have e : j = i := by omega
  subst e
  exact hc w (Option.some.inj (hL.symm.trans h2))
theorem ct_n : ct none := fun w h => by cases h
theorem ct_i {x : Int32} : ct (some (.int x)) := fun w h => by cases h; rfl
theorem ct_r {y : Nat} : ct (some (.ref y)) := fun w h => by cases h; rfl
theorem ct_u : ct (some .null) := fun w h => by cases h; rfl
theorem ct_o {r : Option Nat} : ct (some (va_rf r)) := fun w h => by cases h; cases r <;> rfl
theorem h_al_g {Z : Zx} {own : String} {cc : ByteArray} {rf rc rs rl k n pc : Nat} {L : List (Option Value)} {st : List Value} {μ : Mem} {j : Fin 4} {i : Nat} {v : Value} (C : Cx Z own cc rf rc rs rl) (d : decode cc pc = .ok (.aload_n j, 1)) (hj : (j : Nat) = i) (hL : L[i]? = some (some v)) (hr : rfv v) (kk : HW Z k n (pc + 1) L (v :: st) μ) : HW Z k n pc L st μ := by
  obtain ⟨r, rfl⟩ := hr.to
  exact h_aload_g C d hj hL kk
theorem h_al_w {Z : Zx} {own : String} {cc : ByteArray} {rf rc rs rl k n pc : Nat} {L : List (Option Value)} {st : List Value} {μ : Mem} {j : Fin 4} {i : Nat} {v : Value} (C : Cx Z own cc rf rc rs rl) (d : decode cc pc = .ok (.aload i, 2)) (hL : L[i]? = some (some v)) (hr : rfv v) (kk : HW Z k n (pc + 2) L (v :: st) μ) : HW Z k n pc L st μ := by
  obtain ⟨r, rfl⟩ := hr.to
  exact h_aload_w (j := 0) C d hL kk
theorem h_ist_0 {Z : Zx} {own : String} {cc : ByteArray} {rf rc rs rl k n pc : Nat} {st : List Value} {μ : Mem} {a0 : Option Value} {r : List (Option Value)} {x : Int32} (C : Cx Z own cc rf rc rs rl) (d : decode cc pc = .ok (.istore_n 0, 1)) (kk : HW Z k n (pc + 1) (some (.int x) :: r) st μ) : HW Z k n pc (a0 :: r) (.int x :: st) μ := by
  exact h_istore_g (i := 0) C d rfl (by simp) (fun j w h _ => absurd h (Nat.succ_ne_zero _)) kk
theorem h_ast_0 {Z : Zx} {own : String} {cc : ByteArray} {rf rc rs rl k n pc : Nat} {st : List Value} {μ : Mem} {a0 : Option Value} {r : List (Option Value)} {v : Value} (C : Cx Z own cc rf rc rs rl) (d : decode cc pc = .ok (.astore_n 0, 1)) (hr : rfv v) (kk : HW Z k n (pc + 1) (some (v) :: r) st μ) : HW Z k n pc (a0 :: r) (v :: st) μ := by
  obtain ⟨r9, rfl⟩ := hr.to
  exact h_astore_g (i := 0) C d rfl (by simp) (fun j w h _ => absurd h (Nat.succ_ne_zero _)) kk
theorem h_iinc_0 {Z : Zx} {own : String} {cc : ByteArray} {rf rc rs rl k n pc : Nat} {st : List Value} {μ : Mem} {a_ : Option Value} {r : List (Option Value)} {x q : Int32} {z : Int} (C : Cx Z own cc rf rc rs rl) (d : decode cc pc = .ok (.iinc 0 z, 3)) (hq : Int32.ofInt z = q) (kk : HW Z k n (pc + 3) (some (.int (x + q)) :: r) st μ) : HW Z k n pc (some (.int x) :: r) st μ := by
  exact h_iinc (i := 0) C d rfl (by rw [hq]) (by simp) (fun j w h _ => absurd h (Nat.succ_ne_zero _)) kk
theorem h_lst_0 {Z : Zx} {own : String} {cc : ByteArray} {rf rc rs rl k n pc : Nat} {st : List Value} {μ : Mem} {a0 a1 : Option Value} {r : List (Option Value)} {x : Int64} (C : Cx Z own cc rf rc rs rl) (d : decode cc pc = .ok (.lstore_n 0, 1)) (kk : HW Z k n (pc + 1) (some (.long x) :: none :: r) st μ) : HW Z k n pc (a0 :: a1 :: r) (.long x :: st) μ := by
  exact h_lstore_g (i := 0) C d rfl (by simp) (fun j w h _ => absurd h (Nat.succ_ne_zero _)) kk
theorem h_dst_0 {Z : Zx} {own : String} {cc : ByteArray} {rf rc rs rl k n pc : Nat} {st : List Value} {μ : Mem} {a0 a1 : Option Value} {r : List (Option Value)} {x : UInt64} (C : Cx Z own cc rf rc rs rl) (d : decode cc pc = .ok (.dstore_n 0, 1)) (kk : HW Z k n (pc + 1) (some (.double x) :: none :: r) st μ) : HW Z k n pc (a0 :: a1 :: r) (.double x :: st) μ := by
  exact h_dstore_g (i := 0) C d rfl (by simp) (fun j w h _ => absurd h (Nat.succ_ne_zero _)) kk
theorem h_ist_1 {Z : Zx} {own : String} {cc : ByteArray} {rf rc rs rl k n pc : Nat} {st : List Value} {μ : Mem} {a0 a1 : Option Value} {r : List (Option Value)} {x : Int32} (C : Cx Z own cc rf rc rs rl) (d : decode cc pc = .ok (.istore_n 1, 1)) (hc : ct a0) (kk : HW Z k n (pc + 1) (a0 :: some (.int x) :: r) st μ) : HW Z k n pc (a0 :: a1 :: r) (.int x :: st) μ := by
  exact h_istore_g (i := 1) C d rfl (by simp) (ctp rfl hc) kk
theorem h_ast_1 {Z : Zx} {own : String} {cc : ByteArray} {rf rc rs rl k n pc : Nat} {st : List Value} {μ : Mem} {a0 a1 : Option Value} {r : List (Option Value)} {v : Value} (C : Cx Z own cc rf rc rs rl) (d : decode cc pc = .ok (.astore_n 1, 1)) (hc : ct a0) (hr : rfv v) (kk : HW Z k n (pc + 1) (a0 :: some (v) :: r) st μ) : HW Z k n pc (a0 :: a1 :: r) (v :: st) μ := by
  obtain ⟨r9, rfl⟩ := hr.to
  exact h_astore_g (i := 1) C d rfl (by simp) (ctp rfl hc) kk
theorem h_iinc_1 {Z : Zx} {own : String} {cc : ByteArray} {rf rc rs rl k n pc : Nat} {st : List Value} {μ : Mem} {a0 : Option Value} {r : List (Option Value)} {x q : Int32} {z : Int} (C : Cx Z own cc rf rc rs rl) (d : decode cc pc = .ok (.iinc 1 z, 3)) (hq : Int32.ofInt z = q) (hc : ct a0) (kk : HW Z k n (pc + 3) (a0 :: some (.int (x + q)) :: r) st μ) : HW Z k n pc (a0 :: some (.int x) :: r) st μ := by
  exact h_iinc (i := 1) C d rfl (by rw [hq]) (by simp) (ctp rfl hc) kk
theorem h_lst_1 {Z : Zx} {own : String} {cc : ByteArray} {rf rc rs rl k n pc : Nat} {st : List Value} {μ : Mem} {a0 a1 a2 : Option Value} {r : List (Option Value)} {x : Int64} (C : Cx Z own cc rf rc rs rl) (d : decode cc pc = .ok (.lstore_n 1, 1)) (hc : ct a0) (kk : HW Z k n (pc + 1) (a0 :: some (.long x) :: none :: r) st μ) : HW Z k n pc (a0 :: a1 :: a2 :: r) (.long x :: st) μ := by
  exact h_lstore_g (i := 1) C d rfl (by simp) (ctp rfl hc) kk
theorem h_dst_1 {Z : Zx} {own : String} {cc : ByteArray} {rf rc rs rl k n pc : Nat} {st : List Value} {μ : Mem} {a0 a1 a2 : Option Value} {r : List (Option Value)} {x : UInt64} (C : Cx Z own cc rf rc rs rl) (d : decode cc pc = .ok (.dstore_n 1, 1)) (hc : ct a0) (kk : HW Z k n (pc + 1) (a0 :: some (.double x) :: none :: r) st μ) : HW Z k n pc (a0 :: a1 :: a2 :: r) (.double x :: st) μ := by
  exact h_dstore_g (i := 1) C d rfl (by simp) (ctp rfl hc) kk
theorem h_ist_2 {Z : Zx} {own : String} {cc : ByteArray} {rf rc rs rl k n pc : Nat} {st : List Value} {μ : Mem} {a0 a1 a2 : Option Value} {r : List (Option Value)} {x : Int32} (C : Cx Z own cc rf rc rs rl) (d : decode cc pc = .ok (.istore_n 2, 1)) (hc : ct a1) (kk : HW Z k n (pc + 1) (a0 :: a1 :: some (.int x) :: r) st μ) : HW Z k n pc (a0 :: a1 :: a2 :: r) (.int x :: st) μ := by
  exact h_istore_g (i := 2) C d rfl (by simp) (ctp rfl hc) kk
theorem h_ast_2 {Z : Zx} {own : String} {cc : ByteArray} {rf rc rs rl k n pc : Nat} {st : List Value} {μ : Mem} {a0 a1 a2 : Option Value} {r : List (Option Value)} {v : Value} (C : Cx Z own cc rf rc rs rl) (d : decode cc pc = .ok (.astore_n 2, 1)) (hc : ct a1) (hr : rfv v) (kk : HW Z k n (pc + 1) (a0 :: a1 :: some (v) :: r) st μ) : HW Z k n pc (a0 :: a1 :: a2 :: r) (v :: st) μ := by
  obtain ⟨r9, rfl⟩ := hr.to
  exact h_astore_g (i := 2) C d rfl (by simp) (ctp rfl hc) kk
theorem h_iinc_2 {Z : Zx} {own : String} {cc : ByteArray} {rf rc rs rl k n pc : Nat} {st : List Value} {μ : Mem} {a0 a1 : Option Value} {r : List (Option Value)} {x q : Int32} {z : Int} (C : Cx Z own cc rf rc rs rl) (d : decode cc pc = .ok (.iinc 2 z, 3)) (hq : Int32.ofInt z = q) (hc : ct a1) (kk : HW Z k n (pc + 3) (a0 :: a1 :: some (.int (x + q)) :: r) st μ) : HW Z k n pc (a0 :: a1 :: some (.int x) :: r) st μ := by
  exact h_iinc (i := 2) C d rfl (by rw [hq]) (by simp) (ctp rfl hc) kk
theorem h_lst_2 {Z : Zx} {own : String} {cc : ByteArray} {rf rc rs rl k n pc : Nat} {st : List Value} {μ : Mem} {a0 a1 a2 a3 : Option Value} {r : List (Option Value)} {x : Int64} (C : Cx Z own cc rf rc rs rl) (d : decode cc pc = .ok (.lstore_n 2, 1)) (hc : ct a1) (kk : HW Z k n (pc + 1) (a0 :: a1 :: some (.long x) :: none :: r) st μ) : HW Z k n pc (a0 :: a1 :: a2 :: a3 :: r) (.long x :: st) μ := by
  exact h_lstore_g (i := 2) C d rfl (by simp) (ctp rfl hc) kk
theorem h_dst_2 {Z : Zx} {own : String} {cc : ByteArray} {rf rc rs rl k n pc : Nat} {st : List Value} {μ : Mem} {a0 a1 a2 a3 : Option Value} {r : List (Option Value)} {x : UInt64} (C : Cx Z own cc rf rc rs rl) (d : decode cc pc = .ok (.dstore_n 2, 1)) (hc : ct a1) (kk : HW Z k n (pc + 1) (a0 :: a1 :: some (.double x) :: none :: r) st μ) : HW Z k n pc (a0 :: a1 :: a2 :: a3 :: r) (.double x :: st) μ := by
  exact h_dstore_g (i := 2) C d rfl (by simp) (ctp rfl hc) kk
theorem h_ist_3 {Z : Zx} {own : String} {cc : ByteArray} {rf rc rs rl k n pc : Nat} {st : List Value} {μ : Mem} {a0 a1 a2 a3 : Option Value} {r : List (Option Value)} {x : Int32} (C : Cx Z own cc rf rc rs rl) (d : decode cc pc = .ok (.istore_n 3, 1)) (hc : ct a2) (kk : HW Z k n (pc + 1) (a0 :: a1 :: a2 :: some (.int x) :: r) st μ) : HW Z k n pc (a0 :: a1 :: a2 :: a3 :: r) (.int x :: st) μ := by
  exact h_istore_g (i := 3) C d rfl (by simp) (ctp rfl hc) kk
theorem h_ast_3 {Z : Zx} {own : String} {cc : ByteArray} {rf rc rs rl k n pc : Nat} {st : List Value} {μ : Mem} {a0 a1 a2 a3 : Option Value} {r : List (Option Value)} {v : Value} (C : Cx Z own cc rf rc rs rl) (d : decode cc pc = .ok (.astore_n 3, 1)) (hc : ct a2) (hr : rfv v) (kk : HW Z k n (pc + 1) (a0 :: a1 :: a2 :: some (v) :: r) st μ) : HW Z k n pc (a0 :: a1 :: a2 :: a3 :: r) (v :: st) μ := by
  obtain ⟨r9, rfl⟩ := hr.to
  exact h_astore_g (i := 3) C d rfl (by simp) (ctp rfl hc) kk
theorem h_iinc_3 {Z : Zx} {own : String} {cc : ByteArray} {rf rc rs rl k n pc : Nat} {st : List Value} {μ : Mem} {a0 a1 a2 : Option Value} {r : List (Option Value)} {x q : Int32} {z : Int} (C : Cx Z own cc rf rc rs rl) (d : decode cc pc = .ok (.iinc 3 z, 3)) (hq : Int32.ofInt z = q) (hc : ct a2) (kk : HW Z k n (pc + 3) (a0 :: a1 :: a2 :: some (.int (x + q)) :: r) st μ) : HW Z k n pc (a0 :: a1 :: a2 :: some (.int x) :: r) st μ := by
  exact h_iinc (i := 3) C d rfl (by rw [hq]) (by simp) (ctp rfl hc) kk
theorem h_lst_3 {Z : Zx} {own : String} {cc : ByteArray} {rf rc rs rl k n pc : Nat} {st : List Value} {μ : Mem} {a0 a1 a2 a3 a4 : Option Value} {r : List (Option Value)} {x : Int64} (C : Cx Z own cc rf rc rs rl) (d : decode cc pc = .ok (.lstore_n 3, 1)) (hc : ct a2) (kk : HW Z k n (pc + 1) (a0 :: a1 :: a2 :: some (.long x) :: none :: r) st μ) : HW Z k n pc (a0 :: a1 :: a2 :: a3 :: a4 :: r) (.long x :: st) μ := by
  exact h_lstore_g (i := 3) C d rfl (by simp) (ctp rfl hc) kk
theorem h_dst_3 {Z : Zx} {own : String} {cc : ByteArray} {rf rc rs rl k n pc : Nat} {st : List Value} {μ : Mem} {a0 a1 a2 a3 a4 : Option Value} {r : List (Option Value)} {x : UInt64} (C : Cx Z own cc rf rc rs rl) (d : decode cc pc = .ok (.dstore_n 3, 1)) (hc : ct a2) (kk : HW Z k n (pc + 1) (a0 :: a1 :: a2 :: some (.double x) :: none :: r) st μ) : HW Z k n pc (a0 :: a1 :: a2 :: a3 :: a4 :: r) (.double x :: st) μ := by
  exact h_dstore_g (i := 3) C d rfl (by simp) (ctp rfl hc) kk
theorem h_ist_4 {Z : Zx} {own : String} {cc : ByteArray} {rf rc rs rl k n pc : Nat} {st : List Value} {μ : Mem} {a0 a1 a2 a3 a4 : Option Value} {r : List (Option Value)} {x : Int32} (C : Cx Z own cc rf rc rs rl) (d : decode cc pc = .ok (.istore 4, 2)) (hc : ct a3) (kk : HW Z k n (pc + 2) (a0 :: a1 :: a2 :: a3 :: some (.int x) :: r) st μ) : HW Z k n pc (a0 :: a1 :: a2 :: a3 :: a4 :: r) (.int x :: st) μ := by
  exact h_istore_w (i := 4) (j := 0) C d (by simp) (ctp rfl hc) kk
theorem h_ast_4 {Z : Zx} {own : String} {cc : ByteArray} {rf rc rs rl k n pc : Nat} {st : List Value} {μ : Mem} {a0 a1 a2 a3 a4 : Option Value} {r : List (Option Value)} {v : Value} (C : Cx Z own cc rf rc rs rl) (d : decode cc pc = .ok (.astore 4, 2)) (hc : ct a3) (hr : rfv v) (kk : HW Z k n (pc + 2) (a0 :: a1 :: a2 :: a3 :: some (v) :: r) st μ) : HW Z k n pc (a0 :: a1 :: a2 :: a3 :: a4 :: r) (v :: st) μ := by
  obtain ⟨r9, rfl⟩ := hr.to
  exact h_astore_w (i := 4) (j := 0) C d (by simp) (ctp rfl hc) kk
theorem h_iinc_4 {Z : Zx} {own : String} {cc : ByteArray} {rf rc rs rl k n pc : Nat} {st : List Value} {μ : Mem} {a0 a1 a2 a3 : Option Value} {r : List (Option Value)} {x q : Int32} {z : Int} (C : Cx Z own cc rf rc rs rl) (d : decode cc pc = .ok (.iinc 4 z, 3)) (hq : Int32.ofInt z = q) (hc : ct a3) (kk : HW Z k n (pc + 3) (a0 :: a1 :: a2 :: a3 :: some (.int (x + q)) :: r) st μ) : HW Z k n pc (a0 :: a1 :: a2 :: a3 :: some (.int x) :: r) st μ := by
  exact h_iinc (i := 4) C d rfl (by rw [hq]) (by simp) (ctp rfl hc) kk
theorem h_lst_4 {Z : Zx} {own : String} {cc : ByteArray} {rf rc rs rl k n pc : Nat} {st : List Value} {μ : Mem} {a0 a1 a2 a3 a4 a5 : Option Value} {r : List (Option Value)} {x : Int64} (C : Cx Z own cc rf rc rs rl) (d : decode cc pc = .ok (.lstore 4, 2)) (hc : ct a3) (kk : HW Z k n (pc + 2) (a0 :: a1 :: a2 :: a3 :: some (.long x) :: none :: r) st μ) : HW Z k n pc (a0 :: a1 :: a2 :: a3 :: a4 :: a5 :: r) (.long x :: st) μ := by
  exact h_lstore_w (i := 4) (j := 0) C d (by simp) (ctp rfl hc) kk
theorem h_dst_4 {Z : Zx} {own : String} {cc : ByteArray} {rf rc rs rl k n pc : Nat} {st : List Value} {μ : Mem} {a0 a1 a2 a3 a4 a5 : Option Value} {r : List (Option Value)} {x : UInt64} (C : Cx Z own cc rf rc rs rl) (d : decode cc pc = .ok (.dstore 4, 2)) (hc : ct a3) (kk : HW Z k n (pc + 2) (a0 :: a1 :: a2 :: a3 :: some (.double x) :: none :: r) st μ) : HW Z k n pc (a0 :: a1 :: a2 :: a3 :: a4 :: a5 :: r) (.double x :: st) μ := by
  exact h_dstore_w (i := 4) (j := 0) C d (by simp) (ctp rfl hc) kk
theorem h_ist_5 {Z : Zx} {own : String} {cc : ByteArray} {rf rc rs rl k n pc : Nat} {st : List Value} {μ : Mem} {a0 a1 a2 a3 a4 a5 : Option Value} {r : List (Option Value)} {x : Int32} (C : Cx Z own cc rf rc rs rl) (d : decode cc pc = .ok (.istore 5, 2)) (hc : ct a4) (kk : HW Z k n (pc + 2) (a0 :: a1 :: a2 :: a3 :: a4 :: some (.int x) :: r) st μ) : HW Z k n pc (a0 :: a1 :: a2 :: a3 :: a4 :: a5 :: r) (.int x :: st) μ := by
  exact h_istore_w (i := 5) (j := 0) C d (by simp) (ctp rfl hc) kk
theorem h_ast_5 {Z : Zx} {own : String} {cc : ByteArray} {rf rc rs rl k n pc : Nat} {st : List Value} {μ : Mem} {a0 a1 a2 a3 a4 a5 : Option Value} {r : List (Option Value)} {v : Value} (C : Cx Z own cc rf rc rs rl) (d : decode cc pc = .ok (.astore 5, 2)) (hc : ct a4) (hr : rfv v) (kk : HW Z k n (pc + 2) (a0 :: a1 :: a2 :: a3 :: a4 :: some (v) :: r) st μ) : HW Z k n pc (a0 :: a1 :: a2 :: a3 :: a4 :: a5 :: r) (v :: st) μ := by
  obtain ⟨r9, rfl⟩ := hr.to
  exact h_astore_w (i := 5) (j := 0) C d (by simp) (ctp rfl hc) kk
theorem h_iinc_5 {Z : Zx} {own : String} {cc : ByteArray} {rf rc rs rl k n pc : Nat} {st : List Value} {μ : Mem} {a0 a1 a2 a3 a4 : Option Value} {r : List (Option Value)} {x q : Int32} {z : Int} (C : Cx Z own cc rf rc rs rl) (d : decode cc pc = .ok (.iinc 5 z, 3)) (hq : Int32.ofInt z = q) (hc : ct a4) (kk : HW Z k n (pc + 3) (a0 :: a1 :: a2 :: a3 :: a4 :: some (.int (x + q)) :: r) st μ) : HW Z k n pc (a0 :: a1 :: a2 :: a3 :: a4 :: some (.int x) :: r) st μ := by
  exact h_iinc (i := 5) C d rfl (by rw [hq]) (by simp) (ctp rfl hc) kk
theorem h_lst_5 {Z : Zx} {own : String} {cc : ByteArray} {rf rc rs rl k n pc : Nat} {st : List Value} {μ : Mem} {a0 a1 a2 a3 a4 a5 a6 : Option Value} {r : List (Option Value)} {x : Int64} (C : Cx Z own cc rf rc rs rl) (d : decode cc pc = .ok (.lstore 5, 2)) (hc : ct a4) (kk : HW Z k n (pc + 2) (a0 :: a1 :: a2 :: a3 :: a4 :: some (.long x) :: none :: r) st μ) : HW Z k n pc (a0 :: a1 :: a2 :: a3 :: a4 :: a5 :: a6 :: r) (.long x :: st) μ := by
  exact h_lstore_w (i := 5) (j := 0) C d (by simp) (ctp rfl hc) kk
theorem h_dst_5 {Z : Zx} {own : String} {cc : ByteArray} {rf rc rs rl k n pc : Nat} {st : List Value} {μ : Mem} {a0 a1 a2 a3 a4 a5 a6 : Option Value} {r : List (Option Value)} {x : UInt64} (C : Cx Z own cc rf rc rs rl) (d : decode cc pc = .ok (.dstore 5, 2)) (hc : ct a4) (kk : HW Z k n (pc + 2) (a0 :: a1 :: a2 :: a3 :: a4 :: some (.double x) :: none :: r) st μ) : HW Z k n pc (a0 :: a1 :: a2 :: a3 :: a4 :: a5 :: a6 :: r) (.double x :: st) μ := by
  exact h_dstore_w (i := 5) (j := 0) C d (by simp) (ctp rfl hc) kk
theorem h_ist_6 {Z : Zx} {own : String} {cc : ByteArray} {rf rc rs rl k n pc : Nat} {st : List Value} {μ : Mem} {a0 a1 a2 a3 a4 a5 a6 : Option Value} {r : List (Option Value)} {x : Int32} (C : Cx Z own cc rf rc rs rl) (d : decode cc pc = .ok (.istore 6, 2)) (hc : ct a5) (kk : HW Z k n (pc + 2) (a0 :: a1 :: a2 :: a3 :: a4 :: a5 :: some (.int x) :: r) st μ) : HW Z k n pc (a0 :: a1 :: a2 :: a3 :: a4 :: a5 :: a6 :: r) (.int x :: st) μ := by
  exact h_istore_w (i := 6) (j := 0) C d (by simp) (ctp rfl hc) kk
theorem h_ast_6 {Z : Zx} {own : String} {cc : ByteArray} {rf rc rs rl k n pc : Nat} {st : List Value} {μ : Mem} {a0 a1 a2 a3 a4 a5 a6 : Option Value} {r : List (Option Value)} {v : Value} (C : Cx Z own cc rf rc rs rl) (d : decode cc pc = .ok (.astore 6, 2)) (hc : ct a5) (hr : rfv v) (kk : HW Z k n (pc + 2) (a0 :: a1 :: a2 :: a3 :: a4 :: a5 :: some (v) :: r) st μ) : HW Z k n pc (a0 :: a1 :: a2 :: a3 :: a4 :: a5 :: a6 :: r) (v :: st) μ := by
  obtain ⟨r9, rfl⟩ := hr.to
  exact h_astore_w (i := 6) (j := 0) C d (by simp) (ctp rfl hc) kk
theorem h_iinc_6 {Z : Zx} {own : String} {cc : ByteArray} {rf rc rs rl k n pc : Nat} {st : List Value} {μ : Mem} {a0 a1 a2 a3 a4 a5 : Option Value} {r : List (Option Value)} {x q : Int32} {z : Int} (C : Cx Z own cc rf rc rs rl) (d : decode cc pc = .ok (.iinc 6 z, 3)) (hq : Int32.ofInt z = q) (hc : ct a5) (kk : HW Z k n (pc + 3) (a0 :: a1 :: a2 :: a3 :: a4 :: a5 :: some (.int (x + q)) :: r) st μ) : HW Z k n pc (a0 :: a1 :: a2 :: a3 :: a4 :: a5 :: some (.int x) :: r) st μ := by
  exact h_iinc (i := 6) C d rfl (by rw [hq]) (by simp) (ctp rfl hc) kk
theorem h_lst_6 {Z : Zx} {own : String} {cc : ByteArray} {rf rc rs rl k n pc : Nat} {st : List Value} {μ : Mem} {a0 a1 a2 a3 a4 a5 a6 a7 : Option Value} {r : List (Option Value)} {x : Int64} (C : Cx Z own cc rf rc rs rl) (d : decode cc pc = .ok (.lstore 6, 2)) (hc : ct a5) (kk : HW Z k n (pc + 2) (a0 :: a1 :: a2 :: a3 :: a4 :: a5 :: some (.long x) :: none :: r) st μ) : HW Z k n pc (a0 :: a1 :: a2 :: a3 :: a4 :: a5 :: a6 :: a7 :: r) (.long x :: st) μ := by
  exact h_lstore_w (i := 6) (j := 0) C d (by simp) (ctp rfl hc) kk
theorem h_dst_6 {Z : Zx} {own : String} {cc : ByteArray} {rf rc rs rl k n pc : Nat} {st : List Value} {μ : Mem} {a0 a1 a2 a3 a4 a5 a6 a7 : Option Value} {r : List (Option Value)} {x : UInt64} (C : Cx Z own cc rf rc rs rl) (d : decode cc pc = .ok (.dstore 6, 2)) (hc : ct a5) (kk : HW Z k n (pc + 2) (a0 :: a1 :: a2 :: a3 :: a4 :: a5 :: some (.double x) :: none :: r) st μ) : HW Z k n pc (a0 :: a1 :: a2 :: a3 :: a4 :: a5 :: a6 :: a7 :: r) (.double x :: st) μ := by
  exact h_dstore_w (i := 6) (j := 0) C d (by simp) (ctp rfl hc) kk
theorem h_ist_7 {Z : Zx} {own : String} {cc : ByteArray} {rf rc rs rl k n pc : Nat} {st : List Value} {μ : Mem} {a0 a1 a2 a3 a4 a5 a6 a7 : Option Value} {r : List (Option Value)} {x : Int32} (C : Cx Z own cc rf rc rs rl) (d : decode cc pc = .ok (.istore 7, 2)) (hc : ct a6) (kk : HW Z k n (pc + 2) (a0 :: a1 :: a2 :: a3 :: a4 :: a5 :: a6 :: some (.int x) :: r) st μ) : HW Z k n pc (a0 :: a1 :: a2 :: a3 :: a4 :: a5 :: a6 :: a7 :: r) (.int x :: st) μ := by
  exact h_istore_w (i := 7) (j := 0) C d (by simp) (ctp rfl hc) kk
theorem h_ast_7 {Z : Zx} {own : String} {cc : ByteArray} {rf rc rs rl k n pc : Nat} {st : List Value} {μ : Mem} {a0 a1 a2 a3 a4 a5 a6 a7 : Option Value} {r : List (Option Value)} {v : Value} (C : Cx Z own cc rf rc rs rl) (d : decode cc pc = .ok (.astore 7, 2)) (hc : ct a6) (hr : rfv v) (kk : HW Z k n (pc + 2) (a0 :: a1 :: a2 :: a3 :: a4 :: a5 :: a6 :: some (v) :: r) st μ) : HW Z k n pc (a0 :: a1 :: a2 :: a3 :: a4 :: a5 :: a6 :: a7 :: r) (v :: st) μ := by
  obtain ⟨r9, rfl⟩ := hr.to
  exact h_astore_w (i := 7) (j := 0) C d (by simp) (ctp rfl hc) kk
theorem h_iinc_7 {Z : Zx} {own : String} {cc : ByteArray} {rf rc rs rl k n pc : Nat} {st : List Value} {μ : Mem} {a0 a1 a2 a3 a4 a5 a6 : Option Value} {r : List (Option Value)} {x q : Int32} {z : Int} (C : Cx Z own cc rf rc rs rl) (d : decode cc pc = .ok (.iinc 7 z, 3)) (hq : Int32.ofInt z = q) (hc : ct a6) (kk : HW Z k n (pc + 3) (a0 :: a1 :: a2 :: a3 :: a4 :: a5 :: a6 :: some (.int (x + q)) :: r) st μ) : HW Z k n pc (a0 :: a1 :: a2 :: a3 :: a4 :: a5 :: a6 :: some (.int x) :: r) st μ := by
  exact h_iinc (i := 7) C d rfl (by rw [hq]) (by simp) (ctp rfl hc) kk
theorem h_lst_7 {Z : Zx} {own : String} {cc : ByteArray} {rf rc rs rl k n pc : Nat} {st : List Value} {μ : Mem} {a0 a1 a2 a3 a4 a5 a6 a7 a8 : Option Value} {r : List (Option Value)} {x : Int64} (C : Cx Z own cc rf rc rs rl) (d : decode cc pc = .ok (.lstore 7, 2)) (hc : ct a6) (kk : HW Z k n (pc + 2) (a0 :: a1 :: a2 :: a3 :: a4 :: a5 :: a6 :: some (.long x) :: none :: r) st μ) : HW Z k n pc (a0 :: a1 :: a2 :: a3 :: a4 :: a5 :: a6 :: a7 :: a8 :: r) (.long x :: st) μ := by
  exact h_lstore_w (i := 7) (j := 0) C d (by simp) (ctp rfl hc) kk
theorem h_dst_7 {Z : Zx} {own : String} {cc : ByteArray} {rf rc rs rl k n pc : Nat} {st : List Value} {μ : Mem} {a0 a1 a2 a3 a4 a5 a6 a7 a8 : Option Value} {r : List (Option Value)} {x : UInt64} (C : Cx Z own cc rf rc rs rl) (d : decode cc pc = .ok (.dstore 7, 2)) (hc : ct a6) (kk : HW Z k n (pc + 2) (a0 :: a1 :: a2 :: a3 :: a4 :: a5 :: a6 :: some (.double x) :: none :: r) st μ) : HW Z k n pc (a0 :: a1 :: a2 :: a3 :: a4 :: a5 :: a6 :: a7 :: a8 :: r) (.double x :: st) μ := by
  exact h_dstore_w (i := 7) (j := 0) C d (by simp) (ctp rfl hc) kk
theorem h_ist_8 {Z : Zx} {own : String} {cc : ByteArray} {rf rc rs rl k n pc : Nat} {st : List Value} {μ : Mem} {a0 a1 a2 a3 a4 a5 a6 a7 a8 : Option Value} {r : List (Option Value)} {x : Int32} (C : Cx Z own cc rf rc rs rl) (d : decode cc pc = .ok (.istore 8, 2)) (hc : ct a7) (kk : HW Z k n (pc + 2) (a0 :: a1 :: a2 :: a3 :: a4 :: a5 :: a6 :: a7 :: some (.int x) :: r) st μ) : HW Z k n pc (a0 :: a1 :: a2 :: a3 :: a4 :: a5 :: a6 :: a7 :: a8 :: r) (.int x :: st) μ := by
  exact h_istore_w (i := 8) (j := 0) C d (by simp) (ctp rfl hc) kk
theorem h_ast_8 {Z : Zx} {own : String} {cc : ByteArray} {rf rc rs rl k n pc : Nat} {st : List Value} {μ : Mem} {a0 a1 a2 a3 a4 a5 a6 a7 a8 : Option Value} {r : List (Option Value)} {v : Value} (C : Cx Z own cc rf rc rs rl) (d : decode cc pc = .ok (.astore 8, 2)) (hc : ct a7) (hr : rfv v) (kk : HW Z k n (pc + 2) (a0 :: a1 :: a2 :: a3 :: a4 :: a5 :: a6 :: a7 :: some (v) :: r) st μ) : HW Z k n pc (a0 :: a1 :: a2 :: a3 :: a4 :: a5 :: a6 :: a7 :: a8 :: r) (v :: st) μ := by
  obtain ⟨r9, rfl⟩ := hr.to
  exact h_astore_w (i := 8) (j := 0) C d (by simp) (ctp rfl hc) kk
theorem h_iinc_8 {Z : Zx} {own : String} {cc : ByteArray} {rf rc rs rl k n pc : Nat} {st : List Value} {μ : Mem} {a0 a1 a2 a3 a4 a5 a6 a7 : Option Value} {r : List (Option Value)} {x q : Int32} {z : Int} (C : Cx Z own cc rf rc rs rl) (d : decode cc pc = .ok (.iinc 8 z, 3)) (hq : Int32.ofInt z = q) (hc : ct a7) (kk : HW Z k n (pc + 3) (a0 :: a1 :: a2 :: a3 :: a4 :: a5 :: a6 :: a7 :: some (.int (x + q)) :: r) st μ) : HW Z k n pc (a0 :: a1 :: a2 :: a3 :: a4 :: a5 :: a6 :: a7 :: some (.int x) :: r) st μ := by
  exact h_iinc (i := 8) C d rfl (by rw [hq]) (by simp) (ctp rfl hc) kk
theorem h_lst_8 {Z : Zx} {own : String} {cc : ByteArray} {rf rc rs rl k n pc : Nat} {st : List Value} {μ : Mem} {a0 a1 a2 a3 a4 a5 a6 a7 a8 a9 : Option Value} {r : List (Option Value)} {x : Int64} (C : Cx Z own cc rf rc rs rl) (d : decode cc pc = .ok (.lstore 8, 2)) (hc : ct a7) (kk : HW Z k n (pc + 2) (a0 :: a1 :: a2 :: a3 :: a4 :: a5 :: a6 :: a7 :: some (.long x) :: none :: r) st μ) : HW Z k n pc (a0 :: a1 :: a2 :: a3 :: a4 :: a5 :: a6 :: a7 :: a8 :: a9 :: r) (.long x :: st) μ := by
  exact h_lstore_w (i := 8) (j := 0) C d (by simp) (ctp rfl hc) kk
theorem h_dst_8 {Z : Zx} {own : String} {cc : ByteArray} {rf rc rs rl k n pc : Nat} {st : List Value} {μ : Mem} {a0 a1 a2 a3 a4 a5 a6 a7 a8 a9 : Option Value} {r : List (Option Value)} {x : UInt64} (C : Cx Z own cc rf rc rs rl) (d : decode cc pc = .ok (.dstore 8, 2)) (hc : ct a7) (kk : HW Z k n (pc + 2) (a0 :: a1 :: a2 :: a3 :: a4 :: a5 :: a6 :: a7 :: some (.double x) :: none :: r) st μ) : HW Z k n pc (a0 :: a1 :: a2 :: a3 :: a4 :: a5 :: a6 :: a7 :: a8 :: a9 :: r) (.double x :: st) μ := by
  exact h_dstore_w (i := 8) (j := 0) C d (by simp) (ctp rfl hc) kk
theorem h_ist_9 {Z : Zx} {own : String} {cc : ByteArray} {rf rc rs rl k n pc : Nat} {st : List Value} {μ : Mem} {a0 a1 a2 a3 a4 a5 a6 a7 a8 a9 : Option Value} {r : List (Option Value)} {x : Int32} (C : Cx Z own cc rf rc rs rl) (d : decode cc pc = .ok (.istore 9, 2)) (hc : ct a8) (kk : HW Z k n (pc + 2) (a0 :: a1 :: a2 :: a3 :: a4 :: a5 :: a6 :: a7 :: a8 :: some (.int x) :: r) st μ) : HW Z k n pc (a0 :: a1 :: a2 :: a3 :: a4 :: a5 :: a6 :: a7 :: a8 :: a9 :: r) (.int x :: st) μ := by
  exact h_istore_w (i := 9) (j := 0) C d (by simp) (ctp rfl hc) kk
theorem h_ast_9 {Z : Zx} {own : String} {cc : ByteArray} {rf rc rs rl k n pc : Nat} {st : List Value} {μ : Mem} {a0 a1 a2 a3 a4 a5 a6 a7 a8 a9 : Option Value} {r : List (Option Value)} {v : Value} (C : Cx Z own cc rf rc rs rl) (d : decode cc pc = .ok (.astore 9, 2)) (hc : ct a8) (hr : rfv v) (kk : HW Z k n (pc + 2) (a0 :: a1 :: a2 :: a3 :: a4 :: a5 :: a6 :: a7 :: a8 :: some (v) :: r) st μ) : HW Z k n pc (a0 :: a1 :: a2 :: a3 :: a4 :: a5 :: a6 :: a7 :: a8 :: a9 :: r) (v :: st) μ := by
  obtain ⟨r9, rfl⟩ := hr.to
  exact h_astore_w (i := 9) (j := 0) C d (by simp) (ctp rfl hc) kk
theorem h_iinc_9 {Z : Zx} {own : String} {cc : ByteArray} {rf rc rs rl k n pc : Nat} {st : List Value} {μ : Mem} {a0 a1 a2 a3 a4 a5 a6 a7 a8 : Option Value} {r : List (Option Value)} {x q : Int32} {z : Int} (C : Cx Z own cc rf rc rs rl) (d : decode cc pc = .ok (.iinc 9 z, 3)) (hq : Int32.ofInt z = q) (hc : ct a8) (kk : HW Z k n (pc + 3) (a0 :: a1 :: a2 :: a3 :: a4 :: a5 :: a6 :: a7 :: a8 :: some (.int (x + q)) :: r) st μ) : HW Z k n pc (a0 :: a1 :: a2 :: a3 :: a4 :: a5 :: a6 :: a7 :: a8 :: some (.int x) :: r) st μ := by
  exact h_iinc (i := 9) C d rfl (by rw [hq]) (by simp) (ctp rfl hc) kk
theorem h_lst_9 {Z : Zx} {own : String} {cc : ByteArray} {rf rc rs rl k n pc : Nat} {st : List Value} {μ : Mem} {a0 a1 a2 a3 a4 a5 a6 a7 a8 a9 a10 : Option Value} {r : List (Option Value)} {x : Int64} (C : Cx Z own cc rf rc rs rl) (d : decode cc pc = .ok (.lstore 9, 2)) (hc : ct a8) (kk : HW Z k n (pc + 2) (a0 :: a1 :: a2 :: a3 :: a4 :: a5 :: a6 :: a7 :: a8 :: some (.long x) :: none :: r) st μ) : HW Z k n pc (a0 :: a1 :: a2 :: a3 :: a4 :: a5 :: a6 :: a7 :: a8 :: a9 :: a10 :: r) (.long x :: st) μ := by
  exact h_lstore_w (i := 9) (j := 0) C d (by simp) (ctp rfl hc) kk
theorem h_dst_9 {Z : Zx} {own : String} {cc : ByteArray} {rf rc rs rl k n pc : Nat} {st : List Value} {μ : Mem} {a0 a1 a2 a3 a4 a5 a6 a7 a8 a9 a10 : Option Value} {r : List (Option Value)} {x : UInt64} (C : Cx Z own cc rf rc rs rl) (d : decode cc pc = .ok (.dstore 9, 2)) (hc : ct a8) (kk : HW Z k n (pc + 2) (a0 :: a1 :: a2 :: a3 :: a4 :: a5 :: a6 :: a7 :: a8 :: some (.double x) :: none :: r) st μ) : HW Z k n pc (a0 :: a1 :: a2 :: a3 :: a4 :: a5 :: a6 :: a7 :: a8 :: a9 :: a10 :: r) (.double x :: st) μ := by
  exact h_dstore_w (i := 9) (j := 0) C d (by simp) (ctp rfl hc) kk
theorem h_ist_10 {Z : Zx} {own : String} {cc : ByteArray} {rf rc rs rl k n pc : Nat} {st : List Value} {μ : Mem} {a0 a1 a2 a3 a4 a5 a6 a7 a8 a9 a10 : Option Value} {r : List (Option Value)} {x : Int32} (C : Cx Z own cc rf rc rs rl) (d : decode cc pc = .ok (.istore 10, 2)) (hc : ct a9) (kk : HW Z k n (pc + 2) (a0 :: a1 :: a2 :: a3 :: a4 :: a5 :: a6 :: a7 :: a8 :: a9 :: some (.int x) :: r) st μ) : HW Z k n pc (a0 :: a1 :: a2 :: a3 :: a4 :: a5 :: a6 :: a7 :: a8 :: a9 :: a10 :: r) (.int x :: st) μ := by
  exact h_istore_w (i := 10) (j := 0) C d (by simp) (ctp rfl hc) kk
theorem h_ast_10 {Z : Zx} {own : String} {cc : ByteArray} {rf rc rs rl k n pc : Nat} {st : List Value} {μ : Mem} {a0 a1 a2 a3 a4 a5 a6 a7 a8 a9 a10 : Option Value} {r : List (Option Value)} {v : Value} (C : Cx Z own cc rf rc rs rl) (d : decode cc pc = .ok (.astore 10, 2)) (hc : ct a9) (hr : rfv v) (kk : HW Z k n (pc + 2) (a0 :: a1 :: a2 :: a3 :: a4 :: a5 :: a6 :: a7 :: a8 :: a9 :: some (v) :: r) st μ) : HW Z k n pc (a0 :: a1 :: a2 :: a3 :: a4 :: a5 :: a6 :: a7 :: a8 :: a9 :: a10 :: r) (v :: st) μ := by
  obtain ⟨r9, rfl⟩ := hr.to
  exact h_astore_w (i := 10) (j := 0) C d (by simp) (ctp rfl hc) kk
theorem h_iinc_10 {Z : Zx} {own : String} {cc : ByteArray} {rf rc rs rl k n pc : Nat} {st : List Value} {μ : Mem} {a0 a1 a2 a3 a4 a5 a6 a7 a8 a9 : Option Value} {r : List (Option Value)} {x q : Int32} {z : Int} (C : Cx Z own cc rf rc rs rl) (d : decode cc pc = .ok (.iinc 10 z, 3)) (hq : Int32.ofInt z = q) (hc : ct a9) (kk : HW Z k n (pc + 3) (a0 :: a1 :: a2 :: a3 :: a4 :: a5 :: a6 :: a7 :: a8 :: a9 :: some (.int (x + q)) :: r) st μ) : HW Z k n pc (a0 :: a1 :: a2 :: a3 :: a4 :: a5 :: a6 :: a7 :: a8 :: a9 :: some (.int x) :: r) st μ := by
  exact h_iinc (i := 10) C d rfl (by rw [hq]) (by simp) (ctp rfl hc) kk
theorem h_lst_10 {Z : Zx} {own : String} {cc : ByteArray} {rf rc rs rl k n pc : Nat} {st : List Value} {μ : Mem} {a0 a1 a2 a3 a4 a5 a6 a7 a8 a9 a10 a11 : Option Value} {r : List (Option Value)} {x : Int64} (C : Cx Z own cc rf rc rs rl) (d : decode cc pc = .ok (.lstore 10, 2)) (hc : ct a9) (kk : HW Z k n (pc + 2) (a0 :: a1 :: a2 :: a3 :: a4 :: a5 :: a6 :: a7 :: a8 :: a9 :: some (.long x) :: none :: r) st μ) : HW Z k n pc (a0 :: a1 :: a2 :: a3 :: a4 :: a5 :: a6 :: a7 :: a8 :: a9 :: a10 :: a11 :: r) (.long x :: st) μ := by
  exact h_lstore_w (i := 10) (j := 0) C d (by simp) (ctp rfl hc) kk
theorem h_dst_10 {Z : Zx} {own : String} {cc : ByteArray} {rf rc rs rl k n pc : Nat} {st : List Value} {μ : Mem} {a0 a1 a2 a3 a4 a5 a6 a7 a8 a9 a10 a11 : Option Value} {r : List (Option Value)} {x : UInt64} (C : Cx Z own cc rf rc rs rl) (d : decode cc pc = .ok (.dstore 10, 2)) (hc : ct a9) (kk : HW Z k n (pc + 2) (a0 :: a1 :: a2 :: a3 :: a4 :: a5 :: a6 :: a7 :: a8 :: a9 :: some (.double x) :: none :: r) st μ) : HW Z k n pc (a0 :: a1 :: a2 :: a3 :: a4 :: a5 :: a6 :: a7 :: a8 :: a9 :: a10 :: a11 :: r) (.double x :: st) μ := by
  exact h_dstore_w (i := 10) (j := 0) C d (by simp) (ctp rfl hc) kk
theorem h_ist_11 {Z : Zx} {own : String} {cc : ByteArray} {rf rc rs rl k n pc : Nat} {st : List Value} {μ : Mem} {a0 a1 a2 a3 a4 a5 a6 a7 a8 a9 a10 a11 : Option Value} {r : List (Option Value)} {x : Int32} (C : Cx Z own cc rf rc rs rl) (d : decode cc pc = .ok (.istore 11, 2)) (hc : ct a10) (kk : HW Z k n (pc + 2) (a0 :: a1 :: a2 :: a3 :: a4 :: a5 :: a6 :: a7 :: a8 :: a9 :: a10 :: some (.int x) :: r) st μ) : HW Z k n pc (a0 :: a1 :: a2 :: a3 :: a4 :: a5 :: a6 :: a7 :: a8 :: a9 :: a10 :: a11 :: r) (.int x :: st) μ := by
  exact h_istore_w (i := 11) (j := 0) C d (by simp) (ctp rfl hc) kk
theorem h_ast_11 {Z : Zx} {own : String} {cc : ByteArray} {rf rc rs rl k n pc : Nat} {st : List Value} {μ : Mem} {a0 a1 a2 a3 a4 a5 a6 a7 a8 a9 a10 a11 : Option Value} {r : List (Option Value)} {v : Value} (C : Cx Z own cc rf rc rs rl) (d : decode cc pc = .ok (.astore 11, 2)) (hc : ct a10) (hr : rfv v) (kk : HW Z k n (pc + 2) (a0 :: a1 :: a2 :: a3 :: a4 :: a5 :: a6 :: a7 :: a8 :: a9 :: a10 :: some (v) :: r) st μ) : HW Z k n pc (a0 :: a1 :: a2 :: a3 :: a4 :: a5 :: a6 :: a7 :: a8 :: a9 :: a10 :: a11 :: r) (v :: st) μ := by
  obtain ⟨r9, rfl⟩ := hr.to
  exact h_astore_w (i := 11) (j := 0) C d (by simp) (ctp rfl hc) kk
theorem h_iinc_11 {Z : Zx} {own : String} {cc : ByteArray} {rf rc rs rl k n pc : Nat} {st : List Value} {μ : Mem} {a0 a1 a2 a3 a4 a5 a6 a7 a8 a9 a10 : Option Value} {r : List (Option Value)} {x q : Int32} {z : Int} (C : Cx Z own cc rf rc rs rl) (d : decode cc pc = .ok (.iinc 11 z, 3)) (hq : Int32.ofInt z = q) (hc : ct a10) (kk : HW Z k n (pc + 3) (a0 :: a1 :: a2 :: a3 :: a4 :: a5 :: a6 :: a7 :: a8 :: a9 :: a10 :: some (.int (x + q)) :: r) st μ) : HW Z k n pc (a0 :: a1 :: a2 :: a3 :: a4 :: a5 :: a6 :: a7 :: a8 :: a9 :: a10 :: some (.int x) :: r) st μ := by
  exact h_iinc (i := 11) C d rfl (by rw [hq]) (by simp) (ctp rfl hc) kk
theorem h_lst_11 {Z : Zx} {own : String} {cc : ByteArray} {rf rc rs rl k n pc : Nat} {st : List Value} {μ : Mem} {a0 a1 a2 a3 a4 a5 a6 a7 a8 a9 a10 a11 a12 : Option Value} {r : List (Option Value)} {x : Int64} (C : Cx Z own cc rf rc rs rl) (d : decode cc pc = .ok (.lstore 11, 2)) (hc : ct a10) (kk : HW Z k n (pc + 2) (a0 :: a1 :: a2 :: a3 :: a4 :: a5 :: a6 :: a7 :: a8 :: a9 :: a10 :: some (.long x) :: none :: r) st μ) : HW Z k n pc (a0 :: a1 :: a2 :: a3 :: a4 :: a5 :: a6 :: a7 :: a8 :: a9 :: a10 :: a11 :: a12 :: r) (.long x :: st) μ := by
  exact h_lstore_w (i := 11) (j := 0) C d (by simp) (ctp rfl hc) kk
theorem h_dst_11 {Z : Zx} {own : String} {cc : ByteArray} {rf rc rs rl k n pc : Nat} {st : List Value} {μ : Mem} {a0 a1 a2 a3 a4 a5 a6 a7 a8 a9 a10 a11 a12 : Option Value} {r : List (Option Value)} {x : UInt64} (C : Cx Z own cc rf rc rs rl) (d : decode cc pc = .ok (.dstore 11, 2)) (hc : ct a10) (kk : HW Z k n (pc + 2) (a0 :: a1 :: a2 :: a3 :: a4 :: a5 :: a6 :: a7 :: a8 :: a9 :: a10 :: some (.double x) :: none :: r) st μ) : HW Z k n pc (a0 :: a1 :: a2 :: a3 :: a4 :: a5 :: a6 :: a7 :: a8 :: a9 :: a10 :: a11 :: a12 :: r) (.double x :: st) μ := by
  exact h_dstore_w (i := 11) (j := 0) C d (by simp) (ctp rfl hc) kk
theorem h_ist_12 {Z : Zx} {own : String} {cc : ByteArray} {rf rc rs rl k n pc : Nat} {st : List Value} {μ : Mem} {a0 a1 a2 a3 a4 a5 a6 a7 a8 a9 a10 a11 a12 : Option Value} {r : List (Option Value)} {x : Int32} (C : Cx Z own cc rf rc rs rl) (d : decode cc pc = .ok (.istore 12, 2)) (hc : ct a11) (kk : HW Z k n (pc + 2) (a0 :: a1 :: a2 :: a3 :: a4 :: a5 :: a6 :: a7 :: a8 :: a9 :: a10 :: a11 :: some (.int x) :: r) st μ) : HW Z k n pc (a0 :: a1 :: a2 :: a3 :: a4 :: a5 :: a6 :: a7 :: a8 :: a9 :: a10 :: a11 :: a12 :: r) (.int x :: st) μ := by
  exact h_istore_w (i := 12) (j := 0) C d (by simp) (ctp rfl hc) kk
theorem h_ast_12 {Z : Zx} {own : String} {cc : ByteArray} {rf rc rs rl k n pc : Nat} {st : List Value} {μ : Mem} {a0 a1 a2 a3 a4 a5 a6 a7 a8 a9 a10 a11 a12 : Option Value} {r : List (Option Value)} {v : Value} (C : Cx Z own cc rf rc rs rl) (d : decode cc pc = .ok (.astore 12, 2)) (hc : ct a11) (hr : rfv v) (kk : HW Z k n (pc + 2) (a0 :: a1 :: a2 :: a3 :: a4 :: a5 :: a6 :: a7 :: a8 :: a9 :: a10 :: a11 :: some (v) :: r) st μ) : HW Z k n pc (a0 :: a1 :: a2 :: a3 :: a4 :: a5 :: a6 :: a7 :: a8 :: a9 :: a10 :: a11 :: a12 :: r) (v :: st) μ := by
  obtain ⟨r9, rfl⟩ := hr.to
  exact h_astore_w (i := 12) (j := 0) C d (by simp) (ctp rfl hc) kk
theorem h_iinc_12 {Z : Zx} {own : String} {cc : ByteArray} {rf rc rs rl k n pc : Nat} {st : List Value} {μ : Mem} {a0 a1 a2 a3 a4 a5 a6 a7 a8 a9 a10 a11 : Option Value} {r : List (Option Value)} {x q : Int32} {z : Int} (C : Cx Z own cc rf rc rs rl) (d : decode cc pc = .ok (.iinc 12 z, 3)) (hq : Int32.ofInt z = q) (hc : ct a11) (kk : HW Z k n (pc + 3) (a0 :: a1 :: a2 :: a3 :: a4 :: a5 :: a6 :: a7 :: a8 :: a9 :: a10 :: a11 :: some (.int (x + q)) :: r) st μ) : HW Z k n pc (a0 :: a1 :: a2 :: a3 :: a4 :: a5 :: a6 :: a7 :: a8 :: a9 :: a10 :: a11 :: some (.int x) :: r) st μ := by
  exact h_iinc (i := 12) C d rfl (by rw [hq]) (by simp) (ctp rfl hc) kk
theorem h_lst_12 {Z : Zx} {own : String} {cc : ByteArray} {rf rc rs rl k n pc : Nat} {st : List Value} {μ : Mem} {a0 a1 a2 a3 a4 a5 a6 a7 a8 a9 a10 a11 a12 a13 : Option Value} {r : List (Option Value)} {x : Int64} (C : Cx Z own cc rf rc rs rl) (d : decode cc pc = .ok (.lstore 12, 2)) (hc : ct a11) (kk : HW Z k n (pc + 2) (a0 :: a1 :: a2 :: a3 :: a4 :: a5 :: a6 :: a7 :: a8 :: a9 :: a10 :: a11 :: some (.long x) :: none :: r) st μ) : HW Z k n pc (a0 :: a1 :: a2 :: a3 :: a4 :: a5 :: a6 :: a7 :: a8 :: a9 :: a10 :: a11 :: a12 :: a13 :: r) (.long x :: st) μ := by
  exact h_lstore_w (i := 12) (j := 0) C d (by simp) (ctp rfl hc) kk
theorem h_dst_12 {Z : Zx} {own : String} {cc : ByteArray} {rf rc rs rl k n pc : Nat} {st : List Value} {μ : Mem} {a0 a1 a2 a3 a4 a5 a6 a7 a8 a9 a10 a11 a12 a13 : Option Value} {r : List (Option Value)} {x : UInt64} (C : Cx Z own cc rf rc rs rl) (d : decode cc pc = .ok (.dstore 12, 2)) (hc : ct a11) (kk : HW Z k n (pc + 2) (a0 :: a1 :: a2 :: a3 :: a4 :: a5 :: a6 :: a7 :: a8 :: a9 :: a10 :: a11 :: some (.double x) :: none :: r) st μ) : HW Z k n pc (a0 :: a1 :: a2 :: a3 :: a4 :: a5 :: a6 :: a7 :: a8 :: a9 :: a10 :: a11 :: a12 :: a13 :: r) (.double x :: st) μ := by
  exact h_dstore_w (i := 12) (j := 0) C d (by simp) (ctp rfl hc) kk
theorem h_ist_13 {Z : Zx} {own : String} {cc : ByteArray} {rf rc rs rl k n pc : Nat} {st : List Value} {μ : Mem} {a0 a1 a2 a3 a4 a5 a6 a7 a8 a9 a10 a11 a12 a13 : Option Value} {r : List (Option Value)} {x : Int32} (C : Cx Z own cc rf rc rs rl) (d : decode cc pc = .ok (.istore 13, 2)) (hc : ct a12) (kk : HW Z k n (pc + 2) (a0 :: a1 :: a2 :: a3 :: a4 :: a5 :: a6 :: a7 :: a8 :: a9 :: a10 :: a11 :: a12 :: some (.int x) :: r) st μ) : HW Z k n pc (a0 :: a1 :: a2 :: a3 :: a4 :: a5 :: a6 :: a7 :: a8 :: a9 :: a10 :: a11 :: a12 :: a13 :: r) (.int x :: st) μ := by
  exact h_istore_w (i := 13) (j := 0) C d (by simp) (ctp rfl hc) kk
theorem h_ast_13 {Z : Zx} {own : String} {cc : ByteArray} {rf rc rs rl k n pc : Nat} {st : List Value} {μ : Mem} {a0 a1 a2 a3 a4 a5 a6 a7 a8 a9 a10 a11 a12 a13 : Option Value} {r : List (Option Value)} {v : Value} (C : Cx Z own cc rf rc rs rl) (d : decode cc pc = .ok (.astore 13, 2)) (hc : ct a12) (hr : rfv v) (kk : HW Z k n (pc + 2) (a0 :: a1 :: a2 :: a3 :: a4 :: a5 :: a6 :: a7 :: a8 :: a9 :: a10 :: a11 :: a12 :: some (v) :: r) st μ) : HW Z k n pc (a0 :: a1 :: a2 :: a3 :: a4 :: a5 :: a6 :: a7 :: a8 :: a9 :: a10 :: a11 :: a12 :: a13 :: r) (v :: st) μ := by
  obtain ⟨r9, rfl⟩ := hr.to
  exact h_astore_w (i := 13) (j := 0) C d (by simp) (ctp rfl hc) kk
theorem h_iinc_13 {Z : Zx} {own : String} {cc : ByteArray} {rf rc rs rl k n pc : Nat} {st : List Value} {μ : Mem} {a0 a1 a2 a3 a4 a5 a6 a7 a8 a9 a10 a11 a12 : Option Value} {r : List (Option Value)} {x q : Int32} {z : Int} (C : Cx Z own cc rf rc rs rl) (d : decode cc pc = .ok (.iinc 13 z, 3)) (hq : Int32.ofInt z = q) (hc : ct a12) (kk : HW Z k n (pc + 3) (a0 :: a1 :: a2 :: a3 :: a4 :: a5 :: a6 :: a7 :: a8 :: a9 :: a10 :: a11 :: a12 :: some (.int (x + q)) :: r) st μ) : HW Z k n pc (a0 :: a1 :: a2 :: a3 :: a4 :: a5 :: a6 :: a7 :: a8 :: a9 :: a10 :: a11 :: a12 :: some (.int x) :: r) st μ := by
  exact h_iinc (i := 13) C d rfl (by rw [hq]) (by simp) (ctp rfl hc) kk
theorem h_lst_13 {Z : Zx} {own : String} {cc : ByteArray} {rf rc rs rl k n pc : Nat} {st : List Value} {μ : Mem} {a0 a1 a2 a3 a4 a5 a6 a7 a8 a9 a10 a11 a12 a13 a14 : Option Value} {r : List (Option Value)} {x : Int64} (C : Cx Z own cc rf rc rs rl) (d : decode cc pc = .ok (.lstore 13, 2)) (hc : ct a12) (kk : HW Z k n (pc + 2) (a0 :: a1 :: a2 :: a3 :: a4 :: a5 :: a6 :: a7 :: a8 :: a9 :: a10 :: a11 :: a12 :: some (.long x) :: none :: r) st μ) : HW Z k n pc (a0 :: a1 :: a2 :: a3 :: a4 :: a5 :: a6 :: a7 :: a8 :: a9 :: a10 :: a11 :: a12 :: a13 :: a14 :: r) (.long x :: st) μ := by
  exact h_lstore_w (i := 13) (j := 0) C d (by simp) (ctp rfl hc) kk
theorem h_dst_13 {Z : Zx} {own : String} {cc : ByteArray} {rf rc rs rl k n pc : Nat} {st : List Value} {μ : Mem} {a0 a1 a2 a3 a4 a5 a6 a7 a8 a9 a10 a11 a12 a13 a14 : Option Value} {r : List (Option Value)} {x : UInt64} (C : Cx Z own cc rf rc rs rl) (d : decode cc pc = .ok (.dstore 13, 2)) (hc : ct a12) (kk : HW Z k n (pc + 2) (a0 :: a1 :: a2 :: a3 :: a4 :: a5 :: a6 :: a7 :: a8 :: a9 :: a10 :: a11 :: a12 :: some (.double x) :: none :: r) st μ) : HW Z k n pc (a0 :: a1 :: a2 :: a3 :: a4 :: a5 :: a6 :: a7 :: a8 :: a9 :: a10 :: a11 :: a12 :: a13 :: a14 :: r) (.double x :: st) μ := by
  exact h_dstore_w (i := 13) (j := 0) C d (by simp) (ctp rfl hc) kk
theorem h_ist_14 {Z : Zx} {own : String} {cc : ByteArray} {rf rc rs rl k n pc : Nat} {st : List Value} {μ : Mem} {a0 a1 a2 a3 a4 a5 a6 a7 a8 a9 a10 a11 a12 a13 a14 : Option Value} {r : List (Option Value)} {x : Int32} (C : Cx Z own cc rf rc rs rl) (d : decode cc pc = .ok (.istore 14, 2)) (hc : ct a13) (kk : HW Z k n (pc + 2) (a0 :: a1 :: a2 :: a3 :: a4 :: a5 :: a6 :: a7 :: a8 :: a9 :: a10 :: a11 :: a12 :: a13 :: some (.int x) :: r) st μ) : HW Z k n pc (a0 :: a1 :: a2 :: a3 :: a4 :: a5 :: a6 :: a7 :: a8 :: a9 :: a10 :: a11 :: a12 :: a13 :: a14 :: r) (.int x :: st) μ := by
  exact h_istore_w (i := 14) (j := 0) C d (by simp) (ctp rfl hc) kk
theorem h_ast_14 {Z : Zx} {own : String} {cc : ByteArray} {rf rc rs rl k n pc : Nat} {st : List Value} {μ : Mem} {a0 a1 a2 a3 a4 a5 a6 a7 a8 a9 a10 a11 a12 a13 a14 : Option Value} {r : List (Option Value)} {v : Value} (C : Cx Z own cc rf rc rs rl) (d : decode cc pc = .ok (.astore 14, 2)) (hc : ct a13) (hr : rfv v) (kk : HW Z k n (pc + 2) (a0 :: a1 :: a2 :: a3 :: a4 :: a5 :: a6 :: a7 :: a8 :: a9 :: a10 :: a11 :: a12 :: a13 :: some (v) :: r) st μ) : HW Z k n pc (a0 :: a1 :: a2 :: a3 :: a4 :: a5 :: a6 :: a7 :: a8 :: a9 :: a10 :: a11 :: a12 :: a13 :: a14 :: r) (v :: st) μ := by
  obtain ⟨r9, rfl⟩ := hr.to
  exact h_astore_w (i := 14) (j := 0) C d (by simp) (ctp rfl hc) kk
theorem h_iinc_14 {Z : Zx} {own : String} {cc : ByteArray} {rf rc rs rl k n pc : Nat} {st : List Value} {μ : Mem} {a0 a1 a2 a3 a4 a5 a6 a7 a8 a9 a10 a11 a12 a13 : Option Value} {r : List (Option Value)} {x q : Int32} {z : Int} (C : Cx Z own cc rf rc rs rl) (d : decode cc pc = .ok (.iinc 14 z, 3)) (hq : Int32.ofInt z = q) (hc : ct a13) (kk : HW Z k n (pc + 3) (a0 :: a1 :: a2 :: a3 :: a4 :: a5 :: a6 :: a7 :: a8 :: a9 :: a10 :: a11 :: a12 :: a13 :: some (.int (x + q)) :: r) st μ) : HW Z k n pc (a0 :: a1 :: a2 :: a3 :: a4 :: a5 :: a6 :: a7 :: a8 :: a9 :: a10 :: a11 :: a12 :: a13 :: some (.int x) :: r) st μ := by
  exact h_iinc (i := 14) C d rfl (by rw [hq]) (by simp) (ctp rfl hc) kk
theorem h_lst_14 {Z : Zx} {own : String} {cc : ByteArray} {rf rc rs rl k n pc : Nat} {st : List Value} {μ : Mem} {a0 a1 a2 a3 a4 a5 a6 a7 a8 a9 a10 a11 a12 a13 a14 a15 : Option Value} {r : List (Option Value)} {x : Int64} (C : Cx Z own cc rf rc rs rl) (d : decode cc pc = .ok (.lstore 14, 2)) (hc : ct a13) (kk : HW Z k n (pc + 2) (a0 :: a1 :: a2 :: a3 :: a4 :: a5 :: a6 :: a7 :: a8 :: a9 :: a10 :: a11 :: a12 :: a13 :: some (.long x) :: none :: r) st μ) : HW Z k n pc (a0 :: a1 :: a2 :: a3 :: a4 :: a5 :: a6 :: a7 :: a8 :: a9 :: a10 :: a11 :: a12 :: a13 :: a14 :: a15 :: r) (.long x :: st) μ := by
  exact h_lstore_w (i := 14) (j := 0) C d (by simp) (ctp rfl hc) kk
theorem h_dst_14 {Z : Zx} {own : String} {cc : ByteArray} {rf rc rs rl k n pc : Nat} {st : List Value} {μ : Mem} {a0 a1 a2 a3 a4 a5 a6 a7 a8 a9 a10 a11 a12 a13 a14 a15 : Option Value} {r : List (Option Value)} {x : UInt64} (C : Cx Z own cc rf rc rs rl) (d : decode cc pc = .ok (.dstore 14, 2)) (hc : ct a13) (kk : HW Z k n (pc + 2) (a0 :: a1 :: a2 :: a3 :: a4 :: a5 :: a6 :: a7 :: a8 :: a9 :: a10 :: a11 :: a12 :: a13 :: some (.double x) :: none :: r) st μ) : HW Z k n pc (a0 :: a1 :: a2 :: a3 :: a4 :: a5 :: a6 :: a7 :: a8 :: a9 :: a10 :: a11 :: a12 :: a13 :: a14 :: a15 :: r) (.double x :: st) μ := by
  exact h_dstore_w (i := 14) (j := 0) C d (by simp) (ctp rfl hc) kk
theorem h_ist_15 {Z : Zx} {own : String} {cc : ByteArray} {rf rc rs rl k n pc : Nat} {st : List Value} {μ : Mem} {a0 a1 a2 a3 a4 a5 a6 a7 a8 a9 a10 a11 a12 a13 a14 a15 : Option Value} {r : List (Option Value)} {x : Int32} (C : Cx Z own cc rf rc rs rl) (d : decode cc pc = .ok (.istore 15, 2)) (hc : ct a14) (kk : HW Z k n (pc + 2) (a0 :: a1 :: a2 :: a3 :: a4 :: a5 :: a6 :: a7 :: a8 :: a9 :: a10 :: a11 :: a12 :: a13 :: a14 :: some (.int x) :: r) st μ) : HW Z k n pc (a0 :: a1 :: a2 :: a3 :: a4 :: a5 :: a6 :: a7 :: a8 :: a9 :: a10 :: a11 :: a12 :: a13 :: a14 :: a15 :: r) (.int x :: st) μ := by
  exact h_istore_w (i := 15) (j := 0) C d (by simp) (ctp rfl hc) kk
theorem h_ast_15 {Z : Zx} {own : String} {cc : ByteArray} {rf rc rs rl k n pc : Nat} {st : List Value} {μ : Mem} {a0 a1 a2 a3 a4 a5 a6 a7 a8 a9 a10 a11 a12 a13 a14 a15 : Option Value} {r : List (Option Value)} {v : Value} (C : Cx Z own cc rf rc rs rl) (d : decode cc pc = .ok (.astore 15, 2)) (hc : ct a14) (hr : rfv v) (kk : HW Z k n (pc + 2) (a0 :: a1 :: a2 :: a3 :: a4 :: a5 :: a6 :: a7 :: a8 :: a9 :: a10 :: a11 :: a12 :: a13 :: a14 :: some (v) :: r) st μ) : HW Z k n pc (a0 :: a1 :: a2 :: a3 :: a4 :: a5 :: a6 :: a7 :: a8 :: a9 :: a10 :: a11 :: a12 :: a13 :: a14 :: a15 :: r) (v :: st) μ := by
  obtain ⟨r9, rfl⟩ := hr.to
  exact h_astore_w (i := 15) (j := 0) C d (by simp) (ctp rfl hc) kk
theorem h_iinc_15 {Z : Zx} {own : String} {cc : ByteArray} {rf rc rs rl k n pc : Nat} {st : List Value} {μ : Mem} {a0 a1 a2 a3 a4 a5 a6 a7 a8 a9 a10 a11 a12 a13 a14 : Option Value} {r : List (Option Value)} {x q : Int32} {z : Int} (C : Cx Z own cc rf rc rs rl) (d : decode cc pc = .ok (.iinc 15 z, 3)) (hq : Int32.ofInt z = q) (hc : ct a14) (kk : HW Z k n (pc + 3) (a0 :: a1 :: a2 :: a3 :: a4 :: a5 :: a6 :: a7 :: a8 :: a9 :: a10 :: a11 :: a12 :: a13 :: a14 :: some (.int (x + q)) :: r) st μ) : HW Z k n pc (a0 :: a1 :: a2 :: a3 :: a4 :: a5 :: a6 :: a7 :: a8 :: a9 :: a10 :: a11 :: a12 :: a13 :: a14 :: some (.int x) :: r) st μ := by
  exact h_iinc (i := 15) C d rfl (by rw [hq]) (by simp) (ctp rfl hc) kk
theorem h_lst_15 {Z : Zx} {own : String} {cc : ByteArray} {rf rc rs rl k n pc : Nat} {st : List Value} {μ : Mem} {a0 a1 a2 a3 a4 a5 a6 a7 a8 a9 a10 a11 a12 a13 a14 a15 a16 : Option Value} {r : List (Option Value)} {x : Int64} (C : Cx Z own cc rf rc rs rl) (d : decode cc pc = .ok (.lstore 15, 2)) (hc : ct a14) (kk : HW Z k n (pc + 2) (a0 :: a1 :: a2 :: a3 :: a4 :: a5 :: a6 :: a7 :: a8 :: a9 :: a10 :: a11 :: a12 :: a13 :: a14 :: some (.long x) :: none :: r) st μ) : HW Z k n pc (a0 :: a1 :: a2 :: a3 :: a4 :: a5 :: a6 :: a7 :: a8 :: a9 :: a10 :: a11 :: a12 :: a13 :: a14 :: a15 :: a16 :: r) (.long x :: st) μ := by
  exact h_lstore_w (i := 15) (j := 0) C d (by simp) (ctp rfl hc) kk
theorem h_dst_15 {Z : Zx} {own : String} {cc : ByteArray} {rf rc rs rl k n pc : Nat} {st : List Value} {μ : Mem} {a0 a1 a2 a3 a4 a5 a6 a7 a8 a9 a10 a11 a12 a13 a14 a15 a16 : Option Value} {r : List (Option Value)} {x : UInt64} (C : Cx Z own cc rf rc rs rl) (d : decode cc pc = .ok (.dstore 15, 2)) (hc : ct a14) (kk : HW Z k n (pc + 2) (a0 :: a1 :: a2 :: a3 :: a4 :: a5 :: a6 :: a7 :: a8 :: a9 :: a10 :: a11 :: a12 :: a13 :: a14 :: some (.double x) :: none :: r) st μ) : HW Z k n pc (a0 :: a1 :: a2 :: a3 :: a4 :: a5 :: a6 :: a7 :: a8 :: a9 :: a10 :: a11 :: a12 :: a13 :: a14 :: a15 :: a16 :: r) (.double x :: st) μ := by
  exact h_dstore_w (i := 15) (j := 0) C d (by simp) (ctp rfl hc) kk
theorem h_ist_16 {Z : Zx} {own : String} {cc : ByteArray} {rf rc rs rl k n pc : Nat} {st : List Value} {μ : Mem} {a0 a1 a2 a3 a4 a5 a6 a7 a8 a9 a10 a11 a12 a13 a14 a15 a16 : Option Value} {r : List (Option Value)} {x : Int32} (C : Cx Z own cc rf rc rs rl) (d : decode cc pc = .ok (.istore 16, 2)) (hc : ct a15) (kk : HW Z k n (pc + 2) (a0 :: a1 :: a2 :: a3 :: a4 :: a5 :: a6 :: a7 :: a8 :: a9 :: a10 :: a11 :: a12 :: a13 :: a14 :: a15 :: some (.int x) :: r) st μ) : HW Z k n pc (a0 :: a1 :: a2 :: a3 :: a4 :: a5 :: a6 :: a7 :: a8 :: a9 :: a10 :: a11 :: a12 :: a13 :: a14 :: a15 :: a16 :: r) (.int x :: st) μ := by
  exact h_istore_w (i := 16) (j := 0) C d (by simp) (ctp rfl hc) kk
theorem h_ast_16 {Z : Zx} {own : String} {cc : ByteArray} {rf rc rs rl k n pc : Nat} {st : List Value} {μ : Mem} {a0 a1 a2 a3 a4 a5 a6 a7 a8 a9 a10 a11 a12 a13 a14 a15 a16 : Option Value} {r : List (Option Value)} {v : Value} (C : Cx Z own cc rf rc rs rl) (d : decode cc pc = .ok (.astore 16, 2)) (hc : ct a15) (hr : rfv v) (kk : HW Z k n (pc + 2) (a0 :: a1 :: a2 :: a3 :: a4 :: a5 :: a6 :: a7 :: a8 :: a9 :: a10 :: a11 :: a12 :: a13 :: a14 :: a15 :: some (v) :: r) st μ) : HW Z k n pc (a0 :: a1 :: a2 :: a3 :: a4 :: a5 :: a6 :: a7 :: a8 :: a9 :: a10 :: a11 :: a12 :: a13 :: a14 :: a15 :: a16 :: r) (v :: st) μ := by
  obtain ⟨r9, rfl⟩ := hr.to
  exact h_astore_w (i := 16) (j := 0) C d (by simp) (ctp rfl hc) kk
theorem h_iinc_16 {Z : Zx} {own : String} {cc : ByteArray} {rf rc rs rl k n pc : Nat} {st : List Value} {μ : Mem} {a0 a1 a2 a3 a4 a5 a6 a7 a8 a9 a10 a11 a12 a13 a14 a15 : Option Value} {r : List (Option Value)} {x q : Int32} {z : Int} (C : Cx Z own cc rf rc rs rl) (d : decode cc pc = .ok (.iinc 16 z, 3)) (hq : Int32.ofInt z = q) (hc : ct a15) (kk : HW Z k n (pc + 3) (a0 :: a1 :: a2 :: a3 :: a4 :: a5 :: a6 :: a7 :: a8 :: a9 :: a10 :: a11 :: a12 :: a13 :: a14 :: a15 :: some (.int (x + q)) :: r) st μ) : HW Z k n pc (a0 :: a1 :: a2 :: a3 :: a4 :: a5 :: a6 :: a7 :: a8 :: a9 :: a10 :: a11 :: a12 :: a13 :: a14 :: a15 :: some (.int x) :: r) st μ := by
  exact h_iinc (i := 16) C d rfl (by rw [hq]) (by simp) (ctp rfl hc) kk
theorem h_lst_16 {Z : Zx} {own : String} {cc : ByteArray} {rf rc rs rl k n pc : Nat} {st : List Value} {μ : Mem} {a0 a1 a2 a3 a4 a5 a6 a7 a8 a9 a10 a11 a12 a13 a14 a15 a16 a17 : Option Value} {r : List (Option Value)} {x : Int64} (C : Cx Z own cc rf rc rs rl) (d : decode cc pc = .ok (.lstore 16, 2)) (hc : ct a15) (kk : HW Z k n (pc + 2) (a0 :: a1 :: a2 :: a3 :: a4 :: a5 :: a6 :: a7 :: a8 :: a9 :: a10 :: a11 :: a12 :: a13 :: a14 :: a15 :: some (.long x) :: none :: r) st μ) : HW Z k n pc (a0 :: a1 :: a2 :: a3 :: a4 :: a5 :: a6 :: a7 :: a8 :: a9 :: a10 :: a11 :: a12 :: a13 :: a14 :: a15 :: a16 :: a17 :: r) (.long x :: st) μ := by
  exact h_lstore_w (i := 16) (j := 0) C d (by simp) (ctp rfl hc) kk
theorem h_dst_16 {Z : Zx} {own : String} {cc : ByteArray} {rf rc rs rl k n pc : Nat} {st : List Value} {μ : Mem} {a0 a1 a2 a3 a4 a5 a6 a7 a8 a9 a10 a11 a12 a13 a14 a15 a16 a17 : Option Value} {r : List (Option Value)} {x : UInt64} (C : Cx Z own cc rf rc rs rl) (d : decode cc pc = .ok (.dstore 16, 2)) (hc : ct a15) (kk : HW Z k n (pc + 2) (a0 :: a1 :: a2 :: a3 :: a4 :: a5 :: a6 :: a7 :: a8 :: a9 :: a10 :: a11 :: a12 :: a13 :: a14 :: a15 :: some (.double x) :: none :: r) st μ) : HW Z k n pc (a0 :: a1 :: a2 :: a3 :: a4 :: a5 :: a6 :: a7 :: a8 :: a9 :: a10 :: a11 :: a12 :: a13 :: a14 :: a15 :: a16 :: a17 :: r) (.double x :: st) μ := by
  exact h_dstore_w (i := 16) (j := 0) C d (by simp) (ctp rfl hc) kk
theorem h_ist_17 {Z : Zx} {own : String} {cc : ByteArray} {rf rc rs rl k n pc : Nat} {st : List Value} {μ : Mem} {a0 a1 a2 a3 a4 a5 a6 a7 a8 a9 a10 a11 a12 a13 a14 a15 a16 a17 : Option Value} {r : List (Option Value)} {x : Int32} (C : Cx Z own cc rf rc rs rl) (d : decode cc pc = .ok (.istore 17, 2)) (hc : ct a16) (kk : HW Z k n (pc + 2) (a0 :: a1 :: a2 :: a3 :: a4 :: a5 :: a6 :: a7 :: a8 :: a9 :: a10 :: a11 :: a12 :: a13 :: a14 :: a15 :: a16 :: some (.int x) :: r) st μ) : HW Z k n pc (a0 :: a1 :: a2 :: a3 :: a4 :: a5 :: a6 :: a7 :: a8 :: a9 :: a10 :: a11 :: a12 :: a13 :: a14 :: a15 :: a16 :: a17 :: r) (.int x :: st) μ := by
  exact h_istore_w (i := 17) (j := 0) C d (by simp) (ctp rfl hc) kk
theorem h_ast_17 {Z : Zx} {own : String} {cc : ByteArray} {rf rc rs rl k n pc : Nat} {st : List Value} {μ : Mem} {a0 a1 a2 a3 a4 a5 a6 a7 a8 a9 a10 a11 a12 a13 a14 a15 a16 a17 : Option Value} {r : List (Option Value)} {v : Value} (C : Cx Z own cc rf rc rs rl) (d : decode cc pc = .ok (.astore 17, 2)) (hc : ct a16) (hr : rfv v) (kk : HW Z k n (pc + 2) (a0 :: a1 :: a2 :: a3 :: a4 :: a5 :: a6 :: a7 :: a8 :: a9 :: a10 :: a11 :: a12 :: a13 :: a14 :: a15 :: a16 :: some (v) :: r) st μ) : HW Z k n pc (a0 :: a1 :: a2 :: a3 :: a4 :: a5 :: a6 :: a7 :: a8 :: a9 :: a10 :: a11 :: a12 :: a13 :: a14 :: a15 :: a16 :: a17 :: r) (v :: st) μ := by
  obtain ⟨r9, rfl⟩ := hr.to
  exact h_astore_w (i := 17) (j := 0) C d (by simp) (ctp rfl hc) kk
theorem h_iinc_17 {Z : Zx} {own : String} {cc : ByteArray} {rf rc rs rl k n pc : Nat} {st : List Value} {μ : Mem} {a0 a1 a2 a3 a4 a5 a6 a7 a8 a9 a10 a11 a12 a13 a14 a15 a16 : Option Value} {r : List (Option Value)} {x q : Int32} {z : Int} (C : Cx Z own cc rf rc rs rl) (d : decode cc pc = .ok (.iinc 17 z, 3)) (hq : Int32.ofInt z = q) (hc : ct a16) (kk : HW Z k n (pc + 3) (a0 :: a1 :: a2 :: a3 :: a4 :: a5 :: a6 :: a7 :: a8 :: a9 :: a10 :: a11 :: a12 :: a13 :: a14 :: a15 :: a16 :: some (.int (x + q)) :: r) st μ) : HW Z k n pc (a0 :: a1 :: a2 :: a3 :: a4 :: a5 :: a6 :: a7 :: a8 :: a9 :: a10 :: a11 :: a12 :: a13 :: a14 :: a15 :: a16 :: some (.int x) :: r) st μ := by
  exact h_iinc (i := 17) C d rfl (by rw [hq]) (by simp) (ctp rfl hc) kk
theorem h_lst_17 {Z : Zx} {own : String} {cc : ByteArray} {rf rc rs rl k n pc : Nat} {st : List Value} {μ : Mem} {a0 a1 a2 a3 a4 a5 a6 a7 a8 a9 a10 a11 a12 a13 a14 a15 a16 a17 a18 : Option Value} {r : List (Option Value)} {x : Int64} (C : Cx Z own cc rf rc rs rl) (d : decode cc pc = .ok (.lstore 17, 2)) (hc : ct a16) (kk : HW Z k n (pc + 2) (a0 :: a1 :: a2 :: a3 :: a4 :: a5 :: a6 :: a7 :: a8 :: a9 :: a10 :: a11 :: a12 :: a13 :: a14 :: a15 :: a16 :: some (.long x) :: none :: r) st μ) : HW Z k n pc (a0 :: a1 :: a2 :: a3 :: a4 :: a5 :: a6 :: a7 :: a8 :: a9 :: a10 :: a11 :: a12 :: a13 :: a14 :: a15 :: a16 :: a17 :: a18 :: r) (.long x :: st) μ := by
  exact h_lstore_w (i := 17) (j := 0) C d (by simp) (ctp rfl hc) kk
theorem h_dst_17 {Z : Zx} {own : String} {cc : ByteArray} {rf rc rs rl k n pc : Nat} {st : List Value} {μ : Mem} {a0 a1 a2 a3 a4 a5 a6 a7 a8 a9 a10 a11 a12 a13 a14 a15 a16 a17 a18 : Option Value} {r : List (Option Value)} {x : UInt64} (C : Cx Z own cc rf rc rs rl) (d : decode cc pc = .ok (.dstore 17, 2)) (hc : ct a16) (kk : HW Z k n (pc + 2) (a0 :: a1 :: a2 :: a3 :: a4 :: a5 :: a6 :: a7 :: a8 :: a9 :: a10 :: a11 :: a12 :: a13 :: a14 :: a15 :: a16 :: some (.double x) :: none :: r) st μ) : HW Z k n pc (a0 :: a1 :: a2 :: a3 :: a4 :: a5 :: a6 :: a7 :: a8 :: a9 :: a10 :: a11 :: a12 :: a13 :: a14 :: a15 :: a16 :: a17 :: a18 :: r) (.double x :: st) μ := by
  exact h_dstore_w (i := 17) (j := 0) C d (by simp) (ctp rfl hc) kk
theorem h_ist_18 {Z : Zx} {own : String} {cc : ByteArray} {rf rc rs rl k n pc : Nat} {st : List Value} {μ : Mem} {a0 a1 a2 a3 a4 a5 a6 a7 a8 a9 a10 a11 a12 a13 a14 a15 a16 a17 a18 : Option Value} {r : List (Option Value)} {x : Int32} (C : Cx Z own cc rf rc rs rl) (d : decode cc pc = .ok (.istore 18, 2)) (hc : ct a17) (kk : HW Z k n (pc + 2) (a0 :: a1 :: a2 :: a3 :: a4 :: a5 :: a6 :: a7 :: a8 :: a9 :: a10 :: a11 :: a12 :: a13 :: a14 :: a15 :: a16 :: a17 :: some (.int x) :: r) st μ) : HW Z k n pc (a0 :: a1 :: a2 :: a3 :: a4 :: a5 :: a6 :: a7 :: a8 :: a9 :: a10 :: a11 :: a12 :: a13 :: a14 :: a15 :: a16 :: a17 :: a18 :: r) (.int x :: st) μ := by
  exact h_istore_w (i := 18) (j := 0) C d (by simp) (ctp rfl hc) kk
theorem h_ast_18 {Z : Zx} {own : String} {cc : ByteArray} {rf rc rs rl k n pc : Nat} {st : List Value} {μ : Mem} {a0 a1 a2 a3 a4 a5 a6 a7 a8 a9 a10 a11 a12 a13 a14 a15 a16 a17 a18 : Option Value} {r : List (Option Value)} {v : Value} (C : Cx Z own cc rf rc rs rl) (d : decode cc pc = .ok (.astore 18, 2)) (hc : ct a17) (hr : rfv v) (kk : HW Z k n (pc + 2) (a0 :: a1 :: a2 :: a3 :: a4 :: a5 :: a6 :: a7 :: a8 :: a9 :: a10 :: a11 :: a12 :: a13 :: a14 :: a15 :: a16 :: a17 :: some (v) :: r) st μ) : HW Z k n pc (a0 :: a1 :: a2 :: a3 :: a4 :: a5 :: a6 :: a7 :: a8 :: a9 :: a10 :: a11 :: a12 :: a13 :: a14 :: a15 :: a16 :: a17 :: a18 :: r) (v :: st) μ := by
  obtain ⟨r9, rfl⟩ := hr.to
  exact h_astore_w (i := 18) (j := 0) C d (by simp) (ctp rfl hc) kk
theorem h_iinc_18 {Z : Zx} {own : String} {cc : ByteArray} {rf rc rs rl k n pc : Nat} {st : List Value} {μ : Mem} {a0 a1 a2 a3 a4 a5 a6 a7 a8 a9 a10 a11 a12 a13 a14 a15 a16 a17 : Option Value} {r : List (Option Value)} {x q : Int32} {z : Int} (C : Cx Z own cc rf rc rs rl) (d : decode cc pc = .ok (.iinc 18 z, 3)) (hq : Int32.ofInt z = q) (hc : ct a17) (kk : HW Z k n (pc + 3) (a0 :: a1 :: a2 :: a3 :: a4 :: a5 :: a6 :: a7 :: a8 :: a9 :: a10 :: a11 :: a12 :: a13 :: a14 :: a15 :: a16 :: a17 :: some (.int (x + q)) :: r) st μ) : HW Z k n pc (a0 :: a1 :: a2 :: a3 :: a4 :: a5 :: a6 :: a7 :: a8 :: a9 :: a10 :: a11 :: a12 :: a13 :: a14 :: a15 :: a16 :: a17 :: some (.int x) :: r) st μ := by
  exact h_iinc (i := 18) C d rfl (by rw [hq]) (by simp) (ctp rfl hc) kk
theorem h_lst_18 {Z : Zx} {own : String} {cc : ByteArray} {rf rc rs rl k n pc : Nat} {st : List Value} {μ : Mem} {a0 a1 a2 a3 a4 a5 a6 a7 a8 a9 a10 a11 a12 a13 a14 a15 a16 a17 a18 a19 : Option Value} {r : List (Option Value)} {x : Int64} (C : Cx Z own cc rf rc rs rl) (d : decode cc pc = .ok (.lstore 18, 2)) (hc : ct a17) (kk : HW Z k n (pc + 2) (a0 :: a1 :: a2 :: a3 :: a4 :: a5 :: a6 :: a7 :: a8 :: a9 :: a10 :: a11 :: a12 :: a13 :: a14 :: a15 :: a16 :: a17 :: some (.long x) :: none :: r) st μ) : HW Z k n pc (a0 :: a1 :: a2 :: a3 :: a4 :: a5 :: a6 :: a7 :: a8 :: a9 :: a10 :: a11 :: a12 :: a13 :: a14 :: a15 :: a16 :: a17 :: a18 :: a19 :: r) (.long x :: st) μ := by
  exact h_lstore_w (i := 18) (j := 0) C d (by simp) (ctp rfl hc) kk
theorem h_dst_18 {Z : Zx} {own : String} {cc : ByteArray} {rf rc rs rl k n pc : Nat} {st : List Value} {μ : Mem} {a0 a1 a2 a3 a4 a5 a6 a7 a8 a9 a10 a11 a12 a13 a14 a15 a16 a17 a18 a19 : Option Value} {r : List (Option Value)} {x : UInt64} (C : Cx Z own cc rf rc rs rl) (d : decode cc pc = .ok (.dstore 18, 2)) (hc : ct a17) (kk : HW Z k n (pc + 2) (a0 :: a1 :: a2 :: a3 :: a4 :: a5 :: a6 :: a7 :: a8 :: a9 :: a10 :: a11 :: a12 :: a13 :: a14 :: a15 :: a16 :: a17 :: some (.double x) :: none :: r) st μ) : HW Z k n pc (a0 :: a1 :: a2 :: a3 :: a4 :: a5 :: a6 :: a7 :: a8 :: a9 :: a10 :: a11 :: a12 :: a13 :: a14 :: a15 :: a16 :: a17 :: a18 :: a19 :: r) (.double x :: st) μ := by
  exact h_dstore_w (i := 18) (j := 0) C d (by simp) (ctp rfl hc) kk
theorem h_ist_19 {Z : Zx} {own : String} {cc : ByteArray} {rf rc rs rl k n pc : Nat} {st : List Value} {μ : Mem} {a0 a1 a2 a3 a4 a5 a6 a7 a8 a9 a10 a11 a12 a13 a14 a15 a16 a17 a18 a19 : Option Value} {r : List (Option Value)} {x : Int32} (C : Cx Z own cc rf rc rs rl) (d : decode cc pc = .ok (.istore 19, 2)) (hc : ct a18) (kk : HW Z k n (pc + 2) (a0 :: a1 :: a2 :: a3 :: a4 :: a5 :: a6 :: a7 :: a8 :: a9 :: a10 :: a11 :: a12 :: a13 :: a14 :: a15 :: a16 :: a17 :: a18 :: some (.int x) :: r) st μ) : HW Z k n pc (a0 :: a1 :: a2 :: a3 :: a4 :: a5 :: a6 :: a7 :: a8 :: a9 :: a10 :: a11 :: a12 :: a13 :: a14 :: a15 :: a16 :: a17 :: a18 :: a19 :: r) (.int x :: st) μ := by
  exact h_istore_w (i := 19) (j := 0) C d (by simp) (ctp rfl hc) kk
theorem h_ast_19 {Z : Zx} {own : String} {cc : ByteArray} {rf rc rs rl k n pc : Nat} {st : List Value} {μ : Mem} {a0 a1 a2 a3 a4 a5 a6 a7 a8 a9 a10 a11 a12 a13 a14 a15 a16 a17 a18 a19 : Option Value} {r : List (Option Value)} {v : Value} (C : Cx Z own cc rf rc rs rl) (d : decode cc pc = .ok (.astore 19, 2)) (hc : ct a18) (hr : rfv v) (kk : HW Z k n (pc + 2) (a0 :: a1 :: a2 :: a3 :: a4 :: a5 :: a6 :: a7 :: a8 :: a9 :: a10 :: a11 :: a12 :: a13 :: a14 :: a15 :: a16 :: a17 :: a18 :: some (v) :: r) st μ) : HW Z k n pc (a0 :: a1 :: a2 :: a3 :: a4 :: a5 :: a6 :: a7 :: a8 :: a9 :: a10 :: a11 :: a12 :: a13 :: a14 :: a15 :: a16 :: a17 :: a18 :: a19 :: r) (v :: st) μ := by
  obtain ⟨r9, rfl⟩ := hr.to
  exact h_astore_w (i := 19) (j := 0) C d (by simp) (ctp rfl hc) kk
theorem h_iinc_19 {Z : Zx} {own : String} {cc : ByteArray} {rf rc rs rl k n pc : Nat} {st : List Value} {μ : Mem} {a0 a1 a2 a3 a4 a5 a6 a7 a8 a9 a10 a11 a12 a13 a14 a15 a16 a17 a18 : Option Value} {r : List (Option Value)} {x q : Int32} {z : Int} (C : Cx Z own cc rf rc rs rl) (d : decode cc pc = .ok (.iinc 19 z, 3)) (hq : Int32.ofInt z = q) (hc : ct a18) (kk : HW Z k n (pc + 3) (a0 :: a1 :: a2 :: a3 :: a4 :: a5 :: a6 :: a7 :: a8 :: a9 :: a10 :: a11 :: a12 :: a13 :: a14 :: a15 :: a16 :: a17 :: a18 :: some (.int (x + q)) :: r) st μ) : HW Z k n pc (a0 :: a1 :: a2 :: a3 :: a4 :: a5 :: a6 :: a7 :: a8 :: a9 :: a10 :: a11 :: a12 :: a13 :: a14 :: a15 :: a16 :: a17 :: a18 :: some (.int x) :: r) st μ := by
  exact h_iinc (i := 19) C d rfl (by rw [hq]) (by simp) (ctp rfl hc) kk
theorem h_lst_19 {Z : Zx} {own : String} {cc : ByteArray} {rf rc rs rl k n pc : Nat} {st : List Value} {μ : Mem} {a0 a1 a2 a3 a4 a5 a6 a7 a8 a9 a10 a11 a12 a13 a14 a15 a16 a17 a18 a19 a20 : Option Value} {r : List (Option Value)} {x : Int64} (C : Cx Z own cc rf rc rs rl) (d : decode cc pc = .ok (.lstore 19, 2)) (hc : ct a18) (kk : HW Z k n (pc + 2) (a0 :: a1 :: a2 :: a3 :: a4 :: a5 :: a6 :: a7 :: a8 :: a9 :: a10 :: a11 :: a12 :: a13 :: a14 :: a15 :: a16 :: a17 :: a18 :: some (.long x) :: none :: r) st μ) : HW Z k n pc (a0 :: a1 :: a2 :: a3 :: a4 :: a5 :: a6 :: a7 :: a8 :: a9 :: a10 :: a11 :: a12 :: a13 :: a14 :: a15 :: a16 :: a17 :: a18 :: a19 :: a20 :: r) (.long x :: st) μ := by
  exact h_lstore_w (i := 19) (j := 0) C d (by simp) (ctp rfl hc) kk
theorem h_dst_19 {Z : Zx} {own : String} {cc : ByteArray} {rf rc rs rl k n pc : Nat} {st : List Value} {μ : Mem} {a0 a1 a2 a3 a4 a5 a6 a7 a8 a9 a10 a11 a12 a13 a14 a15 a16 a17 a18 a19 a20 : Option Value} {r : List (Option Value)} {x : UInt64} (C : Cx Z own cc rf rc rs rl) (d : decode cc pc = .ok (.dstore 19, 2)) (hc : ct a18) (kk : HW Z k n (pc + 2) (a0 :: a1 :: a2 :: a3 :: a4 :: a5 :: a6 :: a7 :: a8 :: a9 :: a10 :: a11 :: a12 :: a13 :: a14 :: a15 :: a16 :: a17 :: a18 :: some (.double x) :: none :: r) st μ) : HW Z k n pc (a0 :: a1 :: a2 :: a3 :: a4 :: a5 :: a6 :: a7 :: a8 :: a9 :: a10 :: a11 :: a12 :: a13 :: a14 :: a15 :: a16 :: a17 :: a18 :: a19 :: a20 :: r) (.double x :: st) μ := by
  exact h_dstore_w (i := 19) (j := 0) C d (by simp) (ctp rfl hc) kk
theorem h_ist_20 {Z : Zx} {own : String} {cc : ByteArray} {rf rc rs rl k n pc : Nat} {st : List Value} {μ : Mem} {a0 a1 a2 a3 a4 a5 a6 a7 a8 a9 a10 a11 a12 a13 a14 a15 a16 a17 a18 a19 a20 : Option Value} {r : List (Option Value)} {x : Int32} (C : Cx Z own cc rf rc rs rl) (d : decode cc pc = .ok (.istore 20, 2)) (hc : ct a19) (kk : HW Z k n (pc + 2) (a0 :: a1 :: a2 :: a3 :: a4 :: a5 :: a6 :: a7 :: a8 :: a9 :: a10 :: a11 :: a12 :: a13 :: a14 :: a15 :: a16 :: a17 :: a18 :: a19 :: some (.int x) :: r) st μ) : HW Z k n pc (a0 :: a1 :: a2 :: a3 :: a4 :: a5 :: a6 :: a7 :: a8 :: a9 :: a10 :: a11 :: a12 :: a13 :: a14 :: a15 :: a16 :: a17 :: a18 :: a19 :: a20 :: r) (.int x :: st) μ := by
  exact h_istore_w (i := 20) (j := 0) C d (by simp) (ctp rfl hc) kk
theorem h_ast_20 {Z : Zx} {own : String} {cc : ByteArray} {rf rc rs rl k n pc : Nat} {st : List Value} {μ : Mem} {a0 a1 a2 a3 a4 a5 a6 a7 a8 a9 a10 a11 a12 a13 a14 a15 a16 a17 a18 a19 a20 : Option Value} {r : List (Option Value)} {v : Value} (C : Cx Z own cc rf rc rs rl) (d : decode cc pc = .ok (.astore 20, 2)) (hc : ct a19) (hr : rfv v) (kk : HW Z k n (pc + 2) (a0 :: a1 :: a2 :: a3 :: a4 :: a5 :: a6 :: a7 :: a8 :: a9 :: a10 :: a11 :: a12 :: a13 :: a14 :: a15 :: a16 :: a17 :: a18 :: a19 :: some (v) :: r) st μ) : HW Z k n pc (a0 :: a1 :: a2 :: a3 :: a4 :: a5 :: a6 :: a7 :: a8 :: a9 :: a10 :: a11 :: a12 :: a13 :: a14 :: a15 :: a16 :: a17 :: a18 :: a19 :: a20 :: r) (v :: st) μ := by
  obtain ⟨r9, rfl⟩ := hr.to
  exact h_astore_w (i := 20) (j := 0) C d (by simp) (ctp rfl hc) kk
theorem h_iinc_20 {Z : Zx} {own : String} {cc : ByteArray} {rf rc rs rl k n pc : Nat} {st : List Value} {μ : Mem} {a0 a1 a2 a3 a4 a5 a6 a7 a8 a9 a10 a11 a12 a13 a14 a15 a16 a17 a18 a19 : Option Value} {r : List (Option Value)} {x q : Int32} {z : Int} (C : Cx Z own cc rf rc rs rl) (d : decode cc pc = .ok (.iinc 20 z, 3)) (hq : Int32.ofInt z = q) (hc : ct a19) (kk : HW Z k n (pc + 3) (a0 :: a1 :: a2 :: a3 :: a4 :: a5 :: a6 :: a7 :: a8 :: a9 :: a10 :: a11 :: a12 :: a13 :: a14 :: a15 :: a16 :: a17 :: a18 :: a19 :: some (.int (x + q)) :: r) st μ) : HW Z k n pc (a0 :: a1 :: a2 :: a3 :: a4 :: a5 :: a6 :: a7 :: a8 :: a9 :: a10 :: a11 :: a12 :: a13 :: a14 :: a15 :: a16 :: a17 :: a18 :: a19 :: some (.int x) :: r) st μ := by
  exact h_iinc (i := 20) C d rfl (by rw [hq]) (by simp) (ctp rfl hc) kk
theorem h_lst_20 {Z : Zx} {own : String} {cc : ByteArray} {rf rc rs rl k n pc : Nat} {st : List Value} {μ : Mem} {a0 a1 a2 a3 a4 a5 a6 a7 a8 a9 a10 a11 a12 a13 a14 a15 a16 a17 a18 a19 a20 a21 : Option Value} {r : List (Option Value)} {x : Int64} (C : Cx Z own cc rf rc rs rl) (d : decode cc pc = .ok (.lstore 20, 2)) (hc : ct a19) (kk : HW Z k n (pc + 2) (a0 :: a1 :: a2 :: a3 :: a4 :: a5 :: a6 :: a7 :: a8 :: a9 :: a10 :: a11 :: a12 :: a13 :: a14 :: a15 :: a16 :: a17 :: a18 :: a19 :: some (.long x) :: none :: r) st μ) : HW Z k n pc (a0 :: a1 :: a2 :: a3 :: a4 :: a5 :: a6 :: a7 :: a8 :: a9 :: a10 :: a11 :: a12 :: a13 :: a14 :: a15 :: a16 :: a17 :: a18 :: a19 :: a20 :: a21 :: r) (.long x :: st) μ := by
  exact h_lstore_w (i := 20) (j := 0) C d (by simp) (ctp rfl hc) kk
theorem h_dst_20 {Z : Zx} {own : String} {cc : ByteArray} {rf rc rs rl k n pc : Nat} {st : List Value} {μ : Mem} {a0 a1 a2 a3 a4 a5 a6 a7 a8 a9 a10 a11 a12 a13 a14 a15 a16 a17 a18 a19 a20 a21 : Option Value} {r : List (Option Value)} {x : UInt64} (C : Cx Z own cc rf rc rs rl) (d : decode cc pc = .ok (.dstore 20, 2)) (hc : ct a19) (kk : HW Z k n (pc + 2) (a0 :: a1 :: a2 :: a3 :: a4 :: a5 :: a6 :: a7 :: a8 :: a9 :: a10 :: a11 :: a12 :: a13 :: a14 :: a15 :: a16 :: a17 :: a18 :: a19 :: some (.double x) :: none :: r) st μ) : HW Z k n pc (a0 :: a1 :: a2 :: a3 :: a4 :: a5 :: a6 :: a7 :: a8 :: a9 :: a10 :: a11 :: a12 :: a13 :: a14 :: a15 :: a16 :: a17 :: a18 :: a19 :: a20 :: a21 :: r) (.double x :: st) μ := by
  exact h_dstore_w (i := 20) (j := 0) C d (by simp) (ctp rfl hc) kk
theorem h_ist_21 {Z : Zx} {own : String} {cc : ByteArray} {rf rc rs rl k n pc : Nat} {st : List Value} {μ : Mem} {a0 a1 a2 a3 a4 a5 a6 a7 a8 a9 a10 a11 a12 a13 a14 a15 a16 a17 a18 a19 a20 a21 : Option Value} {r : List (Option Value)} {x : Int32} (C : Cx Z own cc rf rc rs rl) (d : decode cc pc = .ok (.istore 21, 2)) (hc : ct a20) (kk : HW Z k n (pc + 2) (a0 :: a1 :: a2 :: a3 :: a4 :: a5 :: a6 :: a7 :: a8 :: a9 :: a10 :: a11 :: a12 :: a13 :: a14 :: a15 :: a16 :: a17 :: a18 :: a19 :: a20 :: some (.int x) :: r) st μ) : HW Z k n pc (a0 :: a1 :: a2 :: a3 :: a4 :: a5 :: a6 :: a7 :: a8 :: a9 :: a10 :: a11 :: a12 :: a13 :: a14 :: a15 :: a16 :: a17 :: a18 :: a19 :: a20 :: a21 :: r) (.int x :: st) μ := by
  exact h_istore_w (i := 21) (j := 0) C d (by simp) (ctp rfl hc) kk
theorem h_ast_21 {Z : Zx} {own : String} {cc : ByteArray} {rf rc rs rl k n pc : Nat} {st : List Value} {μ : Mem} {a0 a1 a2 a3 a4 a5 a6 a7 a8 a9 a10 a11 a12 a13 a14 a15 a16 a17 a18 a19 a20 a21 : Option Value} {r : List (Option Value)} {v : Value} (C : Cx Z own cc rf rc rs rl) (d : decode cc pc = .ok (.astore 21, 2)) (hc : ct a20) (hr : rfv v) (kk : HW Z k n (pc + 2) (a0 :: a1 :: a2 :: a3 :: a4 :: a5 :: a6 :: a7 :: a8 :: a9 :: a10 :: a11 :: a12 :: a13 :: a14 :: a15 :: a16 :: a17 :: a18 :: a19 :: a20 :: some (v) :: r) st μ) : HW Z k n pc (a0 :: a1 :: a2 :: a3 :: a4 :: a5 :: a6 :: a7 :: a8 :: a9 :: a10 :: a11 :: a12 :: a13 :: a14 :: a15 :: a16 :: a17 :: a18 :: a19 :: a20 :: a21 :: r) (v :: st) μ := by
  obtain ⟨r9, rfl⟩ := hr.to
  exact h_astore_w (i := 21) (j := 0) C d (by simp) (ctp rfl hc) kk
theorem h_iinc_21 {Z : Zx} {own : String} {cc : ByteArray} {rf rc rs rl k n pc : Nat} {st : List Value} {μ : Mem} {a0 a1 a2 a3 a4 a5 a6 a7 a8 a9 a10 a11 a12 a13 a14 a15 a16 a17 a18 a19 a20 : Option Value} {r : List (Option Value)} {x q : Int32} {z : Int} (C : Cx Z own cc rf rc rs rl) (d : decode cc pc = .ok (.iinc 21 z, 3)) (hq : Int32.ofInt z = q) (hc : ct a20) (kk : HW Z k n (pc + 3) (a0 :: a1 :: a2 :: a3 :: a4 :: a5 :: a6 :: a7 :: a8 :: a9 :: a10 :: a11 :: a12 :: a13 :: a14 :: a15 :: a16 :: a17 :: a18 :: a19 :: a20 :: some (.int (x + q)) :: r) st μ) : HW Z k n pc (a0 :: a1 :: a2 :: a3 :: a4 :: a5 :: a6 :: a7 :: a8 :: a9 :: a10 :: a11 :: a12 :: a13 :: a14 :: a15 :: a16 :: a17 :: a18 :: a19 :: a20 :: some (.int x) :: r) st μ := by
  exact h_iinc (i := 21) C d rfl (by rw [hq]) (by simp) (ctp rfl hc) kk
theorem h_lst_21 {Z : Zx} {own : String} {cc : ByteArray} {rf rc rs rl k n pc : Nat} {st : List Value} {μ : Mem} {a0 a1 a2 a3 a4 a5 a6 a7 a8 a9 a10 a11 a12 a13 a14 a15 a16 a17 a18 a19 a20 a21 a22 : Option Value} {r : List (Option Value)} {x : Int64} (C : Cx Z own cc rf rc rs rl) (d : decode cc pc = .ok (.lstore 21, 2)) (hc : ct a20) (kk : HW Z k n (pc + 2) (a0 :: a1 :: a2 :: a3 :: a4 :: a5 :: a6 :: a7 :: a8 :: a9 :: a10 :: a11 :: a12 :: a13 :: a14 :: a15 :: a16 :: a17 :: a18 :: a19 :: a20 :: some (.long x) :: none :: r) st μ) : HW Z k n pc (a0 :: a1 :: a2 :: a3 :: a4 :: a5 :: a6 :: a7 :: a8 :: a9 :: a10 :: a11 :: a12 :: a13 :: a14 :: a15 :: a16 :: a17 :: a18 :: a19 :: a20 :: a21 :: a22 :: r) (.long x :: st) μ := by
  exact h_lstore_w (i := 21) (j := 0) C d (by simp) (ctp rfl hc) kk
theorem h_dst_21 {Z : Zx} {own : String} {cc : ByteArray} {rf rc rs rl k n pc : Nat} {st : List Value} {μ : Mem} {a0 a1 a2 a3 a4 a5 a6 a7 a8 a9 a10 a11 a12 a13 a14 a15 a16 a17 a18 a19 a20 a21 a22 : Option Value} {r : List (Option Value)} {x : UInt64} (C : Cx Z own cc rf rc rs rl) (d : decode cc pc = .ok (.dstore 21, 2)) (hc : ct a20) (kk : HW Z k n (pc + 2) (a0 :: a1 :: a2 :: a3 :: a4 :: a5 :: a6 :: a7 :: a8 :: a9 :: a10 :: a11 :: a12 :: a13 :: a14 :: a15 :: a16 :: a17 :: a18 :: a19 :: a20 :: some (.double x) :: none :: r) st μ) : HW Z k n pc (a0 :: a1 :: a2 :: a3 :: a4 :: a5 :: a6 :: a7 :: a8 :: a9 :: a10 :: a11 :: a12 :: a13 :: a14 :: a15 :: a16 :: a17 :: a18 :: a19 :: a20 :: a21 :: a22 :: r) (.double x :: st) μ := by
  exact h_dstore_w (i := 21) (j := 0) C d (by simp) (ctp rfl hc) kk
theorem h_ist_22 {Z : Zx} {own : String} {cc : ByteArray} {rf rc rs rl k n pc : Nat} {st : List Value} {μ : Mem} {a0 a1 a2 a3 a4 a5 a6 a7 a8 a9 a10 a11 a12 a13 a14 a15 a16 a17 a18 a19 a20 a21 a22 : Option Value} {r : List (Option Value)} {x : Int32} (C : Cx Z own cc rf rc rs rl) (d : decode cc pc = .ok (.istore 22, 2)) (hc : ct a21) (kk : HW Z k n (pc + 2) (a0 :: a1 :: a2 :: a3 :: a4 :: a5 :: a6 :: a7 :: a8 :: a9 :: a10 :: a11 :: a12 :: a13 :: a14 :: a15 :: a16 :: a17 :: a18 :: a19 :: a20 :: a21 :: some (.int x) :: r) st μ) : HW Z k n pc (a0 :: a1 :: a2 :: a3 :: a4 :: a5 :: a6 :: a7 :: a8 :: a9 :: a10 :: a11 :: a12 :: a13 :: a14 :: a15 :: a16 :: a17 :: a18 :: a19 :: a20 :: a21 :: a22 :: r) (.int x :: st) μ := by
  exact h_istore_w (i := 22) (j := 0) C d (by simp) (ctp rfl hc) kk
theorem h_ast_22 {Z : Zx} {own : String} {cc : ByteArray} {rf rc rs rl k n pc : Nat} {st : List Value} {μ : Mem} {a0 a1 a2 a3 a4 a5 a6 a7 a8 a9 a10 a11 a12 a13 a14 a15 a16 a17 a18 a19 a20 a21 a22 : Option Value} {r : List (Option Value)} {v : Value} (C : Cx Z own cc rf rc rs rl) (d : decode cc pc = .ok (.astore 22, 2)) (hc : ct a21) (hr : rfv v) (kk : HW Z k n (pc + 2) (a0 :: a1 :: a2 :: a3 :: a4 :: a5 :: a6 :: a7 :: a8 :: a9 :: a10 :: a11 :: a12 :: a13 :: a14 :: a15 :: a16 :: a17 :: a18 :: a19 :: a20 :: a21 :: some (v) :: r) st μ) : HW Z k n pc (a0 :: a1 :: a2 :: a3 :: a4 :: a5 :: a6 :: a7 :: a8 :: a9 :: a10 :: a11 :: a12 :: a13 :: a14 :: a15 :: a16 :: a17 :: a18 :: a19 :: a20 :: a21 :: a22 :: r) (v :: st) μ := by
  obtain ⟨r9, rfl⟩ := hr.to
  exact h_astore_w (i := 22) (j := 0) C d (by simp) (ctp rfl hc) kk
theorem h_iinc_22 {Z : Zx} {own : String} {cc : ByteArray} {rf rc rs rl k n pc : Nat} {st : List Value} {μ : Mem} {a0 a1 a2 a3 a4 a5 a6 a7 a8 a9 a10 a11 a12 a13 a14 a15 a16 a17 a18 a19 a20 a21 : Option Value} {r : List (Option Value)} {x q : Int32} {z : Int} (C : Cx Z own cc rf rc rs rl) (d : decode cc pc = .ok (.iinc 22 z, 3)) (hq : Int32.ofInt z = q) (hc : ct a21) (kk : HW Z k n (pc + 3) (a0 :: a1 :: a2 :: a3 :: a4 :: a5 :: a6 :: a7 :: a8 :: a9 :: a10 :: a11 :: a12 :: a13 :: a14 :: a15 :: a16 :: a17 :: a18 :: a19 :: a20 :: a21 :: some (.int (x + q)) :: r) st μ) : HW Z k n pc (a0 :: a1 :: a2 :: a3 :: a4 :: a5 :: a6 :: a7 :: a8 :: a9 :: a10 :: a11 :: a12 :: a13 :: a14 :: a15 :: a16 :: a17 :: a18 :: a19 :: a20 :: a21 :: some (.int x) :: r) st μ := by
  exact h_iinc (i := 22) C d rfl (by rw [hq]) (by simp) (ctp rfl hc) kk
theorem h_lst_22 {Z : Zx} {own : String} {cc : ByteArray} {rf rc rs rl k n pc : Nat} {st : List Value} {μ : Mem} {a0 a1 a2 a3 a4 a5 a6 a7 a8 a9 a10 a11 a12 a13 a14 a15 a16 a17 a18 a19 a20 a21 a22 a23 : Option Value} {r : List (Option Value)} {x : Int64} (C : Cx Z own cc rf rc rs rl) (d : decode cc pc = .ok (.lstore 22, 2)) (hc : ct a21) (kk : HW Z k n (pc + 2) (a0 :: a1 :: a2 :: a3 :: a4 :: a5 :: a6 :: a7 :: a8 :: a9 :: a10 :: a11 :: a12 :: a13 :: a14 :: a15 :: a16 :: a17 :: a18 :: a19 :: a20 :: a21 :: some (.long x) :: none :: r) st μ) : HW Z k n pc (a0 :: a1 :: a2 :: a3 :: a4 :: a5 :: a6 :: a7 :: a8 :: a9 :: a10 :: a11 :: a12 :: a13 :: a14 :: a15 :: a16 :: a17 :: a18 :: a19 :: a20 :: a21 :: a22 :: a23 :: r) (.long x :: st) μ := by
  exact h_lstore_w (i := 22) (j := 0) C d (by simp) (ctp rfl hc) kk
theorem h_dst_22 {Z : Zx} {own : String} {cc : ByteArray} {rf rc rs rl k n pc : Nat} {st : List Value} {μ : Mem} {a0 a1 a2 a3 a4 a5 a6 a7 a8 a9 a10 a11 a12 a13 a14 a15 a16 a17 a18 a19 a20 a21 a22 a23 : Option Value} {r : List (Option Value)} {x : UInt64} (C : Cx Z own cc rf rc rs rl) (d : decode cc pc = .ok (.dstore 22, 2)) (hc : ct a21) (kk : HW Z k n (pc + 2) (a0 :: a1 :: a2 :: a3 :: a4 :: a5 :: a6 :: a7 :: a8 :: a9 :: a10 :: a11 :: a12 :: a13 :: a14 :: a15 :: a16 :: a17 :: a18 :: a19 :: a20 :: a21 :: some (.double x) :: none :: r) st μ) : HW Z k n pc (a0 :: a1 :: a2 :: a3 :: a4 :: a5 :: a6 :: a7 :: a8 :: a9 :: a10 :: a11 :: a12 :: a13 :: a14 :: a15 :: a16 :: a17 :: a18 :: a19 :: a20 :: a21 :: a22 :: a23 :: r) (.double x :: st) μ := by
  exact h_dstore_w (i := 22) (j := 0) C d (by simp) (ctp rfl hc) kk
theorem h_ist_23 {Z : Zx} {own : String} {cc : ByteArray} {rf rc rs rl k n pc : Nat} {st : List Value} {μ : Mem} {a0 a1 a2 a3 a4 a5 a6 a7 a8 a9 a10 a11 a12 a13 a14 a15 a16 a17 a18 a19 a20 a21 a22 a23 : Option Value} {r : List (Option Value)} {x : Int32} (C : Cx Z own cc rf rc rs rl) (d : decode cc pc = .ok (.istore 23, 2)) (hc : ct a22) (kk : HW Z k n (pc + 2) (a0 :: a1 :: a2 :: a3 :: a4 :: a5 :: a6 :: a7 :: a8 :: a9 :: a10 :: a11 :: a12 :: a13 :: a14 :: a15 :: a16 :: a17 :: a18 :: a19 :: a20 :: a21 :: a22 :: some (.int x) :: r) st μ) : HW Z k n pc (a0 :: a1 :: a2 :: a3 :: a4 :: a5 :: a6 :: a7 :: a8 :: a9 :: a10 :: a11 :: a12 :: a13 :: a14 :: a15 :: a16 :: a17 :: a18 :: a19 :: a20 :: a21 :: a22 :: a23 :: r) (.int x :: st) μ := by
  exact h_istore_w (i := 23) (j := 0) C d (by simp) (ctp rfl hc) kk
theorem h_ast_23 {Z : Zx} {own : String} {cc : ByteArray} {rf rc rs rl k n pc : Nat} {st : List Value} {μ : Mem} {a0 a1 a2 a3 a4 a5 a6 a7 a8 a9 a10 a11 a12 a13 a14 a15 a16 a17 a18 a19 a20 a21 a22 a23 : Option Value} {r : List (Option Value)} {v : Value} (C : Cx Z own cc rf rc rs rl) (d : decode cc pc = .ok (.astore 23, 2)) (hc : ct a22) (hr : rfv v) (kk : HW Z k n (pc + 2) (a0 :: a1 :: a2 :: a3 :: a4 :: a5 :: a6 :: a7 :: a8 :: a9 :: a10 :: a11 :: a12 :: a13 :: a14 :: a15 :: a16 :: a17 :: a18 :: a19 :: a20 :: a21 :: a22 :: some (v) :: r) st μ) : HW Z k n pc (a0 :: a1 :: a2 :: a3 :: a4 :: a5 :: a6 :: a7 :: a8 :: a9 :: a10 :: a11 :: a12 :: a13 :: a14 :: a15 :: a16 :: a17 :: a18 :: a19 :: a20 :: a21 :: a22 :: a23 :: r) (v :: st) μ := by
  obtain ⟨r9, rfl⟩ := hr.to
  exact h_astore_w (i := 23) (j := 0) C d (by simp) (ctp rfl hc) kk
theorem h_iinc_23 {Z : Zx} {own : String} {cc : ByteArray} {rf rc rs rl k n pc : Nat} {st : List Value} {μ : Mem} {a0 a1 a2 a3 a4 a5 a6 a7 a8 a9 a10 a11 a12 a13 a14 a15 a16 a17 a18 a19 a20 a21 a22 : Option Value} {r : List (Option Value)} {x q : Int32} {z : Int} (C : Cx Z own cc rf rc rs rl) (d : decode cc pc = .ok (.iinc 23 z, 3)) (hq : Int32.ofInt z = q) (hc : ct a22) (kk : HW Z k n (pc + 3) (a0 :: a1 :: a2 :: a3 :: a4 :: a5 :: a6 :: a7 :: a8 :: a9 :: a10 :: a11 :: a12 :: a13 :: a14 :: a15 :: a16 :: a17 :: a18 :: a19 :: a20 :: a21 :: a22 :: some (.int (x + q)) :: r) st μ) : HW Z k n pc (a0 :: a1 :: a2 :: a3 :: a4 :: a5 :: a6 :: a7 :: a8 :: a9 :: a10 :: a11 :: a12 :: a13 :: a14 :: a15 :: a16 :: a17 :: a18 :: a19 :: a20 :: a21 :: a22 :: some (.int x) :: r) st μ := by
  exact h_iinc (i := 23) C d rfl (by rw [hq]) (by simp) (ctp rfl hc) kk
end
