section
theorem okJ.net {H : GhH} {R : GhR} {d : Nat} {S : Sx} {l : List Row} (h : okJ H R d S) (hl : ∀ g ∈ l, g ∈ S.nt) : okJ H R d (S.sNt l) := ⟨h.1, h.2.1, h.2.2.1, fun g hg => h.2.2.2 g (hl g hg)⟩
theorem w2_some {f : Nat → Nat → Option Row} {a b i j : Nat} {r : Row} (h : w2 f a b none i j = some r) : f i j = some r ∧ ¬ (i = a ∧ j = b) := by
  by_cases p : i = a ∧ j = b
  · obtain ⟨rfl, rfl⟩ := p
    rw [w2_eq] at h
    cases h
  · rw [w2_ne p] at h
    exact ⟨h, p⟩
theorem okJ.noFl {H : GhH} {R : GhR} {d : Nat} {S : Sx} {a b : Nat} (h : okJ H R d S) : okJ H R d (S.sFl a b none) := by
  obtain ⟨h1, ⟨f1, f2, f3, f4⟩, h3, h4⟩ := h
  refine ⟨h1, ⟨fun a9 b9 f ha hb q => ?_, f2, f3, fun a9 b9 f e9 b8 w9 r9 ha9 hb9 he9 hb8 hw9 hf h9 => ?_⟩, h3, h4⟩
  · have q : w2 S.fl a b none a9 b9 = some f := q
    exact f1 a9 b9 f ha hb (w2_some q).1
  · have hf : w2 S.fl a b none a9 b9 = some f := hf
    exact f4 a9 b9 f e9 b8 w9 r9 ha9 hb9 he9 hb8 hw9 (w2_some hf).1 h9
/-- a session moves over to another seat -/
theorem shift_key {S : Sx} {a b i j e9 b9 w9 : Nat} {r9 : Ses} (q : ((S.sSes a b i (S.ses a b j)).sSes a b j none).ses e9 b9 w9 = some r9) : (e9 = a ∧ b9 = b ∧ w9 = i ∧ S.ses a b j = some r9) ∨ (¬ (e9 = a ∧ b9 = b ∧ w9 = i) ∧ ¬ (e9 = a ∧ b9 = b ∧ w9 = j) ∧ S.ses e9 b9 w9 = some r9) := by
  have q : w3 (w3 S.ses a b i (S.ses a b j)) a b j none e9 b9 w9 = some r9 := q
  by_cases p : e9 = a ∧ b9 = b ∧ w9 = j
  · obtain ⟨rfl, rfl, rfl⟩ := p
    rw [w3_eq] at q
    cases q
  · rw [w3_ne p] at q
    by_cases p9 : e9 = a ∧ b9 = b ∧ w9 = i
    · obtain ⟨rfl, rfl, rfl⟩ := p9
      rw [w3_eq] at q
      exact Or.inl ⟨rfl, rfl, rfl, q⟩
    · rw [w3_ne p9] at q
      exact Or.inr ⟨p9, p, q⟩
theorem okJ.shift {H : GhH} {R : GhR} {d : Nat} {S : Sx} {a b i j : Nat} (h : okJ H R d S) (hj : j < 3) : okJ H R d ((S.sSes a b i (S.ses a b j)).sSes a b j none) := by
  obtain ⟨h1, ⟨f1, f2, f3, f4⟩, h3, h4⟩ := h
  refine ⟨h1, ⟨f1, fun e9 b9 w9 r9 he hb hw q => ?_, fun e9 b9 w9 e8 b8 w8 r9 r8 he hb hw he8 hb8 hw8 q q8 h0 => ?_, fun a9 b9 f e9 b8 w9 r9 ha9 hb9 he9 hb8 hw9 hf q => ?_⟩, h3, h4⟩
  · rcases shift_key q with ⟨rfl, rfl, -, y⟩ | ⟨-, -, y⟩
    · exact f2 _ _ j _ he hb hj y
    · exact f2 _ _ _ _ he hb hw y
  · rcases shift_key q with ⟨p1, p2, p3, y⟩ | ⟨p1, p2, y⟩
    · rcases shift_key q8 with ⟨o1, o2, o3, y8⟩ | ⟨o1, o2, y8⟩
      · exact ⟨p1.trans o1.symm, p2.trans o2.symm, p3.trans o3.symm⟩
      · have z := f3 _ _ _ _ _ _ _ _ (by omega) (by omega) hj he8 hb8 hw8 y y8 h0
        exact absurd ⟨z.1.symm, z.2.1.symm, z.2.2.symm⟩ o2
    · rcases shift_key q8 with ⟨o1, o2, o3, y8⟩ | ⟨o1, o2, y8⟩
      · have z := f3 _ _ _ _ _ _ _ _ he hb hw (by omega) (by omega) hj y y8 h0
        exact absurd z p2
      · exact f3 _ _ _ _ _ _ _ _ he hb hw he8 hb8 hw8 y y8 h0
  · rcases shift_key q with ⟨p1, p2, -, y⟩ | ⟨-, -, y⟩
    · exact f4 _ _ _ _ _ j _ ha9 hb9 (by omega) (by omega) hj hf y
    · exact f4 _ _ _ _ _ _ _ ha9 hb9 he9 hb8 hw9 hf y
theorem okJ.seat {H : GhH} {R : GhR} {d : Nat} {S : Sx} {a b w : Nat} {v : Option Ses} (h : okJ H R d S) (hv : ∀ r', v = some r' → a ≠ b ∧ (SeR R a b r' ∨ SeI R a b r') ∧ SAL r' ∧ okTk r' ∧ 0 ≤ (r'.1 5).toInt ∧ (∀ e9 b9 w9 r9, e9 < 3 → b9 < 3 → w9 < 3 → ¬ (e9 = a ∧ b9 = b ∧ w9 = w) → S.ses e9 b9 w9 = some r9 → ¬ r9.1 0 = r'.1 0) ∧ ∀ a9 b9 f, a9 < 3 → b9 < 3 → S.fl a9 b9 = some f → ¬ f 0 = r'.1 0) : okJ H R d (S.sSes a b w v) := ⟨h.1, G2.seat h.2.1 hv, h.2.2.1, h.2.2.2⟩
theorem okJ.pro {H : GhH} {R : GhR} {d : Nat} {S : Sx} {a b : Nat} (h : okJ H R d S) : okJ H R d (PRO S a b) := by
  have h1 := okJ.shift (a := a) (b := b) (i := 0) (j := 1) h (by decide)
  have h2 := okJ.shift (a := a) (b := b) (i := 1) (j := 2) h1 (by decide)
  have e : ((S.sSes a b 0 (S.ses a b 1)).sSes a b 1 none).ses a b 2 = S.ses a b 2 := by
    show w3 (w3 S.ses a b 0 (S.ses a b 1)) a b 1 none a b 2 = S.ses a b 2
    rw [w3_ne (fun q => absurd q.2.2 (by decide)), w3_ne (fun q => absurd q.2.2 (by decide))]
  rw [e, sSes_sSes] at h2
  exact h2
theorem okJ.swt {H : GhH} {R : GhR} {d a b : Nat} (ha : a < 3) (hb : b < 3) : ∀ (m : Nat) (S : Sx), okJ H R d S → okJ H R d (SWT a b m S)
  | 0, S, h => h
  | m + 1, S, h => by
    unfold SWT
    split
    · exact h
    · rename_i r hu
      split
      · exact h
      · rename_i p ps hw
        obtain ⟨u1, u2⟩ := USE_5 hu
        have q := h.2.2.1.2.2.2.2.2.2.1 a b ha hb
        rw [hw] at q
        have q1 := q.1
        rw [List.length_cons] at q1
        exact okJ.swt ha hb m _ (okJ.data (okJ.wait h (by omega) (fun p9 hm => q.2 p9 (List.mem_cons_of_mem _ hm))) ha hb u1 u2 (Or.inr (q.2 p List.mem_cons_self)))
theorem okJ.trb {H : GhH} {R : GhR} {d : Nat} {S : Sx} {e b n h a9 b9 : Nat} {f g : Row} (hJ : okJ H R d S) (he : e < 3) (hb : b < 3) (hf : S.fl e b = some f) (h0 : f 0 = g 4) (q1 : R n = some (h, b9, a9)) (q3 : g 3 = nI n) (q4 : g 4 = nI h) (q5 : g 5 = nI (PW 7 (SEC n))) : okJ H R d (TRB S e b f g) := by
  obtain ⟨i, s, y1, y2, y3⟩ := hJ.2.1.1 e b f he hb hf
  obtain ⟨hN, -, -⟩ := hJ.2.2.1.hn
  have z := hJ.1.1 _ _ _ _ y1
  obtain ⟨z1, z2, z3, s9, z4, z5⟩ := hJ.1.2.1 _ _ _ _ q1
  have z6 := hJ.1.1 _ _ _ _ z4
  have ei : i = h := nI_ij (by omega) (by omega) (y2.symm.trans (h0.trans q4))
  subst ei
  have ee := Option.some.inj (y1.symm.trans z4)
  have e1 : e = a9 := congrArg (fun x => x.1) ee
  have e2 : b = b9 := congrArg (fun x => x.2.1) ee
  subst e1
  subst e2
  have hk : TRK e b f g = RKo i n b e := TRK_o y3 q5
  have hJ2 : okJ H R d ((S.sFl e b none).sLf 0 e b (g 0)) := okJ.lf (okJ.noFl hJ) (by decide) (by decide)
  have hJ3 := okJ.shift (a := e) (b := b) (i := 0) (j := 1) hJ2 (by decide)
  have hJ4 : okJ H R d (((((S.sFl e b none).sLf 0 e b (g 0)).sSes e b 0 (((S.sFl e b none).sLf 0 e b (g 0)).ses e b 1)).sSes e b 1 none).sSes e b 1 (some (TRSes S e b f g))) := by
    refine okJ.seat hJ3 (fun r' q => ?_)
    cases q
    refine ⟨z.2.2.2.2, Or.inr ⟨n, i, q1, y2, q3, ?_, ?_, rfl⟩, (SAL_new _ rfl rfl rfl).1, (SAL_new _ rfl rfl rfl).2.1, (SAL_new _ rfl rfl rfl).2.2, fun e9 b8 w9 r9 he9 hb9 hw9 _ q => ?_, fun a8 b8 f9 ha9 hb9 q => ?_⟩
    · show nI (MIX [5, (TRK e b f g : Int), 0]) = _
      rw [hk]
    · show nI (MIX [5, (TRK e b f g : Int), 1]) = _
      rw [hk]
    · show ¬ r9.1 0 = f 0
      rcases shift_key q with ⟨p1, p2, -, y⟩ | ⟨-, -, y⟩
      · exact fun o => hJ.2.1.2.2.2 _ _ _ _ _ 1 _ he hb he hb (by decide) hf y o.symm
      · exact fun o => hJ.2.1.2.2.2 _ _ _ _ _ _ _ he hb he9 hb9 hw9 hf y o.symm
    · show ¬ f9 0 = f 0
      have q : w2 S.fl e b none a8 b8 = some f9 := q
      obtain ⟨p1, p2⟩ := w2_some q
      obtain ⟨i9, s8, x1, x2, -⟩ := hJ.2.1.1 _ _ _ ha9 hb9 p1
      intro o
      have zz := hJ.1.1 _ _ _ _ x1
      have ei : i9 = i := nI_ij (by omega) (by omega) (x2.symm.trans (o.trans y2))
      subst ei
      cases y1.symm.trans x1
      exact p2 ⟨rfl, rfl⟩
  rw [sSes_sSes] at hJ4
  exact hJ4
theorem okJ.trs {H : GhH} {R : GhR} {d : Nat} {S : Sx} {e b n h a9 b9 : Nat} {f g : Row} (hJ : okJ H R d S) (he : e < 3) (hb : b < 3) (hf : S.fl e b = some f) (h0 : f 0 = g 4) (q1 : R n = some (h, b9, a9)) (q3 : g 3 = nI n) (q4 : g 4 = nI h) (q5 : g 5 = nI (PW 7 (SEC n))) : okJ H R d (TRS S e b f g) := by
  have hB := okJ.trb hJ he hb hf h0 q1 q3 q4 q5
  have hs : (TRB S e b f g).ses e b 1 = some (TRSes S e b f g) := by
    show w3 (((S.sFl e b none).sLf 0 e b (g 0)).sSes e b 0 (S.ses e b 1)).ses e b 1 (some (TRSes S e b f g)) e b 1 = _
    exact w3_eq
  unfold TRS
  split
  · exact okJ.data hB he hb hs (show (0 : Int32).toInt < 40 by decide) (Or.inl ⟨rfl, rfl, rfl⟩)
  · exact okJ.swt he hb _ _ hB
theorem okJ.tdp {H : GhH} {R : GhR} {d : Nat} {S : Sx} {e b w : Nat} {r : Ses} {g : Row} (hJ : okJ H R d S) (he : e < 3) (hb : b < 3) (hw : w < 3) (hs : S.ses e b w = some r) (hc : CTK r (g 4)) : okJ H R d (TDP S e b w r g) := by
  have q := hJ.2.1.2.1 e b w r he hb hw hs
  have t := take_SAL q.2.2.1 hc
  have hT : okJ H R d (TDT S e b w r g) := okJ.lf (okJ.bump hJ he hb hw hs ⟨rfl, rfl, rfl, rfl, rfl⟩ t.1 t.2 q.2.2.2.2) (by decide) (by decide)
  unfold TDP
  split
  · exact okJ.swt he hb _ _ (okJ.pro hT)
  · exact hT
theorem okJ.bos {H : GhH} {R : GhR} {d : Nat} {S : Sx} {e b : Nat} {g : Row} (h : okJ H R (d + 1) S) : okI d (BOs S e b g) := by
  have h9 := okJ.down h
  unfold BOs
  split
  · exact h9.I
  · split
    · obtain ⟨b1, b2, b3, b4, b5, b6, b7, b8⟩ := h9.2.2.1
      have c3 := h.2.2.1.2.2.1
      refine ⟨H, R, h9.1, h9.2.1, ⟨b1, b2, ?_, b4, b5, b6, b7, b8⟩, h9.2.2.2⟩
      show (S.ou ++ [ouR e b g]).length + d ≤ 512
      rw [List.length_append, List.length_singleton]
      omega
    · exact h9.I
theorem got_I {H : GhH} {R : GhR} {d : Nat} {S S9 : Sx} {g : Row} {v : Int32} (h : okJ H R (d + 1) S) (hg : Lgh H R g) (hG : GOT S g v S9) : okI d S9 := by
  have h9 := okJ.down h
  rcases hG with ⟨-, -, rfl⟩ | ⟨e, he, -, hk⟩
  · exact h9.I
  · rcases hk with ⟨k1, a, b, ha, hb, h5, -, rfl⟩ | ⟨k2, hT⟩ | ⟨-, hT⟩ | ⟨-, -, -, hT⟩
    · exact okJ.ths h he ha hb hg k1 h5
    · rcases hT with ⟨-, -, rfl⟩ | ⟨b, f, hF, hf, (⟨-, -, rfl⟩ | ⟨-, -, rfl⟩)⟩
      · exact h9.I
      · exact h9.I
      · obtain ⟨K, -, -, kk, -⟩ := hg
        obtain ⟨n, i, b9, a9, q1, q3, q4, q5, -⟩ := kk k2
        obtain ⟨f9, y, y0⟩ := hF.2.1
        cases y.symm.trans hf
        exact (okJ.trs h9 he hF.1 hf y0 q1 q3 q4 q5).I
    · rcases hT with ⟨-, -, rfl⟩ | ⟨b, f, hF, hf, (⟨-, -, rfl⟩ | ⟨-, -, rfl⟩)⟩
      · exact h9.I
      · exact h9.I
      · exact (okJ.lf (okJ.lf h9 (by decide) (by decide)) (by decide) (by decide)).I
    · rcases hT with ⟨-, -, rfl⟩ | ⟨b, w, r, hL, hS, hs, (⟨-, -, rfl⟩ | ⟨-, -, -, rfl⟩ | ⟨-, -, -, -, rfl⟩ | ⟨-, -, hc, -, rfl⟩)⟩
      · exact h9.I
      · exact h9.I
      · exact h9.I
      · exact h9.I
      · exact okJ.bos (okJ.tdp h he hL.1 hS.1 hs hc)
theorem st_deliver {d : Nat} {S S' : Sx} (h : okI (d + 1) S) (hs : St_deliver S S') : okI d S' := by
  obtain ⟨x, v, S9, hx, hG, rfl⟩ := hs
  obtain ⟨H, R, h⟩ := h
  have h : okJ H R (d + 1) S := h
  exact okI.dlf (got_I (okJ.net h (fun g hm => List.mem_of_mem_eraseIdx hm)) (h.2.2.2 _ (LTR_mem (letC_L hx))) hG)
theorem hs_I {d : Nat} {S S' : Sx} (h : okI (d + 1) S) (hs : Sstep S S') : okI d S' := by
  rcases hs with rfl | hs | hs | hs | hs | hs | hs | hs | hs | hs | hs | hs | hs | hs | hs
  · exact h.down
  · exact st_pass h hs
  · exact st_move h hs
  · exact st_load h hs
  · exact st_allow h hs
  · exact st_forbid h hs
  · exact st_send h hs
  · exact st_greet h hs
  · exact st_lose h hs
  · exact st_twice h hs
  · exact st_turn h hs
  · exact st_reroute h hs
  · exact st_later h hs
  · exact st_keep h hs
  · exact st_deliver h hs
end
