section
variable {Q : Nat → Nat} {W : Nat → Prop} {S : Sx} {l : LX} {μ0 μ m : Mem}
theorem mei_at {a i : Nat} {v : Int32} (e : m = μ.sei a i v) : m.ei a i = v := by rw [e]; exact u2_eq
theorem mei_ap {a i b j : Nat} {v : Int32} (e : m = μ.sei a i v) (h : b ≠ a ∨ j ≠ i) : m.ei b j = μ.ei b j := by
  rw [e, z_ei_sei]
  rcases h with h | h
  · rw [if_neg h]
  · rw [if_neg h, ite_self]
theorem mer_at {a i : Nat} {v : Option Nat} (e : m = μ.ser a i v) : m.er a i = v := by rw [e]; exact u2_eq
theorem mer_ap {a i b j : Nat} {v : Option Nat} (e : m = μ.ser a i v) (h : b ≠ a ∨ j ≠ i) : m.er b j = μ.er b j := by
  rw [e, z_er_ser]
  rcases h with h | h
  · rw [if_neg h]
  · rw [if_neg h, ite_self]
theorem MRq.neQ (h : MRq Q S l μ) {i j : Nat} (hi : i < 90) (hj : j < 90) (hne : i ≠ j) : Q i ≠ Q j := fun e => hne (KM_inj (by rw [← h.kd hi, ← h.kd hj, e]))
theorem MRq.neD (h : MRq Q S l μ) {j p : Nat} (hj : j < 90) (hp : 190 ≤ μ.kd p / 32) : p ≠ Q j := fun e => by rw [e, h.kd hj, KM_div] at hp; omega
abbrev Dyn (μ m : Mem) : Prop := ∀ p, 190 ≤ μ.kd p / 32 → SameAt μ m p
theorem mR.keep {rt : Nat → List Row} (h : mR Q μ rt) (he : ∀ e, e < 3 → m.er (Q (51 + e)) = μ.er (Q (51 + e))) (hd : Dyn μ m) : mR Q m rt := fun e h3 => ⟨(h e h3).1, fun k r hk => by
  obtain ⟨p, p1, p2⟩ := (h e h3).2 k r hk
  exact ⟨p, by rw [he e h3]; exact p1, p2.same (hd p (by rw [p2.1]; decide))⟩⟩
theorem mP.keep {wt : Nat → Nat → List Row} (h : mP Q μ wt) (he : ∀ a b, a < 3 → b < 3 → m.er (Q (63 + 3 * a + b)) = μ.er (Q (63 + 3 * a + b))) (hd : Dyn μ m) : mP Q m wt := fun a b ha hb => ⟨(h a b ha hb).1, fun k r hk => by
  obtain ⟨p, p1, p2⟩ := (h a b ha hb).2 k r hk
  exact ⟨p, by rw [he a b ha hb]; exact p1, p2.same (hd p (by rw [p2.1]; decide))⟩⟩
theorem mS.keep {ses : Nat → Nat → Nat → Option Ses} {hs : Nat → Nat → Nat → Prop} (h : mS Q μ ses hs) (he : ∀ a b, a < 3 → b < 3 → m.er (Q (72 + 3 * a + b)) = μ.er (Q (72 + 3 * a + b))) (hd : Dyn μ m) : mS Q m ses hs := fun a b w ha hb hw hh => by
  obtain ⟨s, s1, s2, s3, s4⟩ := h a b w ha hb hw hh
  have z := hd s (by rw [s2]; unfold KSE; omega)
  exact ⟨s, by rw [he a b ha hb]; exact s1, by rw [z.1]; exact s2, by rw [z.2.2.2.2.1]; exact s3, by rw [z.2.2.2.2.2.1]; exact s4⟩
theorem mB.keep {tk : Nat → Nat → Nat → Int64} {ht : Nat → Nat → Nat → Prop} (h : mB Q μ tk ht) (he : ∀ a b, a < 3 → b < 3 → m.er (Q (81 + 3 * a + b)) = μ.er (Q (81 + 3 * a + b))) (hd : Dyn μ m) : mB Q m tk ht := fun a b w ha hb hw hh => by
  obtain ⟨s, s1, s2, s3, s4⟩ := h a b w ha hb hw hh
  have z := hd s (by rw [s2]; unfold KTK; omega)
  exact ⟨s, by rw [he a b ha hb]; exact s1, by rw [z.1]; exact s2, by rw [z.2.2.2.2.1]; exact s3, by rw [z.2.2.2.2.2.1]; exact s4⟩
theorem mLt.keep {nt : List Row} (h : mLt Q μ nt) (he : m.er (Q 20) = μ.er (Q 20)) (hd : Dyn μ m) : mLt Q m nt := by
  obtain ⟨h60, xs, x1, x2, x3⟩ := h
  exact ⟨h60, xs, x1, fun i p hi => by rw [he]; exact x2 i p hi, x3.imp fun p _ r hp => hp.same (hd p (by rw [hp.1]; decide))⟩
theorem mO.keep {ou : List Row} (h : mO Q μ ou) (hf : m.fr 313 (Q 0) = μ.fr 313 (Q 0)) (hd : Dyn μ m) : mO Q m ou := by
  obtain ⟨h60, A, a1, a2, a3, a4⟩ := h
  have z := hd A (by rw [a2]; decide)
  refine ⟨h60, A, by rw [hf]; exact a1, by rw [z.1]; exact a2, by rw [z.2.2.2.2.1]; exact a3, fun k r hk => ?_⟩
  obtain ⟨p, p1, p2⟩ := a4 k r hk
  exact ⟨p, by rw [z.2.2.2.2.2.2.1]; exact p1, p2.same (hd p (by rw [p2.1]; decide))⟩
theorem m1.keep {ef : Nat → Nat → Int32} {cd : Nat → Int32} {rl ol : Nat → Nat} (h : m1 Q μ ef cd rl ol) (he : ∀ j, 1 ≤ j → j < 6 → m.ei (Q j) = μ.ei (Q j)) : m1 Q m ef cd rl ol := ⟨fun e h3 => by rw [he 1 (by decide) (by decide), he 2 (by decide) (by decide), he 3 (by decide) (by decide), he 5 (by decide) (by decide)]; exact h.1 e h3, fun i hi => by rw [he 4 (by decide) (by decide)]; exact h.2 i hi⟩
theorem m2.keep {lf : Nat → Nat → Nat → Int32} {fl : Nat → Nat → Option Row} {wl : Nat → Nat → Nat} (h : m2 Q μ lf fl wl) (he : ∀ j, 21 ≤ j → j < 51 → m.ei (Q j) = μ.ei (Q j)) : m2 Q m lf fl wl := fun t a b ht ha hb => by rw [he _ (by omega) (by omega)]; exact h t a b ht ha hb
theorem mei_row {a i b : Nat} {v : Int32} (e : m = μ.sei a i v) (h : b ≠ a) : m.ei b = μ.ei b := (by rw [e]; exact (same_sei h).2.2.2.2.2.1)
theorem mer_row {a i b : Nat} {v : Option Nat} (e : m = μ.ser a i v) (h : b ≠ a) : m.er b = μ.er b := (by rw [e]; exact (same_ser h).2.2.2.2.2.2.1)
/-- steps at the model's own places -/
theorem MTo.sei {S' : Sx} {l' : LX} (h : MTo Q W μ0 S l μ) {j i : Nat} {v : Int32} (hj : j < 90) (hw : μ0.kd (Q j) = 0 ∨ W (μ0.kd (Q j))) (e : m = μ.sei (Q j) i v) (hM : MRq Q S' l' m) : MTo Q W μ0 S' l' m := h.step (fun z hz => by rw [e]; exact same_sei hz) hw (Or.inr (by rw [h.1.kd hj]; exact isMk_KM hj)) (by rw [hM.kd hj]; exact isMk_KM hj) hM
theorem MTo.ser {S' : Sx} {l' : LX} (h : MTo Q W μ0 S l μ) {j i : Nat} {v : Option Nat} (hj : j < 90) (hw : μ0.kd (Q j) = 0 ∨ W (μ0.kd (Q j))) (e : m = μ.ser (Q j) i v) (hM : MRq Q S' l' m) : MTo Q W μ0 S' l' m := h.step (fun z hz => by rw [e]; exact same_ser hz) hw (Or.inr (by rw [h.1.kd hj]; exact isMk_KM hj)) (by rw [hM.kd hj]; exact isMk_KM hj) hM
theorem MTo.sfi {S' : Sx} {l' : LX} (h : MTo Q W μ0 S l μ) {f : Nat} {v : Int32} (hw : μ0.kd (Q 0) = 0 ∨ W (μ0.kd (Q 0))) (e : m = μ.sfi f (Q 0) v) (hM : MRq Q S' l' m) : MTo Q W μ0 S' l' m := h.step (fun z hz => by rw [e]; exact same_sfi hz) hw (Or.inr (by rw [h.1.kd (by decide)]; exact isMk_KM (by decide))) (by rw [hM.kd (by decide)]; exact isMk_KM (by decide)) hM
theorem MTo.sfr {S' : Sx} {l' : LX} (h : MTo Q W μ0 S l μ) {f : Nat} {v : Option Nat} (hw : μ0.kd (Q 0) = 0 ∨ W (μ0.kd (Q 0))) (e : m = μ.sfr f (Q 0) v) (hM : MRq Q S' l' m) : MTo Q W μ0 S' l' m := h.step (fun z hz => by rw [e]; exact same_sfr hz) hw (Or.inr (by rw [h.1.kd (by decide)]; exact isMk_KM (by decide))) (by rw [hM.kd (by decide)]; exact isMk_KM (by decide)) hM
theorem MTo.sfl {S' : Sx} {l' : LX} (h : MTo Q W μ0 S l μ) {f : Nat} {v : Int64} (hw : μ0.kd (Q 0) = 0 ∨ W (μ0.kd (Q 0))) (e : m = μ.sfl f (Q 0) v) (hM : MRq Q S' l' m) : MTo Q W μ0 S' l' m := h.step (fun z hz => by rw [e]; exact same_sfl hz) hw (Or.inr (by rw [h.1.kd (by decide)]; exact isMk_KM (by decide))) (by rw [hM.kd (by decide)]; exact isMk_KM (by decide)) hM
/-- a row of its own is written -/
theorem MTo.seD {S' : Sx} {l' : LX} (h : MTo Q W μ0 S l μ) {s i : Nat} {v : Int32} (hs : isMk (μ.kd s)) (hw : μ0.kd s = 0 ∨ W (μ0.kd s)) (e : m = μ.sei s i v) (hM : MRq Q S' l' m) : MTo Q W μ0 S' l' m := h.step (fun z hz => by rw [e]; exact same_sei hz) hw (Or.inr hs) (by rw [e]; exact hs) hM
theorem MTo.skd {S' : Sx} {l' : LX} (h : MTo Q W μ0 S l μ) {s k : Nat} (hs : isMk (μ.kd s)) (hk : isMk k) (hw : μ0.kd s = 0 ∨ W (μ0.kd s)) (hM : MRq Q S' l' (μ.skd s k)) : MTo Q W μ0 S' l' (μ.skd s k) := h.step (fun z hz => same_skd hz) hw (Or.inr hs) (by rw [kd_skd]; exact hk) hM
/-- a thing of passage gets its mark -/
theorem MRq.mark (h : MRq Q S l μ) {q k : Nat} (hq : μ.kd q = KTMP) : MRq Q S l (μ.skd q k) := h.same fun z hz => same_skd (fun e => by rw [e, hq] at hz; exact usK_tmp hz rfl)
theorem MTo.mark (h : MTo Q W μ0 S l μ) {q k : Nat} (hq : μ.kd q = KTMP) (hk : isMk k) (hw : μ0.kd q = 0 ∨ W (μ0.kd q)) : MTo Q W μ0 S l (μ.skd q k) := h.skd (by rw [hq]; unfold isMk; decide) hk hw (h.1.mark hq)
theorem NL.row {q n k : Nat} {vs : List Int32} (h : NL μ q n vs) {r : Row} (hn : n = vs.length) (hr : ∀ i (hi : i < vs.length), vs[i] = r i) : RowAt (μ.skd q k) k q n r := ⟨kd_skd, h.2.1, fun j hj => (h.2.2 j (by omega)).trans (hr j (by omega))⟩
theorem MRq.wAd (h : MRq Q S l μ) {e : Nat} (he : e < 3) (v : Int32) (e1 : m = μ.sei (Q 1) e v) : MRq Q (S.sEf 0 e v) l m := by
  have hd : Dyn μ m := fun p hp => by rw [e1]; exact same_sei (h.neD (by decide) hp)
  have hQ : ∀ j, j < 90 → j ≠ 1 → Q j ≠ Q 1 := fun j hj hne => h.neQ hj (by decide) hne
  have h4 : m2 Q m S.lf S.fl l.wl := h.2.2.2.1.keep fun j g1 g2 => mei_row e1 (hQ j (by omega) (by omega))
  have h3 := h.2.2.1
  subst e1
  refine ⟨h.1, h.2.1, ⟨fun e9 he9 => ⟨?_, by rw [mei_row rfl (hQ 2 (by decide) (by decide))]; exact (h3.1 e9 he9).2.1, by rw [mei_row rfl (hQ 3 (by decide) (by decide))]; exact (h3.1 e9 he9).2.2.1, by rw [mei_row rfl (hQ 5 (by decide) (by decide))]; exact (h3.1 e9 he9).2.2.2⟩, fun i hi => by rw [mei_row rfl (hQ 4 (by decide) (by decide))]; exact h3.2 i hi⟩, h4, h.2.2.2.2.1.keep (fun _ _ => rfl) hd, h.2.2.2.2.2.1.keep (fun _ _ _ _ => rfl) hd, h.2.2.2.2.2.2.1.keep (fun _ _ _ _ => rfl) hd, h.2.2.2.2.2.2.2.1.keep (fun _ _ _ _ => rfl) hd, h.2.2.2.2.2.2.2.2.1.keep rfl hd, h.2.2.2.2.2.2.2.2.2.keep rfl hd⟩
  by_cases c : e9 = e
  · subst c
    exact (mei_at rfl).trans ef_at.symm
  · exact (mei_ap rfl (Or.inr c)).trans ((h3.1 e9 he9).1.trans (ef_ap (fun z => c z.2)).symm)
theorem MRq.wLd (h : MRq Q S l μ) {e : Nat} (he : e < 3) (v : Int32) (e1 : m = μ.sei (Q 5) e v) : MRq Q (S.sEf 1 e v) l m := by
  have hd : Dyn μ m := fun p hp => by rw [e1]; exact same_sei (h.neD (by decide) hp)
  have hQ : ∀ j, j < 90 → j ≠ 5 → Q j ≠ Q 5 := fun j hj hne => h.neQ hj (by decide) hne
  have h4 : m2 Q m S.lf S.fl l.wl := h.2.2.2.1.keep fun j g1 g2 => mei_row e1 (hQ j (by omega) (by omega))
  have h3 := h.2.2.1
  subst e1
  refine ⟨h.1, h.2.1, ⟨fun e9 he9 => ⟨by rw [mei_row rfl (hQ 1 (by decide) (by decide))]; exact (h3.1 e9 he9).1, by rw [mei_row rfl (hQ 2 (by decide) (by decide))]; exact (h3.1 e9 he9).2.1, by rw [mei_row rfl (hQ 3 (by decide) (by decide))]; exact (h3.1 e9 he9).2.2.1, ?_⟩, fun i hi => by rw [mei_row rfl (hQ 4 (by decide) (by decide))]; exact h3.2 i hi⟩, h4, h.2.2.2.2.1.keep (fun _ _ => rfl) hd, h.2.2.2.2.2.1.keep (fun _ _ _ _ => rfl) hd, h.2.2.2.2.2.2.1.keep (fun _ _ _ _ => rfl) hd, h.2.2.2.2.2.2.2.1.keep (fun _ _ _ _ => rfl) hd, h.2.2.2.2.2.2.2.2.1.keep rfl hd, h.2.2.2.2.2.2.2.2.2.keep rfl hd⟩
  by_cases c : e9 = e
  · subst c
    exact (mei_at rfl).trans ef_at.symm
  · exact (mei_ap rfl (Or.inr c)).trans ((h3.1 e9 he9).2.2.2.trans (ef_ap (fun z => c z.2)).symm)
theorem MRq.wRl (h : MRq Q S l μ) {e : Nat} (he : e < 3) (n : Nat) (e1 : m = μ.sei (Q 2) e (nI n)) : MRq Q S (l.sRl e n) m := by
  have hd : Dyn μ m := fun p hp => by rw [e1]; exact same_sei (h.neD (by decide) hp)
  have hQ : ∀ j, j < 90 → j ≠ 2 → Q j ≠ Q 2 := fun j hj hne => h.neQ hj (by decide) hne
  have h4 : m2 Q m S.lf S.fl l.wl := h.2.2.2.1.keep fun j g1 g2 => mei_row e1 (hQ j (by omega) (by omega))
  have h3 := h.2.2.1
  subst e1
  refine ⟨h.1, h.2.1, ⟨fun e9 he9 => ⟨by rw [mei_row rfl (hQ 1 (by decide) (by decide))]; exact (h3.1 e9 he9).1, ?_, by rw [mei_row rfl (hQ 3 (by decide) (by decide))]; exact (h3.1 e9 he9).2.2.1, by rw [mei_row rfl (hQ 5 (by decide) (by decide))]; exact (h3.1 e9 he9).2.2.2⟩, fun i hi => by rw [mei_row rfl (hQ 4 (by decide) (by decide))]; exact h3.2 i hi⟩, h4, h.2.2.2.2.1.keep (fun _ _ => rfl) hd, h.2.2.2.2.2.1.keep (fun _ _ _ _ => rfl) hd, h.2.2.2.2.2.2.1.keep (fun _ _ _ _ => rfl) hd, h.2.2.2.2.2.2.2.1.keep (fun _ _ _ _ => rfl) hd, h.2.2.2.2.2.2.2.2.1.keep rfl hd, h.2.2.2.2.2.2.2.2.2.keep rfl hd⟩
  by_cases c : e9 = e
  · subst c
    exact (mei_at rfl).trans (congrArg nI (u1_eq (f := l.rl) (a := e9) (v := n))).symm
  · exact (mei_ap rfl (Or.inr c)).trans ((h3.1 e9 he9).2.1.trans (congrArg nI (u1_ne (f := l.rl) (v := n) c)).symm)
theorem MRq.wOl (h : MRq Q S l μ) {e : Nat} (he : e < 3) (n : Nat) (e1 : m = μ.sei (Q 3) e (nI n)) : MRq Q S (l.sOl e n) m := by
  have hd : Dyn μ m := fun p hp => by rw [e1]; exact same_sei (h.neD (by decide) hp)
  have hQ : ∀ j, j < 90 → j ≠ 3 → Q j ≠ Q 3 := fun j hj hne => h.neQ hj (by decide) hne
  have h4 : m2 Q m S.lf S.fl l.wl := h.2.2.2.1.keep fun j g1 g2 => mei_row e1 (hQ j (by omega) (by omega))
  have h3 := h.2.2.1
  subst e1
  refine ⟨h.1, h.2.1, ⟨fun e9 he9 => ⟨by rw [mei_row rfl (hQ 1 (by decide) (by decide))]; exact (h3.1 e9 he9).1, by rw [mei_row rfl (hQ 2 (by decide) (by decide))]; exact (h3.1 e9 he9).2.1, ?_, by rw [mei_row rfl (hQ 5 (by decide) (by decide))]; exact (h3.1 e9 he9).2.2.2⟩, fun i hi => by rw [mei_row rfl (hQ 4 (by decide) (by decide))]; exact h3.2 i hi⟩, h4, h.2.2.2.2.1.keep (fun _ _ => rfl) hd, h.2.2.2.2.2.1.keep (fun _ _ _ _ => rfl) hd, h.2.2.2.2.2.2.1.keep (fun _ _ _ _ => rfl) hd, h.2.2.2.2.2.2.2.1.keep (fun _ _ _ _ => rfl) hd, h.2.2.2.2.2.2.2.2.1.keep rfl hd, h.2.2.2.2.2.2.2.2.2.keep rfl hd⟩
  by_cases c : e9 = e
  · subst c
    exact (mei_at rfl).trans (congrArg nI (u1_eq (f := l.ol) (a := e9) (v := n))).symm
  · exact (mei_ap rfl (Or.inr c)).trans ((h3.1 e9 he9).2.2.1.trans (congrArg nI (u1_ne (f := l.ol) (v := n) c)).symm)
theorem MRq.wCd (h : MRq Q S l μ) {e : Nat} (he : e < 11) (v : Int32) (e1 : m = μ.sei (Q 4) e v) : MRq Q (S.sCd e v) l m := by
  have hd : Dyn μ m := fun p hp => by rw [e1]; exact same_sei (h.neD (by decide) hp)
  have hQ : ∀ j, j < 90 → j ≠ 4 → Q j ≠ Q 4 := fun j hj hne => h.neQ hj (by decide) hne
  have h4 : m2 Q m S.lf S.fl l.wl := h.2.2.2.1.keep fun j g1 g2 => mei_row e1 (hQ j (by omega) (by omega))
  have h3 := h.2.2.1
  subst e1
  refine ⟨h.1, h.2.1, ⟨fun e9 he9 => by rw [mei_row rfl (hQ 1 (by decide) (by decide)), mei_row rfl (hQ 2 (by decide) (by decide)), mei_row rfl (hQ 3 (by decide) (by decide)), mei_row rfl (hQ 5 (by decide) (by decide))]; exact h3.1 e9 he9, fun i9 hi9 => ?_⟩, h4, h.2.2.2.2.1.keep (fun _ _ => rfl) hd, h.2.2.2.2.2.1.keep (fun _ _ _ _ => rfl) hd, h.2.2.2.2.2.2.1.keep (fun _ _ _ _ => rfl) hd, h.2.2.2.2.2.2.2.1.keep (fun _ _ _ _ => rfl) hd, h.2.2.2.2.2.2.2.2.1.keep rfl hd, h.2.2.2.2.2.2.2.2.2.keep rfl hd⟩
  by_cases c : i9 = e
  · subst c
    exact (mei_at rfl).trans u1_eq.symm
  · exact (mei_ap rfl (Or.inr c)).trans ((h3.2 i9 hi9).trans (u1_ne c).symm)
theorem MRq.wRow (h : MRq Q S l μ) {t a b : Nat} {v : Int32} (ht : t < 10) (ha : a < 3) (hb : b < 3) (e1 : m = μ.sei (Q (21 + 3 * t + a)) b v) {lf' : Nat → Nat → Nat → Int32} {fl' : Nat → Nat → Option Row} {wl' : Nat → Nat → Nat} (g1 : tv t lf' fl' wl' a b v) (g2 : ∀ t' a' b', t' < 10 → a' < 3 → b' < 3 → ¬ (t' = t ∧ a' = a ∧ b' = b) → tv t' S.lf S.fl l.wl a' b' (μ.ei (Q (21 + 3 * t' + a')) b') → tv t' lf' fl' wl' a' b' (μ.ei (Q (21 + 3 * t' + a')) b')) : MRq Q (S.sc, S.ef, lf', S.cd, fl', S.ses, S.wt, S.rt, S.ou, S.nt) (l.n, l.rl, l.ol, wl', l.tk, l.hs, l.ht, l.th) m := by
  have hd : Dyn μ m := fun p hp => by rw [e1]; exact same_sei (h.neD (by omega) hp)
  have h3 : m1 Q m S.ef S.cd l.rl l.ol := h.2.2.1.keep fun j j1 j2 => mei_row e1 (h.neQ (by omega) (by omega) (by omega))
  have h4 : m2 Q m lf' fl' wl' := fun t' a' b' ht' ha' hb' => by
    by_cases c : t' = t ∧ a' = a ∧ b' = b
    · obtain ⟨rfl, rfl, rfl⟩ := c
      rw [mei_at e1]
      exact g1
    · have hne : Q (21 + 3 * t' + a') ≠ Q (21 + 3 * t + a) ∨ b' ≠ b := by
        by_cases c2 : b' = b
        · exact Or.inl (h.neQ (by omega) (by omega) (fun z => c ⟨by omega, by omega, c2⟩))
        · exact Or.inr c2
      rw [mei_ap e1 hne]
      exact g2 t' a' b' ht' ha' hb' c (h.2.2.2.1 t' a' b' ht' ha' hb')
  subst e1
  exact ⟨h.1, h.2.1, h3, h4, h.2.2.2.2.1.keep (fun _ _ => rfl) hd, h.2.2.2.2.2.1.keep (fun _ _ _ _ => rfl) hd, h.2.2.2.2.2.2.1.keep (fun _ _ _ _ => rfl) hd, h.2.2.2.2.2.2.2.1.keep (fun _ _ _ _ => rfl) hd, h.2.2.2.2.2.2.2.2.1.keep rfl hd, h.2.2.2.2.2.2.2.2.2.keep rfl hd⟩
theorem MRq.wT0 (h : MRq Q S l μ) {a b : Nat} {v : Int32} (ha : a < 3) (hb : b < 3) (e1 : m = μ.sei (Q (21 + 3 * 0 + a)) b v) : MRq Q (S.sLf 0 a b v) l m := h.wRow (by decide) ha hb e1 (lf' := w3 S.lf 0 a b v) (fl' := S.fl) (wl' := l.wl) w3_eq.symm (fun t9 a9 b9 ht9 ha9 hb9 hn hu => by
  have q9 : t9 = 0 ∨ t9 = 1 ∨ t9 = 2 ∨ t9 = 3 ∨ t9 = 4 ∨ t9 = 5 ∨ t9 = 6 ∨ t9 = 7 ∨ t9 = 8 ∨ t9 = 9 := by omega
  rcases q9 with rfl | rfl | rfl | rfl | rfl | rfl | rfl | rfl | rfl | rfl
  · exact hu.trans (w3_ne (fun z => hn ⟨rfl, z.2.1, z.2.2⟩)).symm
  · exact hu.trans (w3_ne (f := S.lf) (fun z => absurd z.1 (by decide))).symm
  · exact hu.trans (w3_ne (f := S.lf) (fun z => absurd z.1 (by decide))).symm
  · exact hu
  · exact hu
  · exact hu
  · exact hu
  · exact hu.trans (w3_ne (f := S.lf) (fun z => absurd z.1 (by decide))).symm
  · exact hu.trans (w3_ne (f := S.lf) (fun z => absurd z.1 (by decide))).symm
  · exact hu)
theorem MRq.wT1 (h : MRq Q S l μ) {a b : Nat} {v : Int32} (ha : a < 3) (hb : b < 3) (e1 : m = μ.sei (Q (21 + 3 * 1 + a)) b v) : MRq Q (S.sLf 1 a b v) l m := h.wRow (by decide) ha hb e1 (lf' := w3 S.lf 1 a b v) (fl' := S.fl) (wl' := l.wl) w3_eq.symm (fun t9 a9 b9 ht9 ha9 hb9 hn hu => by
  have q9 : t9 = 0 ∨ t9 = 1 ∨ t9 = 2 ∨ t9 = 3 ∨ t9 = 4 ∨ t9 = 5 ∨ t9 = 6 ∨ t9 = 7 ∨ t9 = 8 ∨ t9 = 9 := by omega
  rcases q9 with rfl | rfl | rfl | rfl | rfl | rfl | rfl | rfl | rfl | rfl
  · exact hu.trans (w3_ne (f := S.lf) (fun z => absurd z.1 (by decide))).symm
  · exact hu.trans (w3_ne (fun z => hn ⟨rfl, z.2.1, z.2.2⟩)).symm
  · exact hu.trans (w3_ne (f := S.lf) (fun z => absurd z.1 (by decide))).symm
  · exact hu
  · exact hu
  · exact hu
  · exact hu
  · exact hu.trans (w3_ne (f := S.lf) (fun z => absurd z.1 (by decide))).symm
  · exact hu.trans (w3_ne (f := S.lf) (fun z => absurd z.1 (by decide))).symm
  · exact hu)
theorem MRq.wT2 (h : MRq Q S l μ) {a b : Nat} {v : Int32} (ha : a < 3) (hb : b < 3) (e1 : m = μ.sei (Q (21 + 3 * 2 + a)) b v) : MRq Q (S.sLf 2 a b v) l m := h.wRow (by decide) ha hb e1 (lf' := w3 S.lf 2 a b v) (fl' := S.fl) (wl' := l.wl) w3_eq.symm (fun t9 a9 b9 ht9 ha9 hb9 hn hu => by
  have q9 : t9 = 0 ∨ t9 = 1 ∨ t9 = 2 ∨ t9 = 3 ∨ t9 = 4 ∨ t9 = 5 ∨ t9 = 6 ∨ t9 = 7 ∨ t9 = 8 ∨ t9 = 9 := by omega
  rcases q9 with rfl | rfl | rfl | rfl | rfl | rfl | rfl | rfl | rfl | rfl
  · exact hu.trans (w3_ne (f := S.lf) (fun z => absurd z.1 (by decide))).symm
  · exact hu.trans (w3_ne (f := S.lf) (fun z => absurd z.1 (by decide))).symm
  · exact hu.trans (w3_ne (fun z => hn ⟨rfl, z.2.1, z.2.2⟩)).symm
  · exact hu
  · exact hu
  · exact hu
  · exact hu
  · exact hu.trans (w3_ne (f := S.lf) (fun z => absurd z.1 (by decide))).symm
  · exact hu.trans (w3_ne (f := S.lf) (fun z => absurd z.1 (by decide))).symm
  · exact hu)
theorem MRq.wT7 (h : MRq Q S l μ) {a b : Nat} {v : Int32} (ha : a < 3) (hb : b < 3) (e1 : m = μ.sei (Q (21 + 3 * 7 + a)) b v) : MRq Q (S.sLf 3 a b v) l m := h.wRow (by decide) ha hb e1 (lf' := w3 S.lf 3 a b v) (fl' := S.fl) (wl' := l.wl) w3_eq.symm (fun t9 a9 b9 ht9 ha9 hb9 hn hu => by
  have q9 : t9 = 0 ∨ t9 = 1 ∨ t9 = 2 ∨ t9 = 3 ∨ t9 = 4 ∨ t9 = 5 ∨ t9 = 6 ∨ t9 = 7 ∨ t9 = 8 ∨ t9 = 9 := by omega
  rcases q9 with rfl | rfl | rfl | rfl | rfl | rfl | rfl | rfl | rfl | rfl
  · exact hu.trans (w3_ne (f := S.lf) (fun z => absurd z.1 (by decide))).symm
  · exact hu.trans (w3_ne (f := S.lf) (fun z => absurd z.1 (by decide))).symm
  · exact hu.trans (w3_ne (f := S.lf) (fun z => absurd z.1 (by decide))).symm
  · exact hu
  · exact hu
  · exact hu
  · exact hu
  · exact hu.trans (w3_ne (fun z => hn ⟨rfl, z.2.1, z.2.2⟩)).symm
  · exact hu.trans (w3_ne (f := S.lf) (fun z => absurd z.1 (by decide))).symm
  · exact hu)
theorem MRq.wT8 (h : MRq Q S l μ) {a b : Nat} {v : Int32} (ha : a < 3) (hb : b < 3) (e1 : m = μ.sei (Q (21 + 3 * 8 + a)) b v) : MRq Q (S.sLf 4 a b v) l m := h.wRow (by decide) ha hb e1 (lf' := w3 S.lf 4 a b v) (fl' := S.fl) (wl' := l.wl) w3_eq.symm (fun t9 a9 b9 ht9 ha9 hb9 hn hu => by
  have q9 : t9 = 0 ∨ t9 = 1 ∨ t9 = 2 ∨ t9 = 3 ∨ t9 = 4 ∨ t9 = 5 ∨ t9 = 6 ∨ t9 = 7 ∨ t9 = 8 ∨ t9 = 9 := by omega
  rcases q9 with rfl | rfl | rfl | rfl | rfl | rfl | rfl | rfl | rfl | rfl
  · exact hu.trans (w3_ne (f := S.lf) (fun z => absurd z.1 (by decide))).symm
  · exact hu.trans (w3_ne (f := S.lf) (fun z => absurd z.1 (by decide))).symm
  · exact hu.trans (w3_ne (f := S.lf) (fun z => absurd z.1 (by decide))).symm
  · exact hu
  · exact hu
  · exact hu
  · exact hu
  · exact hu.trans (w3_ne (f := S.lf) (fun z => absurd z.1 (by decide))).symm
  · exact hu.trans (w3_ne (fun z => hn ⟨rfl, z.2.1, z.2.2⟩)).symm
  · exact hu)
theorem MRq.wT9 (h : MRq Q S l μ) {a b n : Nat} (ha : a < 3) (hb : b < 3) (e1 : m = μ.sei (Q (21 + 3 * 9 + a)) b (nI n)) : MRq Q S (l.sWl a b n) m := h.wRow (t := 9) (by decide) ha hb e1 (lf' := S.lf) (fl' := S.fl) (wl' := w2 l.wl a b n) (congrArg nI (w2_eq (f := l.wl) (v := n))).symm (fun t9 a9 b9 ht9 ha9 hb9 hn hu => by
  have q9 : t9 = 0 ∨ t9 = 1 ∨ t9 = 2 ∨ t9 = 3 ∨ t9 = 4 ∨ t9 = 5 ∨ t9 = 6 ∨ t9 = 7 ∨ t9 = 8 ∨ t9 = 9 := by omega
  rcases q9 with rfl | rfl | rfl | rfl | rfl | rfl | rfl | rfl | rfl | rfl
  · exact hu
  · exact hu
  · exact hu
  · exact hu
  · exact hu
  · exact hu
  · exact hu
  · exact hu
  · exact hu
  · exact hu.trans (congrArg nI (w2_ne (f := l.wl) (v := n) (fun z => hn ⟨rfl, z.1, z.2⟩))).symm)
theorem MRq.wT3 (h : MRq Q S l μ) {a b : Nat} {v : Int32} {r : Row} (ha : a < 3) (hb : b < 3) (e1 : m = μ.sei (Q (21 + 3 * 3 + a)) b v) (g0 : v = r 0) (g1 : μ.ei (Q (21 + 3 * 4 + a)) b = r 1) (g2 : μ.ei (Q (21 + 3 * 5 + a)) b = r 2) (g3 : μ.ei (Q (21 + 3 * 6 + a)) b = r 3) : MRq Q (S.sFl a b (some r)) l m := h.wRow (t := 3) (by decide) ha hb e1 (lf' := S.lf) (fl' := w2 S.fl a b (some r)) (wl' := l.wl) (by unfold tv; rw [w2_eq]; exact g0) (fun t9 a9 b9 ht9 ha9 hb9 hn hu => by
  have q9 : t9 = 0 ∨ t9 = 1 ∨ t9 = 2 ∨ t9 = 3 ∨ t9 = 4 ∨ t9 = 5 ∨ t9 = 6 ∨ t9 = 7 ∨ t9 = 8 ∨ t9 = 9 := by omega
  rcases q9 with rfl | rfl | rfl | rfl | rfl | rfl | rfl | rfl | rfl | rfl
  · exact hu
  · exact hu
  · exact hu
  · have hab : ¬ (a9 = a ∧ b9 = b) := fun z => hn ⟨rfl, z.1, z.2⟩
    show tv 3 S.lf (w2 S.fl a b (some r)) l.wl a9 b9 _
    unfold tv
    rw [w2_ne hab]
    exact hu
  · show tv 4 S.lf (w2 S.fl a b (some r)) l.wl a9 b9 _
    by_cases hab : a9 = a ∧ b9 = b
    · obtain ⟨rfl, rfl⟩ := hab
      unfold tv
      rw [w2_eq]
      intro r9 hr9
      cases hr9
      exact g1
    · unfold tv
      rw [w2_ne hab]
      exact hu
  · show tv 5 S.lf (w2 S.fl a b (some r)) l.wl a9 b9 _
    by_cases hab : a9 = a ∧ b9 = b
    · obtain ⟨rfl, rfl⟩ := hab
      unfold tv
      rw [w2_eq]
      intro r9 hr9
      cases hr9
      exact g2
    · unfold tv
      rw [w2_ne hab]
      exact hu
  · show tv 6 S.lf (w2 S.fl a b (some r)) l.wl a9 b9 _
    by_cases hab : a9 = a ∧ b9 = b
    · obtain ⟨rfl, rfl⟩ := hab
      unfold tv
      rw [w2_eq]
      intro r9 hr9
      cases hr9
      exact g3
    · unfold tv
      rw [w2_ne hab]
      exact hu
  · exact hu
  · exact hu
  · exact hu)
theorem MRq.wT3n (h : MRq Q S l μ) {a b : Nat} (ha : a < 3) (hb : b < 3) (e1 : m = μ.sei (Q (21 + 3 * 3 + a)) b (-1)) : MRq Q (S.sFl a b none) l m := h.wRow (t := 3) (by decide) ha hb e1 (lf' := S.lf) (fl' := w2 S.fl a b none) (wl' := l.wl) (by unfold tv; rw [w2_eq]; rfl) (fun t9 a9 b9 ht9 ha9 hb9 hn hu => by
  have q9 : t9 = 0 ∨ t9 = 1 ∨ t9 = 2 ∨ t9 = 3 ∨ t9 = 4 ∨ t9 = 5 ∨ t9 = 6 ∨ t9 = 7 ∨ t9 = 8 ∨ t9 = 9 := by omega
  rcases q9 with rfl | rfl | rfl | rfl | rfl | rfl | rfl | rfl | rfl | rfl
  · exact hu
  · exact hu
  · exact hu
  · have hab : ¬ (a9 = a ∧ b9 = b) := fun z => hn ⟨rfl, z.1, z.2⟩
    show tv 3 S.lf (w2 S.fl a b none) l.wl a9 b9 _
    unfold tv
    rw [w2_ne hab]
    exact hu
  · show tv 4 S.lf (w2 S.fl a b none) l.wl a9 b9 _
    by_cases hab : a9 = a ∧ b9 = b
    · obtain ⟨rfl, rfl⟩ := hab
      unfold tv
      rw [w2_eq]
      intro r9 hr9
      cases hr9
    · unfold tv
      rw [w2_ne hab]
      exact hu
  · show tv 5 S.lf (w2 S.fl a b none) l.wl a9 b9 _
    by_cases hab : a9 = a ∧ b9 = b
    · obtain ⟨rfl, rfl⟩ := hab
      unfold tv
      rw [w2_eq]
      intro r9 hr9
      cases hr9
    · unfold tv
      rw [w2_ne hab]
      exact hu
  · show tv 6 S.lf (w2 S.fl a b none) l.wl a9 b9 _
    by_cases hab : a9 = a ∧ b9 = b
    · obtain ⟨rfl, rfl⟩ := hab
      unfold tv
      rw [w2_eq]
      intro r9 hr9
      cases hr9
    · unfold tv
      rw [w2_ne hab]
      exact hu
  · exact hu
  · exact hu
  · exact hu)
theorem MRq.wT4 (h : MRq Q S l μ) {a b : Nat} {v : Int32} {r r9 : Row} (ha : a < 3) (hb : b < 3) (e1 : m = μ.sei (Q (21 + 3 * 4 + a)) b v) (hr : S.fl a b = some r) (g0 : r9 0 = r 0) (g1 : r9 1 = v) (g2 : r9 2 = r 2) (g3 : r9 3 = r 3) : MRq Q (S.sFl a b (some r9)) l m := h.wRow (t := 4) (by decide) ha hb e1 (lf' := S.lf) (fl' := w2 S.fl a b (some r9)) (wl' := l.wl) (by unfold tv; rw [w2_eq]; intro r8 hr8; cases hr8; exact g1.symm) (fun t9 a9 b9 ht9 ha9 hb9 hn hu => by
  have q9 : t9 = 0 ∨ t9 = 1 ∨ t9 = 2 ∨ t9 = 3 ∨ t9 = 4 ∨ t9 = 5 ∨ t9 = 6 ∨ t9 = 7 ∨ t9 = 8 ∨ t9 = 9 := by omega
  rcases q9 with rfl | rfl | rfl | rfl | rfl | rfl | rfl | rfl | rfl | rfl
  · exact hu
  · exact hu
  · exact hu
  · show tv 3 S.lf (w2 S.fl a b (some r9)) l.wl a9 b9 _
    by_cases hab : a9 = a ∧ b9 = b
    · obtain ⟨rfl, rfl⟩ := hab
      unfold tv
      rw [w2_eq]
      show _ = r9 0
      rw [g0]
      unfold tv at hu
      rw [hr] at hu
      exact hu
    · unfold tv
      rw [w2_ne hab]
      exact hu
  · have hab : ¬ (a9 = a ∧ b9 = b) := fun z => hn ⟨rfl, z.1, z.2⟩
    show tv 4 S.lf (w2 S.fl a b (some r9)) l.wl a9 b9 _
    unfold tv
    rw [w2_ne hab]
    exact hu
  · show tv 5 S.lf (w2 S.fl a b (some r9)) l.wl a9 b9 _
    by_cases hab : a9 = a ∧ b9 = b
    · obtain ⟨rfl, rfl⟩ := hab
      unfold tv
      rw [w2_eq]
      intro r8 hr8
      cases hr8
      rw [g2]
      exact hu r hr
    · unfold tv
      rw [w2_ne hab]
      exact hu
  · show tv 6 S.lf (w2 S.fl a b (some r9)) l.wl a9 b9 _
    by_cases hab : a9 = a ∧ b9 = b
    · obtain ⟨rfl, rfl⟩ := hab
      unfold tv
      rw [w2_eq]
      intro r8 hr8
      cases hr8
      rw [g3]
      exact hu r hr
    · unfold tv
      rw [w2_ne hab]
      exact hu
  · exact hu
  · exact hu
  · exact hu)
theorem MRq.wT5 (h : MRq Q S l μ) {a b : Nat} {v : Int32} {r r9 : Row} (ha : a < 3) (hb : b < 3) (e1 : m = μ.sei (Q (21 + 3 * 5 + a)) b v) (hr : S.fl a b = some r) (g0 : r9 0 = r 0) (g1 : r9 1 = r 1) (g2 : r9 2 = v) (g3 : r9 3 = r 3) : MRq Q (S.sFl a b (some r9)) l m := h.wRow (t := 5) (by decide) ha hb e1 (lf' := S.lf) (fl' := w2 S.fl a b (some r9)) (wl' := l.wl) (by unfold tv; rw [w2_eq]; intro r8 hr8; cases hr8; exact g2.symm) (fun t9 a9 b9 ht9 ha9 hb9 hn hu => by
  have q9 : t9 = 0 ∨ t9 = 1 ∨ t9 = 2 ∨ t9 = 3 ∨ t9 = 4 ∨ t9 = 5 ∨ t9 = 6 ∨ t9 = 7 ∨ t9 = 8 ∨ t9 = 9 := by omega
  rcases q9 with rfl | rfl | rfl | rfl | rfl | rfl | rfl | rfl | rfl | rfl
  · exact hu
  · exact hu
  · exact hu
  · show tv 3 S.lf (w2 S.fl a b (some r9)) l.wl a9 b9 _
    by_cases hab : a9 = a ∧ b9 = b
    · obtain ⟨rfl, rfl⟩ := hab
      unfold tv
      rw [w2_eq]
      show _ = r9 0
      rw [g0]
      unfold tv at hu
      rw [hr] at hu
      exact hu
    · unfold tv
      rw [w2_ne hab]
      exact hu
  · show tv 4 S.lf (w2 S.fl a b (some r9)) l.wl a9 b9 _
    by_cases hab : a9 = a ∧ b9 = b
    · obtain ⟨rfl, rfl⟩ := hab
      unfold tv
      rw [w2_eq]
      intro r8 hr8
      cases hr8
      rw [g1]
      exact hu r hr
    · unfold tv
      rw [w2_ne hab]
      exact hu
  · have hab : ¬ (a9 = a ∧ b9 = b) := fun z => hn ⟨rfl, z.1, z.2⟩
    show tv 5 S.lf (w2 S.fl a b (some r9)) l.wl a9 b9 _
    unfold tv
    rw [w2_ne hab]
    exact hu
  · show tv 6 S.lf (w2 S.fl a b (some r9)) l.wl a9 b9 _
    by_cases hab : a9 = a ∧ b9 = b
    · obtain ⟨rfl, rfl⟩ := hab
      unfold tv
      rw [w2_eq]
      intro r8 hr8
      cases hr8
      rw [g3]
      exact hu r hr
    · unfold tv
      rw [w2_ne hab]
      exact hu
  · exact hu
  · exact hu
  · exact hu)
theorem MRq.wT6 (h : MRq Q S l μ) {a b : Nat} {v : Int32} {r r9 : Row} (ha : a < 3) (hb : b < 3) (e1 : m = μ.sei (Q (21 + 3 * 6 + a)) b v) (hr : S.fl a b = some r) (g0 : r9 0 = r 0) (g1 : r9 1 = r 1) (g2 : r9 2 = r 2) (g3 : r9 3 = v) : MRq Q (S.sFl a b (some r9)) l m := h.wRow (t := 6) (by decide) ha hb e1 (lf' := S.lf) (fl' := w2 S.fl a b (some r9)) (wl' := l.wl) (by unfold tv; rw [w2_eq]; intro r8 hr8; cases hr8; exact g3.symm) (fun t9 a9 b9 ht9 ha9 hb9 hn hu => by
  have q9 : t9 = 0 ∨ t9 = 1 ∨ t9 = 2 ∨ t9 = 3 ∨ t9 = 4 ∨ t9 = 5 ∨ t9 = 6 ∨ t9 = 7 ∨ t9 = 8 ∨ t9 = 9 := by omega
  rcases q9 with rfl | rfl | rfl | rfl | rfl | rfl | rfl | rfl | rfl | rfl
  · exact hu
  · exact hu
  · exact hu
  · show tv 3 S.lf (w2 S.fl a b (some r9)) l.wl a9 b9 _
    by_cases hab : a9 = a ∧ b9 = b
    · obtain ⟨rfl, rfl⟩ := hab
      unfold tv
      rw [w2_eq]
      show _ = r9 0
      rw [g0]
      unfold tv at hu
      rw [hr] at hu
      exact hu
    · unfold tv
      rw [w2_ne hab]
      exact hu
  · show tv 4 S.lf (w2 S.fl a b (some r9)) l.wl a9 b9 _
    by_cases hab : a9 = a ∧ b9 = b
    · obtain ⟨rfl, rfl⟩ := hab
      unfold tv
      rw [w2_eq]
      intro r8 hr8
      cases hr8
      rw [g1]
      exact hu r hr
    · unfold tv
      rw [w2_ne hab]
      exact hu
  · show tv 5 S.lf (w2 S.fl a b (some r9)) l.wl a9 b9 _
    by_cases hab : a9 = a ∧ b9 = b
    · obtain ⟨rfl, rfl⟩ := hab
      unfold tv
      rw [w2_eq]
      intro r8 hr8
      cases hr8
      rw [g2]
      exact hu r hr
    · unfold tv
      rw [w2_ne hab]
      exact hu
  · have hab : ¬ (a9 = a ∧ b9 = b) := fun z => hn ⟨rfl, z.1, z.2⟩
    show tv 6 S.lf (w2 S.fl a b (some r9)) l.wl a9 b9 _
    unfold tv
    rw [w2_ne hab]
    exact hu
  · exact hu
  · exact hu
  · exact hu)
theorem MRq.w288 (h : MRq Q S l μ) {v : Int32} (e1 : m = μ.sfi 288 (Q 0) v) : MRq Q (S.sSc 0 v) l m := by
  have hd : Dyn μ m := fun p hp => by rw [e1]; exact same_sfi (h.neD (by decide) hp)
  subst e1
  exact ⟨h.1, ⟨(fi_at rfl).trans sc_at.symm, h.2.1.2.1, h.2.1.2.2.1, h.2.1.2.2.2⟩, h.2.2.1, h.2.2.2.1, h.2.2.2.2.1.keep (fun _ _ => rfl) hd, h.2.2.2.2.2.1.keep (fun _ _ _ _ => rfl) hd, h.2.2.2.2.2.2.1.keep (fun _ _ _ _ => rfl) hd, h.2.2.2.2.2.2.2.1.keep (fun _ _ _ _ => rfl) hd, h.2.2.2.2.2.2.2.2.1.keep rfl hd, h.2.2.2.2.2.2.2.2.2.keep rfl hd⟩
theorem MRq.w289 (h : MRq Q S l μ) {v : Int32} (e1 : m = μ.sfi 289 (Q 0) (v + 1)) : MRq Q (S.sSc 1 v) l m := by
  have hd : Dyn μ m := fun p hp => by rw [e1]; exact same_sfi (h.neD (by decide) hp)
  subst e1
  exact ⟨h.1, ⟨h.2.1.1, (fi_at rfl).trans (congrArg (fun z => z + 1) (sc_at (S := S) (i := 1) (v := v)).symm), h.2.1.2.2.1, h.2.1.2.2.2⟩, h.2.2.1, h.2.2.2.1, h.2.2.2.2.1.keep (fun _ _ => rfl) hd, h.2.2.2.2.2.1.keep (fun _ _ _ _ => rfl) hd, h.2.2.2.2.2.2.1.keep (fun _ _ _ _ => rfl) hd, h.2.2.2.2.2.2.2.1.keep (fun _ _ _ _ => rfl) hd, h.2.2.2.2.2.2.2.2.1.keep rfl hd, h.2.2.2.2.2.2.2.2.2.keep rfl hd⟩
theorem MRq.w291 (h : MRq Q S l μ) {v : Int32} (e1 : m = μ.sfi 291 (Q 0) v) : MRq Q (S.sSc 2 v) l m := by
  have hd : Dyn μ m := fun p hp => by rw [e1]; exact same_sfi (h.neD (by decide) hp)
  subst e1
  exact ⟨h.1, ⟨h.2.1.1, h.2.1.2.1, (fi_at rfl).trans sc_at.symm, h.2.1.2.2.2⟩, h.2.2.1, h.2.2.2.1, h.2.2.2.2.1.keep (fun _ _ => rfl) hd, h.2.2.2.2.2.1.keep (fun _ _ _ _ => rfl) hd, h.2.2.2.2.2.2.1.keep (fun _ _ _ _ => rfl) hd, h.2.2.2.2.2.2.2.1.keep (fun _ _ _ _ => rfl) hd, h.2.2.2.2.2.2.2.2.1.keep rfl hd, h.2.2.2.2.2.2.2.2.2.keep rfl hd⟩
theorem MRq.w312 (h : MRq Q S l μ) {n : Nat} (e1 : m = μ.sfi 312 (Q 0) (nI n)) : MRq Q S (l.sN n) m := by
  have hd : Dyn μ m := fun p hp => by rw [e1]; exact same_sfi (h.neD (by decide) hp)
  subst e1
  exact ⟨h.1, ⟨h.2.1.1, h.2.1.2.1, h.2.1.2.2.1, fi_at rfl, h.2.1.2.2.2.2⟩, h.2.2.1, h.2.2.2.1, h.2.2.2.2.1.keep (fun _ _ => rfl) hd, h.2.2.2.2.2.1.keep (fun _ _ _ _ => rfl) hd, h.2.2.2.2.2.2.1.keep (fun _ _ _ _ => rfl) hd, h.2.2.2.2.2.2.2.1.keep (fun _ _ _ _ => rfl) hd, h.2.2.2.2.2.2.2.2.1.keep rfl hd, h.2.2.2.2.2.2.2.2.2.keep rfl hd⟩
theorem MRq.w290 (h : MRq Q S l μ) {v : Int32} (e1 : m = μ.sfi 290 (Q 0) v) : MRq Q S (l.sTh v) m := by
  have hd : Dyn μ m := fun p hp => by rw [e1]; exact same_sfi (h.neD (by decide) hp)
  subst e1
  exact ⟨h.1, ⟨h.2.1.1, h.2.1.2.1, h.2.1.2.2.1, h.2.1.2.2.2.1, fi_at rfl⟩, h.2.2.1, h.2.2.2.1, h.2.2.2.2.1.keep (fun _ _ => rfl) hd, h.2.2.2.2.2.1.keep (fun _ _ _ _ => rfl) hd, h.2.2.2.2.2.2.1.keep (fun _ _ _ _ => rfl) hd, h.2.2.2.2.2.2.2.1.keep (fun _ _ _ _ => rfl) hd, h.2.2.2.2.2.2.2.2.1.keep rfl hd, h.2.2.2.2.2.2.2.2.2.keep rfl hd⟩
theorem MRq.w314 (h : MRq Q S l μ) {v : Int64} (e1 : m = μ.sfl 314 (Q 0) v) : MRq Q S l m := by
  have hd : Dyn μ m := fun p hp => by rw [e1]; exact same_sfl (h.neD (by decide) hp)
  subst e1
  exact ⟨h.1, h.2.1, h.2.2.1, h.2.2.2.1, h.2.2.2.2.1.keep (fun _ _ => rfl) hd, h.2.2.2.2.2.1.keep (fun _ _ _ _ => rfl) hd, h.2.2.2.2.2.2.1.keep (fun _ _ _ _ => rfl) hd, h.2.2.2.2.2.2.2.1.keep (fun _ _ _ _ => rfl) hd, h.2.2.2.2.2.2.2.2.1.keep rfl hd, h.2.2.2.2.2.2.2.2.2.keep rfl hd⟩
/-- a list got row r at place k, the rest as it was -/
def PutAt (rs rs' : List Row) (k : Nat) (r : Row) : Prop := ∀ k9 r9, rs'[k9]? = some r9 → (k9 = k ∧ r9 = r) ∨ (k9 ≠ k ∧ rs[k9]? = some r9)
theorem PutAt.set {rs : List Row} {k : Nat} {r : Row} : PutAt rs (rs.set k r) k r := fun k9 r9 h => by
  rw [List.getElem?_set] at h
  by_cases c : k = k9
  · rw [if_pos c] at h
    by_cases c2 : k < rs.length
    · rw [if_pos c2] at h
      cases h
      exact Or.inl ⟨c.symm, rfl⟩
    · rw [if_neg c2] at h
      cases h
  · rw [if_neg c] at h
    exact Or.inr ⟨fun z => c z.symm, h⟩
theorem PutAt.app {rs : List Row} {r : Row} : PutAt rs (rs ++ [r]) rs.length r := fun k9 r9 h => by
  by_cases c : k9 < rs.length
  · rw [List.getElem?_append_left c] at h
    exact Or.inr ⟨by omega, h⟩
  · rw [List.getElem?_append_right (by omega)] at h
    have h0 : k9 - rs.length = 0 := by
      have := (List.getElem?_eq_some_iff.mp h).1
      have e : ([r] : List Row).length = 1 := rfl
      omega
    rw [h0] at h
    cases h
    exact Or.inl ⟨by omega, rfl⟩
theorem MRq.pRt (h : MRq Q S l μ) {e k p : Nat} {r : Row} {rs' : List Row} (he : e < 3) (e1 : m = μ.ser (Q (51 + e)) k (some p)) (hp : RowAt μ KIM p 3 r) (hrs : PutAt (S.rt e) rs' k r) (h8 : rs'.length ≤ 8) : MRq Q (S.sRt e rs') l m := by
  have hd : Dyn μ m := fun p hp => by rw [e1]; exact same_ser (h.neD (by omega) hp)
  have hQ : ∀ j, j < 90 → j ≠ 51 + e → m.er (Q j) = μ.er (Q j) := fun j hj hne => mer_row e1 (h.neQ hj (by omega) hne)
  have hB : mBase Q m := by
    obtain ⟨b1, b2, b3, b4, b5, b6⟩ := h.1
    refine ⟨by rw [e1]; exact b1, by rw [e1]; exact b2, by rw [e1]; exact b3, fun t a ht ha => by rw [hQ (7 + t) (by omega) (by omega)]; exact b4 t a ht ha, fun e he => by rw [hQ 6 (by omega) (by omega)]; exact b5 e he, fun i a hi ha => ⟨by rw [hQ (17 + i) (by omega) (by omega)]; exact (b6 i a hi ha).1, fun b hb => by rw [hQ (54 + 3 * i + a) (by omega) (by omega)]; exact (b6 i a hi ha).2 b hb⟩⟩
  have hT : mT Q m S.sc l.n l.th := by rw [e1]; exact h.2.1
  have h1 : m1 Q m S.ef S.cd l.rl l.ol := by rw [e1]; exact h.2.2.1
  have h2 : m2 Q m S.lf S.fl l.wl := by rw [e1]; exact h.2.2.2.1
  have kR : (51 + e < 51 ∨ 54 ≤ 51 + e) → mR Q m S.rt := fun z => h.2.2.2.2.1.keep (fun e he => hQ _ (by omega) (by omega)) hd
  have kP : (51 + e < 63 ∨ 72 ≤ 51 + e) → mP Q m S.wt := fun z => h.2.2.2.2.2.1.keep (fun a b ha hb => hQ _ (by omega) (by omega)) hd
  have kS : (51 + e < 72 ∨ 81 ≤ 51 + e) → mS Q m S.ses l.hs := fun z => h.2.2.2.2.2.2.1.keep (fun a b ha hb => hQ _ (by omega) (by omega)) hd
  have kB : 51 + e < 81 → mB Q m l.tk l.ht := fun z => h.2.2.2.2.2.2.2.1.keep (fun a b ha hb => hQ _ (by omega) (by omega)) hd
  have kL : 51 + e ≠ 20 → mLt Q m S.nt := fun z => h.2.2.2.2.2.2.2.2.1.keep (hQ 20 (by omega) (by omega)) hd
  have kO : mO Q m S.ou := h.2.2.2.2.2.2.2.2.2.keep (by rw [e1]; rfl) hd
  refine ⟨hB, hT, h1, h2, fun e9 he9 => ?_, (kP (by omega)), (kS (by omega)), (kB (by omega)), (kL (by omega)), kO⟩
  by_cases c : e9 = e
  · subst c
    show (u1 S.rt e9 rs' e9).length ≤ 8 ∧ ∀ k r, (u1 S.rt e9 rs' e9)[k]? = some r → _
    rw [u1_eq]
    refine ⟨h8, fun k9 r9 h9 => ?_⟩
    rcases hrs k9 r9 h9 with ⟨rfl, rfl⟩ | ⟨hne, h0⟩
    · exact ⟨p, mer_at e1, hp.same (hd p (by rw [hp.1]; decide))⟩
    · obtain ⟨p9, p1, p2⟩ := (h.rt he).2 k9 r9 h0
      exact ⟨p9, (mer_ap e1 (Or.inr hne)).trans p1, p2.same (hd p9 (by rw [p2.1]; decide))⟩
  · show (u1 S.rt e rs' e9).length ≤ 8 ∧ ∀ k r, (u1 S.rt e rs' e9)[k]? = some r → _
    rw [u1_ne c]
    refine ⟨(h.rt he9).1, fun k9 r9 h9 => ?_⟩
    obtain ⟨p9, p1, p2⟩ := (h.rt he9).2 k9 r9 h9
    exact ⟨p9, by rw [hQ (51 + e9) (by omega) (by omega)]; exact p1, p2.same (hd p9 (by rw [p2.1]; decide))⟩
theorem MRq.subRt (h : MRq Q S l μ) {e : Nat} {rs' : List Row} (hrs : ∀ (k : Nat) (r : Row), rs'[k]? = some r → (S.rt e)[k]? = some r) (h8 : rs'.length ≤ 8) : MRq Q (S.sRt e rs') l μ := by
  have h9 : mR Q μ (u1 S.rt e rs') := fun e9 he9 => by
    by_cases c : e9 = e
    · subst c
      rw [u1_eq]
      exact ⟨h8, fun k r hk => (h.rt he9).2 k r (hrs k r hk)⟩
    · rw [u1_ne c]
      exact h.rt he9
  exact ⟨h.1, h.2.1, h.2.2.1, h.2.2.2.1, h9, h.2.2.2.2.2⟩
theorem MRq.pWt (h : MRq Q S l μ) {a b k p : Nat} {r : Row} {rs' : List Row} (ha : a < 3) (hb : b < 3) (e1 : m = μ.ser (Q (63 + 3 * a + b)) k (some p)) (hp : RowAt μ KIM p 3 r) (hrs : PutAt (S.wt a b) rs' k r) (h4 : rs'.length ≤ 4) : MRq Q (S.sWt a b rs') l m := by
  have hd : Dyn μ m := fun p hp => by rw [e1]; exact same_ser (h.neD (by omega) hp)
  have hQ : ∀ j, j < 90 → j ≠ 63 + 3 * a + b → m.er (Q j) = μ.er (Q j) := fun j hj hne => mer_row e1 (h.neQ hj (by omega) hne)
  have hB : mBase Q m := by
    obtain ⟨b1, b2, b3, b4, b5, b6⟩ := h.1
    refine ⟨by rw [e1]; exact b1, by rw [e1]; exact b2, by rw [e1]; exact b3, fun t a ht ha => by rw [hQ (7 + t) (by omega) (by omega)]; exact b4 t a ht ha, fun e he => by rw [hQ 6 (by omega) (by omega)]; exact b5 e he, fun i a hi ha => ⟨by rw [hQ (17 + i) (by omega) (by omega)]; exact (b6 i a hi ha).1, fun b hb => by rw [hQ (54 + 3 * i + a) (by omega) (by omega)]; exact (b6 i a hi ha).2 b hb⟩⟩
  have hT : mT Q m S.sc l.n l.th := by rw [e1]; exact h.2.1
  have h1 : m1 Q m S.ef S.cd l.rl l.ol := by rw [e1]; exact h.2.2.1
  have h2 : m2 Q m S.lf S.fl l.wl := by rw [e1]; exact h.2.2.2.1
  have kR : (63 + 3 * a + b < 51 ∨ 54 ≤ 63 + 3 * a + b) → mR Q m S.rt := fun z => h.2.2.2.2.1.keep (fun e he => hQ _ (by omega) (by omega)) hd
  have kP : (63 + 3 * a + b < 63 ∨ 72 ≤ 63 + 3 * a + b) → mP Q m S.wt := fun z => h.2.2.2.2.2.1.keep (fun a b ha hb => hQ _ (by omega) (by omega)) hd
  have kS : (63 + 3 * a + b < 72 ∨ 81 ≤ 63 + 3 * a + b) → mS Q m S.ses l.hs := fun z => h.2.2.2.2.2.2.1.keep (fun a b ha hb => hQ _ (by omega) (by omega)) hd
  have kB : 63 + 3 * a + b < 81 → mB Q m l.tk l.ht := fun z => h.2.2.2.2.2.2.2.1.keep (fun a b ha hb => hQ _ (by omega) (by omega)) hd
  have kL : 63 + 3 * a + b ≠ 20 → mLt Q m S.nt := fun z => h.2.2.2.2.2.2.2.2.1.keep (hQ 20 (by omega) (by omega)) hd
  have kO : mO Q m S.ou := h.2.2.2.2.2.2.2.2.2.keep (by rw [e1]; rfl) hd
  refine ⟨hB, hT, h1, h2, (kR (by omega)), fun a9 b9 ha9 hb9 => ?_, (kS (by omega)), (kB (by omega)), (kL (by omega)), kO⟩
  by_cases c : a9 = a ∧ b9 = b
  · obtain ⟨rfl, rfl⟩ := c
    show (w2 S.wt a9 b9 rs' a9 b9).length ≤ 4 ∧ ∀ k r, (w2 S.wt a9 b9 rs' a9 b9)[k]? = some r → _
    rw [w2_eq]
    refine ⟨h4, fun k9 r9 h9 => ?_⟩
    rcases hrs k9 r9 h9 with ⟨rfl, rfl⟩ | ⟨hne, h0⟩
    · exact ⟨p, mer_at e1, hp.same (hd p (by rw [hp.1]; decide))⟩
    · obtain ⟨p9, p1, p2⟩ := (h.wt ha hb).2 k9 r9 h0
      exact ⟨p9, (mer_ap e1 (Or.inr hne)).trans p1, p2.same (hd p9 (by rw [p2.1]; decide))⟩
  · show (w2 S.wt a b rs' a9 b9).length ≤ 4 ∧ ∀ k r, (w2 S.wt a b rs' a9 b9)[k]? = some r → _
    rw [w2_ne c]
    refine ⟨(h.wt ha9 hb9).1, fun k9 r9 h9 => ?_⟩
    obtain ⟨p9, p1, p2⟩ := (h.wt ha9 hb9).2 k9 r9 h9
    exact ⟨p9, by rw [hQ (63 + 3 * a9 + b9) (by omega) (by omega)]; exact p1, p2.same (hd p9 (by rw [p2.1]; decide))⟩
theorem MRq.subWt (h : MRq Q S l μ) {a b : Nat} {rs' : List Row} (hrs : ∀ (k : Nat) (r : Row), rs'[k]? = some r → (S.wt a b)[k]? = some r) (h4 : rs'.length ≤ 4) : MRq Q (S.sWt a b rs') l μ := by
  have h9 : mP Q μ (w2 S.wt a b rs') := fun a9 b9 ha9 hb9 => by
    by_cases c : a9 = a ∧ b9 = b
    · obtain ⟨rfl, rfl⟩ := c
      rw [w2_eq]
      exact ⟨h4, fun k r hk => (h.wt ha9 hb9).2 k r (hrs k r hk)⟩
    · rw [w2_ne c]
      exact h.wt ha9 hb9
  exact ⟨h.1, h.2.1, h.2.2.1, h.2.2.2.1, h.2.2.2.2.1, h9, h.2.2.2.2.2.2⟩
theorem KSE_ne {a b w a' b' w' : Nat} (hb : b < 3) (hw : w < 3) (hb' : b' < 3) (hw' : w' < 3) (h : ¬ (a = a' ∧ b = b' ∧ w = w')) : KSE a b w ≠ KSE a' b' w' := fun e => by unfold KSE at e; omega
theorem KTK_ne {a b w a' b' w' : Nat} (hb : b < 3) (hw : w < 3) (hb' : b' < 3) (hw' : w' < 3) (h : ¬ (a = a' ∧ b = b' ∧ w = w')) : KTK a b w ≠ KTK a' b' w' := fun e => by unfold KTK at e; omega
theorem MRq.pSe (h : MRq Q S l μ) {a b w s : Nat} {o : Option Ses} (ha : a < 3) (hb : b < 3) (hw : w < 3) (e1 : m = μ.ser (Q (72 + 3 * a + b)) w (some s)) (k1 : μ.kd s = KSE a b w) (k2 : μ.ln s = 9) (k3 : sesM (μ.ei s) o) : MRq Q (S.sSes a b w o) (l.sHs a b w False) m := by
  have hd : Dyn μ m := fun p hp => by rw [e1]; exact same_ser (h.neD (by omega) hp)
  have hQ : ∀ j, j < 90 → j ≠ 72 + 3 * a + b → m.er (Q j) = μ.er (Q j) := fun j hj hne => mer_row e1 (h.neQ hj (by omega) hne)
  have hB : mBase Q m := by
    obtain ⟨b1, b2, b3, b4, b5, b6⟩ := h.1
    refine ⟨by rw [e1]; exact b1, by rw [e1]; exact b2, by rw [e1]; exact b3, fun t a ht ha => by rw [hQ (7 + t) (by omega) (by omega)]; exact b4 t a ht ha, fun e he => by rw [hQ 6 (by omega) (by omega)]; exact b5 e he, fun i a hi ha => ⟨by rw [hQ (17 + i) (by omega) (by omega)]; exact (b6 i a hi ha).1, fun b hb => by rw [hQ (54 + 3 * i + a) (by omega) (by omega)]; exact (b6 i a hi ha).2 b hb⟩⟩
  have hT : mT Q m S.sc l.n l.th := by rw [e1]; exact h.2.1
  have h1 : m1 Q m S.ef S.cd l.rl l.ol := by rw [e1]; exact h.2.2.1
  have h2 : m2 Q m S.lf S.fl l.wl := by rw [e1]; exact h.2.2.2.1
  have kR : (72 + 3 * a + b < 51 ∨ 54 ≤ 72 + 3 * a + b) → mR Q m S.rt := fun z => h.2.2.2.2.1.keep (fun e he => hQ _ (by omega) (by omega)) hd
  have kP : (72 + 3 * a + b < 63 ∨ 72 ≤ 72 + 3 * a + b) → mP Q m S.wt := fun z => h.2.2.2.2.2.1.keep (fun a b ha hb => hQ _ (by omega) (by omega)) hd
  have kS : (72 + 3 * a + b < 72 ∨ 81 ≤ 72 + 3 * a + b) → mS Q m S.ses l.hs := fun z => h.2.2.2.2.2.2.1.keep (fun a b ha hb => hQ _ (by omega) (by omega)) hd
  have kB : 72 + 3 * a + b < 81 → mB Q m l.tk l.ht := fun z => h.2.2.2.2.2.2.2.1.keep (fun a b ha hb => hQ _ (by omega) (by omega)) hd
  have kL : 72 + 3 * a + b ≠ 20 → mLt Q m S.nt := fun z => h.2.2.2.2.2.2.2.2.1.keep (hQ 20 (by omega) (by omega)) hd
  have kO : mO Q m S.ou := h.2.2.2.2.2.2.2.2.2.keep (by rw [e1]; rfl) hd
  refine ⟨hB, hT, h1, h2, (kR (by omega)), (kP (by omega)), fun a9 b9 w9 ha9 hb9 hw9 hh => ?_, (kB (by omega)), (kL (by omega)), kO⟩
  have z : SameAt μ m s := hd s (by rw [k1]; unfold KSE; omega)
  by_cases c : a9 = a ∧ b9 = b ∧ w9 = w
  · obtain ⟨rfl, rfl, rfl⟩ := c
    refine ⟨s, mer_at e1, by rw [z.1]; exact k1, by rw [z.2.2.2.2.1]; exact k2, ?_⟩
    rw [z.2.2.2.2.2.1]
    show sesM _ (w3 S.ses a9 b9 w9 o a9 b9 w9)
    rw [w3_eq]
    exact k3
  · have hh9 : ¬ w3 l.hs a b w False a9 b9 w9 := hh
    rw [w3_ne c] at hh9
    obtain ⟨s9, s1, s2, s3, s4⟩ := h.se ha9 hb9 hw9 hh9
    have z9 : SameAt μ m s9 := hd s9 (by rw [s2]; unfold KSE; omega)
    refine ⟨s9, ?_, by rw [z9.1]; exact s2, by rw [z9.2.2.2.2.1]; exact s3, ?_⟩
    · by_cases c2 : 72 + 3 * a9 + b9 = 72 + 3 * a + b
      · have c3 : w9 ≠ w := fun z => c ⟨by omega, by omega, z⟩
        exact (mer_ap e1 (Or.inr c3)).trans s1
      · rw [hQ _ (by omega) c2]; exact s1
    · rw [z9.2.2.2.2.2.1]
      show sesM _ (w3 S.ses a b w o a9 b9 w9)
      rw [w3_ne c]
      exact s4
theorem MRq.pTk (h : MRq Q S l μ) {a b w s : Nat} {v : Int64} (ha : a < 3) (hb : b < 3) (hw : w < 3) (e1 : m = μ.ser (Q (81 + 3 * a + b)) w (some s)) (k1 : μ.kd s = KTK a b w) (k2 : μ.ln s = 40) (k3 : ∀ c, c < 40 → μ.ei s c = BITn v c) : MRq Q S ((l.sHt a b w False).sTk a b w v) m := by
  have hd : Dyn μ m := fun p hp => by rw [e1]; exact same_ser (h.neD (by omega) hp)
  have hQ : ∀ j, j < 90 → j ≠ 81 + 3 * a + b → m.er (Q j) = μ.er (Q j) := fun j hj hne => mer_row e1 (h.neQ hj (by omega) hne)
  have hB : mBase Q m := by
    obtain ⟨b1, b2, b3, b4, b5, b6⟩ := h.1
    refine ⟨by rw [e1]; exact b1, by rw [e1]; exact b2, by rw [e1]; exact b3, fun t a ht ha => by rw [hQ (7 + t) (by omega) (by omega)]; exact b4 t a ht ha, fun e he => by rw [hQ 6 (by omega) (by omega)]; exact b5 e he, fun i a hi ha => ⟨by rw [hQ (17 + i) (by omega) (by omega)]; exact (b6 i a hi ha).1, fun b hb => by rw [hQ (54 + 3 * i + a) (by omega) (by omega)]; exact (b6 i a hi ha).2 b hb⟩⟩
  have hT : mT Q m S.sc l.n l.th := by rw [e1]; exact h.2.1
  have h1 : m1 Q m S.ef S.cd l.rl l.ol := by rw [e1]; exact h.2.2.1
  have h2 : m2 Q m S.lf S.fl l.wl := by rw [e1]; exact h.2.2.2.1
  have kR : (81 + 3 * a + b < 51 ∨ 54 ≤ 81 + 3 * a + b) → mR Q m S.rt := fun z => h.2.2.2.2.1.keep (fun e he => hQ _ (by omega) (by omega)) hd
  have kP : (81 + 3 * a + b < 63 ∨ 72 ≤ 81 + 3 * a + b) → mP Q m S.wt := fun z => h.2.2.2.2.2.1.keep (fun a b ha hb => hQ _ (by omega) (by omega)) hd
  have kS : (81 + 3 * a + b < 72 ∨ 81 ≤ 81 + 3 * a + b) → mS Q m S.ses l.hs := fun z => h.2.2.2.2.2.2.1.keep (fun a b ha hb => hQ _ (by omega) (by omega)) hd
  have kB : 81 + 3 * a + b < 81 → mB Q m l.tk l.ht := fun z => h.2.2.2.2.2.2.2.1.keep (fun a b ha hb => hQ _ (by omega) (by omega)) hd
  have kL : 81 + 3 * a + b ≠ 20 → mLt Q m S.nt := fun z => h.2.2.2.2.2.2.2.2.1.keep (hQ 20 (by omega) (by omega)) hd
  have kO : mO Q m S.ou := h.2.2.2.2.2.2.2.2.2.keep (by rw [e1]; rfl) hd
  refine ⟨hB, hT, h1, h2, (kR (by omega)), (kP (by omega)), (kS (by omega)), fun a9 b9 w9 ha9 hb9 hw9 hh => ?_, (kL (by omega)), kO⟩
  have z : SameAt μ m s := hd s (by rw [k1]; unfold KTK; omega)
  by_cases c : a9 = a ∧ b9 = b ∧ w9 = w
  · obtain ⟨rfl, rfl, rfl⟩ := c
    refine ⟨s, mer_at e1, by rw [z.1]; exact k1, by rw [z.2.2.2.2.1]; exact k2, ?_⟩
    rw [z.2.2.2.2.2.1]
    show ∀ c, c < 40 → μ.ei s c = BITn (w3 l.tk a9 b9 w9 v a9 b9 w9) c
    rw [w3_eq]
    exact k3
  · have hh9 : ¬ w3 l.ht a b w False a9 b9 w9 := hh
    rw [w3_ne c] at hh9
    obtain ⟨s9, s1, s2, s3, s4⟩ := h.tk ha9 hb9 hw9 hh9
    have z9 : SameAt μ m s9 := hd s9 (by rw [s2]; unfold KTK; omega)
    refine ⟨s9, ?_, by rw [z9.1]; exact s2, by rw [z9.2.2.2.2.1]; exact s3, ?_⟩
    · by_cases c2 : 81 + 3 * a9 + b9 = 81 + 3 * a + b
      · have c3 : w9 ≠ w := fun z => c ⟨by omega, by omega, z⟩
        exact (mer_ap e1 (Or.inr c3)).trans s1
      · rw [hQ _ (by omega) c2]; exact s1
    · rw [z9.2.2.2.2.2.1]
      show ∀ c, c < 40 → μ.ei s9 c = BITn (w3 l.tk a b w v a9 b9 w9) c
      rw [w3_ne c]
      exact s4
theorem MRq.hSe (h : MRq Q S l μ) {a b w s k : Nat} (hk : μ.kd s = KSE a b w) (ha : a < 3) (hb : b < 3) (hw : w < 3) : MRq Q S (l.sHs a b w True) (μ.skd s k) := by
  have hs : ∀ z, μ.kd z ≠ KSE a b w → SameAt μ (μ.skd s k) z := fun z hz => same_skd (fun e => hz (by rw [e]; exact hk))
  have hj : ∀ j, j < 90 → KM j ≠ KSE a b w := fun j hj => KM_hi hj (by unfold KSE; omega)
  have him : KIM ≠ KSE a b w := fun e => by have e9 : 11 + 32 * 261 = 11 + 32 * (200 + 9 * a + 3 * b + w) := e; omega
  have hlr : KLR ≠ KSE a b w := fun e => by have e9 : 11 + 32 * 260 = 11 + 32 * (200 + 9 * a + 3 * b + w) := e; omega
  have hoa : KOA ≠ KSE a b w := fun e => by have e9 : 17 + 32 * 262 = 11 + 32 * (200 + 9 * a + 3 * b + w) := e; omega
  refine ⟨⟨fun j hj9 => by rw [(hs (Q j) (by rw [h.kd hj9]; exact hj j hj9)).1]; exact h.kd hj9, h.1.2.1, h.1.2.2⟩, h.2.1, h.2.2.1, h.2.2.2.1, fun e he => ⟨(h.rt he).1, fun k9 r9 h9 => ?_⟩, fun a9 b9 ha9 hb9 => ⟨(h.wt ha9 hb9).1, fun k9 r9 h9 => ?_⟩, fun a9 b9 w9 ha9 hb9 hw9 hh => ?_, fun a9 b9 w9 ha9 hb9 hw9 hh => ?_, ?_, ?_⟩
  · obtain ⟨p, p1, p2⟩ := (h.rt he).2 k9 r9 h9
    exact ⟨p, p1, p2.same (hs p (by rw [p2.1]; exact him))⟩
  · obtain ⟨p, p1, p2⟩ := (h.wt ha9 hb9).2 k9 r9 h9
    exact ⟨p, p1, p2.same (hs p (by rw [p2.1]; exact him))⟩
  · have hh9 : ¬ w3 l.hs a b w True a9 b9 w9 := hh
    have c : ¬ (a9 = a ∧ b9 = b ∧ w9 = w) := fun z => hh9 (by rw [z.1, z.2.1, z.2.2, w3_eq]; trivial)
    rw [w3_ne c] at hh9
    obtain ⟨s9, s1, s2, s3, s4⟩ := h.se ha9 hb9 hw9 hh9
    exact ⟨s9, s1, by rw [(hs s9 (by rw [s2]; exact KSE_ne hb9 hw9 hb hw c)).1]; exact s2, s3, s4⟩
  · obtain ⟨s9, s1, s2, s3, s4⟩ := h.tk ha9 hb9 hw9 hh
    exact ⟨s9, s1, by rw [(hs s9 (by rw [s2]; unfold KTK KSE; omega)).1]; exact s2, s3, s4⟩
  · obtain ⟨h60, xs, x1, x2, x3⟩ := h.nt
    exact ⟨h60, xs, x1, x2, x3.imp fun p _ r hp => hp.same (hs p (by rw [hp.1]; exact hlr))⟩
  · obtain ⟨h60, A, a1, a2, a3, a4⟩ := h.ou
    refine ⟨h60, A, a1, by rw [(hs A (by rw [a2]; exact hoa)).1]; exact a2, a3, fun k9 r9 h9 => ?_⟩
    obtain ⟨p, p1, p2⟩ := a4 k9 r9 h9
    exact ⟨p, p1, p2.same (hs p (by rw [p2.1]; exact him))⟩
theorem MRq.hTk (h : MRq Q S l μ) {a b w s k : Nat} (hk : μ.kd s = KTK a b w) (ha : a < 3) (hb : b < 3) (hw : w < 3) : MRq Q S (l.sHt a b w True) (μ.skd s k) := by
  have hs : ∀ z, μ.kd z ≠ KTK a b w → SameAt μ (μ.skd s k) z := fun z hz => same_skd (fun e => hz (by rw [e]; exact hk))
  have hj : ∀ j, j < 90 → KM j ≠ KTK a b w := fun j hj => KM_hi hj (by unfold KTK; omega)
  have him : KIM ≠ KTK a b w := fun e => by have e9 : 11 + 32 * 261 = 12 + 32 * (230 + 9 * a + 3 * b + w) := e; omega
  have hlr : KLR ≠ KTK a b w := fun e => by have e9 : 11 + 32 * 260 = 12 + 32 * (230 + 9 * a + 3 * b + w) := e; omega
  have hoa : KOA ≠ KTK a b w := fun e => by have e9 : 17 + 32 * 262 = 12 + 32 * (230 + 9 * a + 3 * b + w) := e; omega
  refine ⟨⟨fun j hj9 => by rw [(hs (Q j) (by rw [h.kd hj9]; exact hj j hj9)).1]; exact h.kd hj9, h.1.2.1, h.1.2.2⟩, h.2.1, h.2.2.1, h.2.2.2.1, fun e he => ⟨(h.rt he).1, fun k9 r9 h9 => ?_⟩, fun a9 b9 ha9 hb9 => ⟨(h.wt ha9 hb9).1, fun k9 r9 h9 => ?_⟩, fun a9 b9 w9 ha9 hb9 hw9 hh => ?_, fun a9 b9 w9 ha9 hb9 hw9 hh => ?_, ?_, ?_⟩
  · obtain ⟨p, p1, p2⟩ := (h.rt he).2 k9 r9 h9
    exact ⟨p, p1, p2.same (hs p (by rw [p2.1]; exact him))⟩
  · obtain ⟨p, p1, p2⟩ := (h.wt ha9 hb9).2 k9 r9 h9
    exact ⟨p, p1, p2.same (hs p (by rw [p2.1]; exact him))⟩
  · obtain ⟨s9, s1, s2, s3, s4⟩ := h.se ha9 hb9 hw9 hh
    exact ⟨s9, s1, by rw [(hs s9 (by rw [s2]; unfold KSE KTK; omega)).1]; exact s2, s3, s4⟩
  · have hh9 : ¬ w3 l.ht a b w True a9 b9 w9 := hh
    have c : ¬ (a9 = a ∧ b9 = b ∧ w9 = w) := fun z => hh9 (by rw [z.1, z.2.1, z.2.2, w3_eq]; trivial)
    rw [w3_ne c] at hh9
    obtain ⟨s9, s1, s2, s3, s4⟩ := h.tk ha9 hb9 hw9 hh9
    exact ⟨s9, s1, by rw [(hs s9 (by rw [s2]; exact KTK_ne hb9 hw9 hb hw c)).1]; exact s2, s3, s4⟩
  · obtain ⟨h60, xs, x1, x2, x3⟩ := h.nt
    exact ⟨h60, xs, x1, x2, x3.imp fun p _ r hp => hp.same (hs p (by rw [hp.1]; exact hlr))⟩
  · obtain ⟨h60, A, a1, a2, a3, a4⟩ := h.ou
    refine ⟨h60, A, a1, by rw [(hs A (by rw [a2]; exact hoa)).1]; exact a2, a3, fun k9 r9 h9 => ?_⟩
    obtain ⟨p, p1, p2⟩ := a4 k9 r9 h9
    exact ⟨p, p1, p2.same (hs p (by rw [p2.1]; exact him))⟩
theorem MRq.cSe (h : MRq Q S l μ) {a b w s i : Nat} {v : Int32} {r r9 : Ses} (hr : S.ses a b w = some r) (g0 : r9.1 0 = r.1 0) (g1 : r9.1 i = v) (g2 : ∀ j, j < 9 → j ≠ i → r9.1 j = r.1 j) (ha : a < 3) (hb : b < 3) (hw : w < 3) (hs : μ.er (Q (72 + 3 * a + b)) w = some s) (hk : μ.kd s = KSE a b w) (e1 : m = μ.sei s i v) : MRq Q (S.sSes a b w (some r9)) l m := by
  have hz : ∀ z, μ.kd z ≠ KSE a b w → SameAt μ m z := fun z hz => by rw [e1]; exact same_sei (fun e => hz (by rw [e]; exact hk))
  have hj : ∀ j, j < 90 → Q j ≠ s := fun j hj e => KM_hi hj (k := KSE a b w) (by unfold KSE; omega) (by rw [← h.kd hj, e, hk])
  have him : KIM ≠ KSE a b w := fun e => by have e9 : 11 + 32 * 261 = 11 + 32 * (200 + 9 * a + 3 * b + w) := e; omega
  have hlr : KLR ≠ KSE a b w := fun e => by have e9 : 11 + 32 * 260 = 11 + 32 * (200 + 9 * a + 3 * b + w) := e; omega
  have hoa : KOA ≠ KSE a b w := fun e => by have e9 : 17 + 32 * 262 = 11 + 32 * (200 + 9 * a + 3 * b + w) := e; omega
  have h1 : m1 Q m S.ef S.cd l.rl l.ol := h.2.2.1.keep fun j j1 j2 => mei_row e1 (hj j (by omega))
  have h2 : m2 Q m S.lf S.fl l.wl := h.2.2.2.1.keep fun j j1 j2 => mei_row e1 (hj j (by omega))
  have hR : mR Q m S.rt := fun e he => ⟨(h.rt he).1, fun k9 r9 h9 => by
    obtain ⟨p, p1, p2⟩ := (h.rt he).2 k9 r9 h9
    exact ⟨p, by rw [e1]; exact p1, p2.same (hz p (by rw [p2.1]; exact him))⟩⟩
  have hP : mP Q m S.wt := fun a9 b9 ha9 hb9 => ⟨(h.wt ha9 hb9).1, fun k9 r9 h9 => by
    obtain ⟨p, p1, p2⟩ := (h.wt ha9 hb9).2 k9 r9 h9
    exact ⟨p, by rw [e1]; exact p1, p2.same (hz p (by rw [p2.1]; exact him))⟩⟩
  have hL : mLt Q m S.nt := by
    obtain ⟨h60, xs, x1, x2, x3⟩ := h.nt
    exact ⟨h60, xs, x1, by rw [e1]; exact x2, x3.imp fun p _ r hp => hp.same (hz p (by rw [hp.1]; exact hlr))⟩
  have hO : mO Q m S.ou := by
    obtain ⟨h60, A, a1, a2, a3, a4⟩ := h.ou
    have zA := hz A (by rw [a2]; exact hoa)
    refine ⟨h60, A, by rw [e1]; exact a1, by rw [zA.1]; exact a2, by rw [zA.2.2.2.2.1]; exact a3, fun k9 r9 h9 => ?_⟩
    obtain ⟨p, p1, p2⟩ := a4 k9 r9 h9
    exact ⟨p, by rw [zA.2.2.2.2.2.2.1]; exact p1, p2.same (hz p (by rw [p2.1]; exact him))⟩
  refine ⟨by rw [e1]; exact h.1, by rw [e1]; exact h.2.1, h1, h2, hR, hP, fun a9 b9 w9 ha9 hb9 hw9 hh => ?_, fun a9 b9 w9 ha9 hb9 hw9 hh => ?_, hL, hO⟩
  · obtain ⟨s9, s1, s2, s3, s4⟩ := h.se ha9 hb9 hw9 hh
    by_cases c : a9 = a ∧ b9 = b ∧ w9 = w
    · obtain ⟨rfl, rfl, rfl⟩ := c
      cases hs.symm.trans s1
      refine ⟨s, by rw [e1]; exact s1, by rw [e1]; exact s2, by rw [e1]; exact s3, ?_⟩
      show sesM _ (w3 S.ses a9 b9 w9 (some r9) a9 b9 w9)
      rw [w3_eq]
      rw [hr] at s4
      refine ⟨by rw [g0]; exact s4.1, fun j hj9 => ?_⟩
      by_cases c2 : j = i
      · subst c2
        exact (mei_at e1).trans g1.symm
      · exact (mei_ap e1 (Or.inr c2)).trans ((s4.2 j hj9).trans (g2 j hj9 c2).symm)
    · have z9 := hz s9 (by rw [s2]; exact KSE_ne hb9 hw9 hb hw c)
      refine ⟨s9, by rw [e1]; exact s1, by rw [z9.1]; exact s2, by rw [z9.2.2.2.2.1]; exact s3, ?_⟩
      rw [z9.2.2.2.2.2.1]
      show sesM _ (w3 S.ses a b w (some r9) a9 b9 w9)
      rw [w3_ne c]
      exact s4
  · obtain ⟨s9, s1, s2, s3, s4⟩ := h.tk ha9 hb9 hw9 hh
    have z9 := hz s9 (by rw [s2]; unfold KTK KSE; omega)
    exact ⟨s9, by rw [e1]; exact s1, by rw [z9.1]; exact s2, by rw [z9.2.2.2.2.1]; exact s3, by rw [z9.2.2.2.2.2.1]; exact s4⟩
theorem MRq.cTk (h : MRq Q S l μ) {a b w s i : Nat} {v : Int32} {y : Int64} (g1 : BITn y i = v) (g2 : ∀ c, c < 40 → c ≠ i → BITn y c = BITn (l.tk a b w) c) (ha : a < 3) (hb : b < 3) (hw : w < 3) (hs : μ.er (Q (81 + 3 * a + b)) w = some s) (hk : μ.kd s = KTK a b w) (e1 : m = μ.sei s i v) : MRq Q S (l.sTk a b w y) m := by
  have hz : ∀ z, μ.kd z ≠ KTK a b w → SameAt μ m z := fun z hz => by rw [e1]; exact same_sei (fun e => hz (by rw [e]; exact hk))
  have hj : ∀ j, j < 90 → Q j ≠ s := fun j hj e => KM_hi hj (k := KTK a b w) (by unfold KTK; omega) (by rw [← h.kd hj, e, hk])
  have him : KIM ≠ KTK a b w := fun e => by have e9 : 11 + 32 * 261 = 12 + 32 * (230 + 9 * a + 3 * b + w) := e; omega
  have hlr : KLR ≠ KTK a b w := fun e => by have e9 : 11 + 32 * 260 = 12 + 32 * (230 + 9 * a + 3 * b + w) := e; omega
  have hoa : KOA ≠ KTK a b w := fun e => by have e9 : 17 + 32 * 262 = 12 + 32 * (230 + 9 * a + 3 * b + w) := e; omega
  have h1 : m1 Q m S.ef S.cd l.rl l.ol := h.2.2.1.keep fun j j1 j2 => mei_row e1 (hj j (by omega))
  have h2 : m2 Q m S.lf S.fl l.wl := h.2.2.2.1.keep fun j j1 j2 => mei_row e1 (hj j (by omega))
  have hR : mR Q m S.rt := fun e he => ⟨(h.rt he).1, fun k9 r9 h9 => by
    obtain ⟨p, p1, p2⟩ := (h.rt he).2 k9 r9 h9
    exact ⟨p, by rw [e1]; exact p1, p2.same (hz p (by rw [p2.1]; exact him))⟩⟩
  have hP : mP Q m S.wt := fun a9 b9 ha9 hb9 => ⟨(h.wt ha9 hb9).1, fun k9 r9 h9 => by
    obtain ⟨p, p1, p2⟩ := (h.wt ha9 hb9).2 k9 r9 h9
    exact ⟨p, by rw [e1]; exact p1, p2.same (hz p (by rw [p2.1]; exact him))⟩⟩
  have hL : mLt Q m S.nt := by
    obtain ⟨h60, xs, x1, x2, x3⟩ := h.nt
    exact ⟨h60, xs, x1, by rw [e1]; exact x2, x3.imp fun p _ r hp => hp.same (hz p (by rw [hp.1]; exact hlr))⟩
  have hO : mO Q m S.ou := by
    obtain ⟨h60, A, a1, a2, a3, a4⟩ := h.ou
    have zA := hz A (by rw [a2]; exact hoa)
    refine ⟨h60, A, by rw [e1]; exact a1, by rw [zA.1]; exact a2, by rw [zA.2.2.2.2.1]; exact a3, fun k9 r9 h9 => ?_⟩
    obtain ⟨p, p1, p2⟩ := a4 k9 r9 h9
    exact ⟨p, by rw [zA.2.2.2.2.2.2.1]; exact p1, p2.same (hz p (by rw [p2.1]; exact him))⟩
  refine ⟨by rw [e1]; exact h.1, by rw [e1]; exact h.2.1, h1, h2, hR, hP, fun a9 b9 w9 ha9 hb9 hw9 hh => ?_, fun a9 b9 w9 ha9 hb9 hw9 hh => ?_, hL, hO⟩
  · obtain ⟨s9, s1, s2, s3, s4⟩ := h.se ha9 hb9 hw9 hh
    have z9 := hz s9 (by rw [s2]; unfold KSE KTK; omega)
    exact ⟨s9, by rw [e1]; exact s1, by rw [z9.1]; exact s2, by rw [z9.2.2.2.2.1]; exact s3, by rw [z9.2.2.2.2.2.1]; exact s4⟩
  · obtain ⟨s9, s1, s2, s3, s4⟩ := h.tk ha9 hb9 hw9 hh
    by_cases c : a9 = a ∧ b9 = b ∧ w9 = w
    · obtain ⟨rfl, rfl, rfl⟩ := c
      cases hs.symm.trans s1
      refine ⟨s, by rw [e1]; exact s1, by rw [e1]; exact s2, by rw [e1]; exact s3, fun c hc => ?_⟩
      show m.ei s c = BITn (w3 l.tk a9 b9 w9 y a9 b9 w9) c
      rw [w3_eq]
      by_cases c2 : c = i
      · subst c2
        exact (mei_at e1).trans g1.symm
      · exact (mei_ap e1 (Or.inr c2)).trans ((s4 c hc).trans (g2 c hc c2).symm)
    · have z9 := hz s9 (by rw [s2]; exact KTK_ne hb9 hw9 hb hw c)
      refine ⟨s9, by rw [e1]; exact s1, by rw [z9.1]; exact s2, by rw [z9.2.2.2.2.1]; exact s3, ?_⟩
      rw [z9.2.2.2.2.2.1]
      show ∀ c, c < 40 → μ.ei s9 c = BITn (w3 l.tk a b w y a9 b9 w9) c
      rw [w3_ne c]
      exact s4
/-- the letters' rows by their places -/
def mLx (Q : Nat → Nat) (μ : Mem) (xs : List Nat) (nt : List Row) : Prop := xs.Nodup ∧ (∀ i p, xs[i]? = some p → μ.er (Q 20) i = some p) ∧ LR (fun p r => RowAt μ KLR p 16 r) xs nt
theorem MRq.addL (h : MRq Q S l μ) {q : Nat} {r : Row} (e1 : m = μ.ser (Q 20) S.nt.length (some q)) (hq : RowAt μ KLR q 16 r) (hn : ∀ i, i < S.nt.length → μ.er (Q 20) i ≠ some q) (h60 : S.nt.length < 60) : MRq Q (S.sNt (S.nt ++ [r])) l m := by
  have hd : Dyn μ m := fun p hp => by rw [e1]; exact same_ser (h.neD (by omega) hp)
  have hQ : ∀ j, j < 90 → j ≠ 20 → m.er (Q j) = μ.er (Q j) := fun j hj hne => mer_row e1 (h.neQ hj (by omega) hne)
  have hB : mBase Q m := by
    obtain ⟨b1, b2, b3, b4, b5, b6⟩ := h.1
    refine ⟨by rw [e1]; exact b1, by rw [e1]; exact b2, by rw [e1]; exact b3, fun t a ht ha => by rw [hQ (7 + t) (by omega) (by omega)]; exact b4 t a ht ha, fun e he => by rw [hQ 6 (by omega) (by omega)]; exact b5 e he, fun i a hi ha => ⟨by rw [hQ (17 + i) (by omega) (by omega)]; exact (b6 i a hi ha).1, fun b hb => by rw [hQ (54 + 3 * i + a) (by omega) (by omega)]; exact (b6 i a hi ha).2 b hb⟩⟩
  have hT : mT Q m S.sc l.n l.th := by rw [e1]; exact h.2.1
  have h1 : m1 Q m S.ef S.cd l.rl l.ol := by rw [e1]; exact h.2.2.1
  have h2 : m2 Q m S.lf S.fl l.wl := by rw [e1]; exact h.2.2.2.1
  have kR : (20 < 51 ∨ 54 ≤ 20) → mR Q m S.rt := fun z => h.2.2.2.2.1.keep (fun e he => hQ _ (by omega) (by omega)) hd
  have kP : (20 < 63 ∨ 72 ≤ 20) → mP Q m S.wt := fun z => h.2.2.2.2.2.1.keep (fun a b ha hb => hQ _ (by omega) (by omega)) hd
  have kS : (20 < 72 ∨ 81 ≤ 20) → mS Q m S.ses l.hs := fun z => h.2.2.2.2.2.2.1.keep (fun a b ha hb => hQ _ (by omega) (by omega)) hd
  have kB : 20 < 81 → mB Q m l.tk l.ht := fun z => h.2.2.2.2.2.2.2.1.keep (fun a b ha hb => hQ _ (by omega) (by omega)) hd
  have kL : 20 ≠ 20 → mLt Q m S.nt := fun z => h.2.2.2.2.2.2.2.2.1.keep (hQ 20 (by omega) (by omega)) hd
  have kO : mO Q m S.ou := h.2.2.2.2.2.2.2.2.2.keep (by rw [e1]; rfl) hd
  refine ⟨hB, hT, h1, h2, (kR (by omega)), (kP (by omega)), (kS (by omega)), (kB (by omega)), ?_, kO⟩
  obtain ⟨-, xs, x1, x2, x3⟩ := h.nt
  have kp : ∀ p r, RowAt μ KLR p 16 r → RowAt m KLR p 16 r := fun p r hp => hp.same (hd p (by rw [hp.1]; decide))
  have hqx : q ∉ xs := fun z => by
    obtain ⟨i, hi⟩ := List.getElem?_of_mem z
    have hl := (List.getElem?_eq_some_iff.mp hi).1
    exact hn i (by rw [← x3.1]; exact hl) (x2 i q hi)
  refine ⟨by rw [show (S.sNt (S.nt ++ [r])).nt = S.nt ++ [r] from rfl, List.length_append]; show S.nt.length + 1 ≤ 60; omega, xs ++ [q], nodup_app x1 hqx, fun i p hi => ?_, (x3.imp fun p _ r hp => kp p r hp).app (kp q r hq)⟩
  by_cases c : i < xs.length
  · rw [List.getElem?_append_left c] at hi
    exact (mer_ap e1 (Or.inr (by rw [← x3.1]; omega))).trans (x2 i p hi)
  · rw [List.getElem?_append_right (by omega)] at hi
    have h0 : i - xs.length = 0 := by
      have := (List.getElem?_eq_some_iff.mp hi).1
      have e : ([q] : List Nat).length = 1 := rfl
      omega
    rw [h0] at hi
    cases hi
    have hi9 : i = S.nt.length := by rw [← x3.1]; omega
    rw [hi9]
    exact mer_at e1
/-- a letter goes from the row: the rows behind it move -/
theorem MRq.rmL (h : MRq Q S l μ) {k : Nat} (hs : ∀ z, z ≠ Q 20 → SameAt μ m z) (hk : m.kd (Q 20) = μ.kd (Q 20)) (hl : m.ln (Q 20) = μ.ln (Q 20)) (he : ∀ j, m.er (Q 20) j = if k ≤ j ∧ j + 1 < S.nt.length then μ.er (Q 20) (j + 1) else μ.er (Q 20) j) : MRq Q (S.sNt (S.nt.eraseIdx k)) l m := by
  have sQ : ∀ j, j < 90 → j ≠ 20 → SameAt μ m (Q j) := fun j hj hne => hs _ (h.neQ hj (by decide) hne)
  have hd : Dyn μ m := fun p hp => hs p (h.neD (by decide) hp)
  obtain ⟨⟨b1, b2, b3, b4, b5, b6⟩, h2, h3, h4, h5, h6, h7, h8, h9, h10⟩ := h
  refine ⟨⟨fun j hj => ?_, fun j h0 hj => ?_, fun i i1 i2 => by rw [(sQ 0 (by decide) (by decide)).2.2.1]; exact b3 i i1 i2, fun t a ht ha => by rw [(sQ (7 + t) (by omega) (by omega)).2.2.2.2.2.2.1]; exact b4 t a ht ha, fun e he => by rw [(sQ 6 (by omega) (by omega)).2.2.2.2.2.2.1]; exact b5 e he, fun i a hi ha => ⟨by rw [(sQ (17 + i) (by omega) (by omega)).2.2.2.2.2.2.1]; exact (b6 i a hi ha).1, fun b hb => by rw [(sQ (54 + 3 * i + a) (by omega) (by omega)).2.2.2.2.2.2.1]; exact (b6 i a hi ha).2 b hb⟩⟩, ?_, h3.keep fun j j1 j2 => (sQ j (by omega) (by omega)).2.2.2.2.2.1, h4.keep fun j j1 j2 => (sQ j (by omega) (by omega)).2.2.2.2.2.1, h5.keep (fun e he => (sQ _ (by omega) (by omega)).2.2.2.2.2.2.1) hd, h6.keep (fun a b ha hb => (sQ _ (by omega) (by omega)).2.2.2.2.2.2.1) hd, h7.keep (fun a b ha hb => (sQ _ (by omega) (by omega)).2.2.2.2.2.2.1) hd, h8.keep (fun a b ha hb => (sQ _ (by omega) (by omega)).2.2.2.2.2.2.1) hd, ?_, h10.keep ((sQ 0 (by decide) (by decide)).2.2.1 313) hd⟩
  · by_cases c : j = 20
    · subst c; rw [hk]; exact b1 20 hj
    · rw [(sQ j hj c).1]; exact b1 j hj
  · by_cases c : j = 20
    · subst c; rw [hl]; exact b2 20 h0 hj
    · rw [(sQ j hj c).2.2.2.2.1]; exact b2 j h0 hj
  · obtain ⟨t1, t2, t3, t4, t5⟩ := h2
    have s0 := sQ 0 (by decide) (by decide)
    exact ⟨by rw [s0.2.1]; exact t1, by rw [s0.2.1]; exact t2, by rw [s0.2.1]; exact t3, by rw [s0.2.1]; exact t4, by rw [s0.2.1]; exact t5⟩
  · obtain ⟨h60, xs, x1, x2, x3⟩ := h9
    refine ⟨by show (S.nt.eraseIdx k).length ≤ 60; rw [List.length_eraseIdx]; split <;> omega, xs.eraseIdx k, nodup_erase x1 k, fun i p hi => ?_, (x3.imp fun p _ r hp => hp.same (hd p (by rw [hp.1]; decide))).erase k⟩
    rw [List.getElem?_eraseIdx] at hi
    rw [he]
    by_cases c : i < k
    · rw [if_pos c] at hi
      rw [if_neg (by omega)]
      exact x2 i p hi
    · rw [if_neg c] at hi
      have hl9 := (List.getElem?_eq_some_iff.mp hi).1
      rw [if_pos ⟨by omega, by rw [← x3.1]; exact hl9⟩]
      exact x2 _ p hi
theorem MRq.seL (h : MRq Q S l μ) {k z i : Nat} {v : Int32} {r r9 : Row} (hz : μ.er (Q 20) k = some z) (hr : S.nt[k]? = some r) (e1 : m = μ.sei z i v) (g1 : r9 i = v) (g2 : ∀ j, j < 16 → j ≠ i → r9 j = r j) : MRq Q (S.sNt (S.nt.set k r9)) l m ∧ RowAt m KLR z 16 r9 := by
  obtain ⟨h60, xs, x1, x2, x3⟩ := h.nt
  have hkl : k < xs.length := by rw [x3.1]; exact (List.getElem?_eq_some_iff.mp hr).1
  have hxk : xs[k]? = some xs[k] := List.getElem?_eq_getElem hkl
  have hzk : xs[k] = z := Option.some.inj ((x2 k _ hxk).symm.trans hz)
  rw [hzk] at hxk
  have hz0 := x3.2 k z r hxk hr
  have hs : ∀ p, p ≠ z → SameAt μ m p := fun p hp => by rw [e1]; exact same_sei hp
  have hrow : RowAt m KLR z 16 r9 := ⟨by rw [e1]; exact hz0.1, by rw [e1]; exact hz0.2.1, fun j hj => by
    by_cases c : j = i
    · subst c
      exact (mei_at e1).trans g1.symm
    · exact (mei_ap e1 (Or.inr c)).trans ((hz0.2.2 j hj).trans (g2 j hj c).symm)⟩
  refine ⟨?_, hrow⟩
  have hK : ∀ p, μ.kd p ≠ KLR → SameAt μ m p := fun p hp => hs p (fun e => hp (by rw [e]; exact hz0.1))
  have hj : ∀ j, j < 90 → Q j ≠ z := fun j hj e => KM_hi hj (k := KLR) (by decide) (by rw [← h.kd hj, e, hz0.1])
  have h1 : m1 Q m S.ef S.cd l.rl l.ol := h.2.2.1.keep fun j j1 j2 => mei_row e1 (hj j (by omega))
  have h2 : m2 Q m S.lf S.fl l.wl := h.2.2.2.1.keep fun j j1 j2 => mei_row e1 (hj j (by omega))
  refine ⟨by rw [e1]; exact h.1, by rw [e1]; exact h.2.1, h1, h2, fun e he => ⟨(h.rt he).1, fun k9 q9 h9 => ?_⟩, fun a9 b9 ha9 hb9 => ⟨(h.wt ha9 hb9).1, fun k9 q9 h9 => ?_⟩, fun a9 b9 w9 ha9 hb9 hw9 hh => ?_, fun a9 b9 w9 ha9 hb9 hw9 hh => ?_, ?_, ?_⟩
  · obtain ⟨p, p1, p2⟩ := (h.rt he).2 k9 q9 h9
    exact ⟨p, by rw [e1]; exact p1, p2.same (hK p (by rw [p2.1]; decide))⟩
  · obtain ⟨p, p1, p2⟩ := (h.wt ha9 hb9).2 k9 q9 h9
    exact ⟨p, by rw [e1]; exact p1, p2.same (hK p (by rw [p2.1]; decide))⟩
  · obtain ⟨s9, s1, s2, s3, s4⟩ := h.se ha9 hb9 hw9 hh
    have z9 := hK s9 (by rw [s2]; intro e; have e9 : 11 + 32 * (200 + 9 * a9 + 3 * b9 + w9) = 11 + 32 * 260 := e; omega)
    exact ⟨s9, by rw [e1]; exact s1, by rw [z9.1]; exact s2, by rw [z9.2.2.2.2.1]; exact s3, by rw [z9.2.2.2.2.2.1]; exact s4⟩
  · obtain ⟨s9, s1, s2, s3, s4⟩ := h.tk ha9 hb9 hw9 hh
    have z9 := hK s9 (by rw [s2]; intro e; have e9 : 12 + 32 * (230 + 9 * a9 + 3 * b9 + w9) = 11 + 32 * 260 := e; omega)
    exact ⟨s9, by rw [e1]; exact s1, by rw [z9.1]; exact s2, by rw [z9.2.2.2.2.1]; exact s3, by rw [z9.2.2.2.2.2.1]; exact s4⟩
  · refine ⟨by show (S.nt.set k r9).length ≤ 60; rw [List.length_set]; exact h60, xs, x1, by rw [e1]; exact x2, by show xs.length = (S.nt.set k r9).length; rw [List.length_set]; exact x3.1, fun i9 p9 q9 hi hq => ?_⟩
    have hq : (S.nt.set k r9)[i9]? = some q9 := hq
    show RowAt m KLR p9 16 q9
    rw [List.getElem?_set] at hq
    by_cases c : k = i9
    · subst c
      rw [if_pos rfl, if_pos (by rw [← x3.1]; exact hkl)] at hq
      cases hq
      cases hxk.symm.trans hi
      exact hrow
    · rw [if_neg c] at hq
      have hp9 := x3.2 i9 p9 q9 hi hq
      refine hp9.same (hs p9 (fun e => c ?_))
      rw [e] at hi
      exact (List.getElem?_inj hkl x1).mp (hxk.trans hi.symm)
  · obtain ⟨h60, A, a1, a2, a3, a4⟩ := h.ou
    have zA := hK A (by rw [a2]; decide)
    refine ⟨h60, A, by rw [e1]; exact a1, by rw [zA.1]; exact a2, by rw [zA.2.2.2.2.1]; exact a3, fun k9 q9 h9 => ?_⟩
    obtain ⟨p, p1, p2⟩ := a4 k9 q9 h9
    exact ⟨p, by rw [zA.2.2.2.2.2.2.1]; exact p1, p2.same (hK p (by rw [p2.1]; decide))⟩
theorem MRq.row (h : MRq Q S l μ) {k : Nat} {r : Row} (hr : S.nt[k]? = some r) : ∃ z, μ.er (Q 20) k = some z ∧ RowAt μ KLR z 16 r := by
  obtain ⟨h60, xs, x1, x2, x3⟩ := h.nt
  have hkl : k < xs.length := by rw [x3.1]; exact (List.getElem?_eq_some_iff.mp hr).1
  have hxk : xs[k]? = some xs[k] := List.getElem?_eq_getElem hkl
  exact ⟨_, x2 k _ hxk, x3.2 k _ r hxk hr⟩
theorem MRq.rowNe (h : MRq Q S l μ) {k k' z : Nat} (hk : k < S.nt.length) (hk' : k' < S.nt.length) (hz : μ.er (Q 20) k = some z) (hz' : μ.er (Q 20) k' = some z) : k = k' := by
  obtain ⟨h60, xs, x1, x2, x3⟩ := h.nt
  have h1 : k < xs.length := by rw [x3.1]; exact hk
  have h2 : k' < xs.length := by rw [x3.1]; exact hk'
  have e1 := x2 k _ (List.getElem?_eq_getElem h1)
  have e2 := x2 k' _ (List.getElem?_eq_getElem h2)
  have e3 : xs[k] = z := Option.some.inj (e1.symm.trans hz)
  have e4 : xs[k'] = z := Option.some.inj (e2.symm.trans hz')
  exact (List.getElem?_inj h1 x1).mp (by rw [List.getElem?_eq_getElem h1, List.getElem?_eq_getElem h2, e3, e4])
theorem MRq.putO (h : MRq Q S l μ) {A : Nat} {ou' : List Row} (e1 : m = μ.sfr 313 (Q 0) (some A)) (k1 : μ.kd A = KOA) (k2 : μ.ln A = ou'.length) (k3 : ou'.length ≤ 600) (k4 : ∀ k r, ou'[k]? = some r → ∃ p, μ.er A k = some p ∧ RowAt μ KIM p 5 r) : MRq Q (S.sOu ou') l m := by
  have hd : Dyn μ m := fun p hp => by rw [e1]; exact same_sfr (h.neD (by decide) hp)
  have hB : mBase Q m := by
    obtain ⟨b1, b2, b3, b4, b5, b6⟩ := h.1
    exact ⟨by rw [e1]; exact b1, by rw [e1]; exact b2, fun i i1 i2 => (fr_ap e1 (Or.inl (by omega))).trans (b3 i i1 i2), by rw [e1]; exact b4, by rw [e1]; exact b5, by rw [e1]; exact b6⟩
  have hO : mO Q m ou' := by
    have zA := hd A (by rw [k1]; decide)
    refine ⟨k3, A, fr_at e1, by rw [zA.1]; exact k1, by rw [zA.2.2.2.2.1]; exact k2, fun k r hk => ?_⟩
    obtain ⟨p, p1, p2⟩ := k4 k r hk
    exact ⟨p, by rw [zA.2.2.2.2.2.2.1]; exact p1, p2.same (hd p (by rw [p2.1]; decide))⟩
  subst e1
  exact ⟨hB, h.2.1, h.2.2.1, h.2.2.2.1, h.2.2.2.2.1.keep (fun _ _ => rfl) hd, h.2.2.2.2.2.1.keep (fun _ _ _ _ => rfl) hd, h.2.2.2.2.2.2.1.keep (fun _ _ _ _ => rfl) hd, h.2.2.2.2.2.2.2.1.keep (fun _ _ _ _ => rfl) hd, h.2.2.2.2.2.2.2.2.1.keep rfl hd, hO⟩
theorem MRq.toLX (h : MRq Q S l μ) (q1 : l.n = S.nt.length) (q2 : ∀ e, e < 3 → l.rl e = (S.rt e).length) (q3 : ∀ e, e < 3 → l.ol e = (OUT e S.ou).length) (q4 : ∀ a b, a < 3 → b < 3 → l.wl a b = (S.wt a b).length) (q5 : ∀ a b w, a < 3 → b < 3 → w < 3 → l.tk a b w = TKo (S.ses a b w)) (q6 : ∀ a b w, a < 3 → b < 3 → w < 3 → ¬ l.hs a b w) (q7 : ∀ a b w, a < 3 → b < 3 → w < 3 → ¬ l.ht a b w) : MRq Q S (LXo S l.th) μ := by
  obtain ⟨h1, h2, h3, h4, h5, h6, h7, h8, h9, h10⟩ := h
  refine ⟨h1, ⟨h2.1, h2.2.1, h2.2.2.1, by rw [h2.2.2.2.1, q1]; rfl, h2.2.2.2.2⟩, ⟨fun e he => ⟨(h3.1 e he).1, by rw [(h3.1 e he).2.1, q2 e he]; rfl, by rw [(h3.1 e he).2.2.1, q3 e he]; rfl, (h3.1 e he).2.2.2⟩, h3.2⟩, fun t a b ht ha hb => ?_, h5, h6, fun a b w ha hb hw _ => h7 a b w ha hb hw (q6 a b w ha hb hw), fun a b w ha hb hw _ => ?_, h9, h10⟩
  · have h := h4 t a b ht ha hb
    have q9 : t = 0 ∨ t = 1 ∨ t = 2 ∨ t = 3 ∨ t = 4 ∨ t = 5 ∨ t = 6 ∨ t = 7 ∨ t = 8 ∨ t = 9 := by omega
    rcases q9 with rfl | rfl | rfl | rfl | rfl | rfl | rfl | rfl | rfl | rfl
    all_goals first | exact h | exact h.trans (by rw [q4 a b ha hb]; rfl)
  · obtain ⟨s, s1, s2, s3, s4⟩ := h8 a b w ha hb hw (q7 a b w ha hb hw)
    exact ⟨s, s1, s2, s3, fun c hc => by rw [s4 c hc, q5 a b w ha hb hw]; rfl⟩
end
