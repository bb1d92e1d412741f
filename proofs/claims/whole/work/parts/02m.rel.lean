/-! ===== the two sides, held against each other ===== -/
def rowX (u v : St) (a b : Nat) : Prop := ∀ j, j < 4 → u 10 a j = v 10 b j ∧ u 11 a j = v 11 b j
theorem rowX_clr {u v : St} {a b s t : Nat} (e : a = s ↔ b = t) (h : a ≠ s → rowX u v a b) : rowX (clr u s) (clr v t) a b := fun j hj => by
  by_cases q : a = s
  · have q2 := e.mp q
    subst q q2
    simp [clr, clrP, hj]
  · have q2 : b ≠ t := fun z => q (e.mpr z)
    rw [clr_i q, clr_i q, clr_i q2, clr_i q2]
    exact h q j hj
theorem rowX_cpy {u v : St} {a b s t w x : Nat} (e : a = s ↔ b = t) (h : a ≠ s → rowX u v a b) (hw : a = s → rowX u v w x) : rowX (cpy u s w) (cpy v t x) a b := fun j hj => by
  by_cases q : a = s
  · have q2 := e.mp q
    have h1 := hw q j hj
    subst q q2
    simp [cpy, cpyP, hj, h1.1, h1.2]
  · have q2 : b ≠ t := fun z => q (e.mpr z)
    rw [cpy_i q, cpy_i q, cpy_i q2, cpy_i q2]
    exact h q j hj
theorem rowX_jn {u v : St} {a b s t w x : Nat} (e : a = s ↔ b = t) (h : rowX u v a b) (hw : a = s → rowX u v w x) : rowX (jn u s w) (jn v t x) a b := fun j hj => by
  by_cases q : a = s
  · have q2 := e.mp q
    have h1 := hw q j hj
    have h2 := h j hj
    subst q q2
    simp [jn, jnP, jH, jA, hj, h1.1, h1.2, h2.1, h2.2]
  · have q2 : b ≠ t := fun z => q (e.mpr z)
    rw [jn_i q, jn_i q, jn_i q2, jn_i q2]
    exact h j hj
theorem rowX_e {u u' v v' : St} {a b : Nat} (h : rowX u v a b) (h1 : ∀ f j, f = 10 ∨ f = 11 → u' f a j = u f a j) (h2 : ∀ f j, f = 10 ∨ f = 11 → v' f b j = v f b j) : rowX u' v' a b := fun j hj => by
  rw [h1 10 j (Or.inl rfl), h1 11 j (Or.inr rfl), h2 10 j (Or.inl rfl), h2 11 j (Or.inr rfl)]
  exact h j hj
/-- the model's image, seen as a table of JoinedStores -/
def VI (J : St) : St := fun f i j => match f with
  | 1 => J 0 0 13
  | 8 => if j = 0 then J 28 0 i else J 29 0 i
  | 10 => J 31 i j
  | 11 => J 32 i j
  | 12 => J 26 0 j
  | 13 => J 30 (j / 31) (j % 31)
  | 14 => J 30 (4 + j / 31) (j % 31)
  | 15 => J 30 (8 + j / 31) (j % 31)
  | 16 => J 27 0 j
  | 17 => J 33 (j / 4) (j % 4)
  | 18 => J 34 i j
  | _ => nI 0
/-- message q of one side is message j of the other -/
def MSG (I A : St) (q j : Nat) : Prop := I 8 q 0 = A 8 j 0 ∧ I 8 q 1 = A 8 j 1 ∧ rowX I A (q + 20) (20 + j) ∧ ∀ c, c < 4 → I 18 q c = A 18 j c
/-- network n of I, whose stores begin at so, is as the table A has it -/
def NW (I : St) (n so : Nat) (A : St) : Prop :=
  (∀ s, s < 20 → rowX I A (s + so) s) ∧ (∀ r, r < 4 → I 12 n r = A 12 0 r) ∧ (∀ p, p < 124 → I 13 n p = A 13 0 p ∧ I 14 n p = A 14 0 p ∧ I 15 n p = A 15 0 p) ∧ (∀ o, o < 12 → I 16 n o = A 16 0 o) ∧ (∀ p, p < 64 → I 17 n p = A 17 0 p) ∧ I 1 n 6 = A 1 0 6 ∧ ∀ j, j < wt A → MSG I A (tn (I 6 n j) + 6 * n) j
/-- what is alive is heard -/
def sub (A : St) (s : Nat) : Prop := ∀ j, j < 4 → ∀ i, i < 32 → bt (A 11 s j) i = true → bt (A 10 s j) i = true
def OKA (A : St) : Prop := okM A ∧ okK A ∧ okT A ∧ (∀ j, j < wt A → ∃ a b, a < 4 ∧ b < 4 ∧ A 8 j 0 = nI a ∧ A 8 j 1 = nI b) ∧ (∀ p, p < 124 → ∃ x, x < 12 ∧ A 15 0 p = nI x) ∧ (∀ s, s < 20 → sub A s) ∧ ∀ j, j < wt A → sub A (20 + j)
def PM (I : St) (n : Nat) : Prop := (∀ j, j < 6 → tn (I 6 n j) < 6) ∧ ∀ j k, j < 6 → k < 6 → tn (I 6 n j) = tn (I 6 n k) → j = k
def SH (I J : St) : Prop := ∀ k, k < 4 → I 7 k 0 = J 23 0 k ∧ I 7 k 1 = J 24 0 k ∧ (∀ j, j < sl I k → I 19 k j = J 19 k j) ∧ (J 23 0 k = -1 ∨ J 23 0 k = nI 0 ∨ J 23 0 k = nI 1) ∧ I 7 k 1 = nI (sl I k) ∧ sl I k ≤ 40
def Rel (I J : St) : Prop := NW I 0 0 (V J) ∧ NW I 1 39 (VI J) ∧ (I 0 0 2 = J 0 0 12) ∧ SH I J ∧ OKA (V J) ∧ OKA (VI J) ∧ PM I 0 ∧ PM I 1
theorem Rel.now {I J : St} (h : Rel I J) : NW I 0 0 (V J) := h.1
theorem Rel.img {I J : St} (h : Rel I J) : NW I 1 39 (VI J) := h.2.1
theorem Rel.flag {I J : St} (h : Rel I J) : I 0 0 2 = J 0 0 12 := h.2.2.1
theorem Rel.sh {I J : St} (h : Rel I J) : SH I J := h.2.2.2.1
theorem Rel.row {I J : St} (h : Rel I J) {s : Nat} (hs : s < 20) : rowX I J s s := h.1.1 s hs
theorem Rel.ok {I J : St} (h : Rel I J) : OKA (V J) := h.2.2.2.2.1
theorem Rel.oki {I J : St} (h : Rel I J) : OKA (VI J) := h.2.2.2.2.2.1
theorem Rel.pm {I J : St} (h : Rel I J) : PM I 0 := h.2.2.2.2.2.2.1
theorem Rel.pmi {I J : St} (h : Rel I J) : PM I 1 := h.2.2.2.2.2.2.2
theorem NW.row {I A : St} {n so : Nat} (h : NW I n so A) {s : Nat} (hs : s < 20) : rowX I A (s + so) s := h.1 s hs
theorem NW.mad {I A : St} {n so : Nat} (h : NW I n so A) {r : Nat} (hr : r < 4) : I 12 n r = A 12 0 r := h.2.1 r hr
theorem NW.dot {I A : St} {n so : Nat} (h : NW I n so A) {p : Nat} (hp : p < 124) : I 13 n p = A 13 0 p ∧ I 14 n p = A 14 0 p ∧ I 15 n p = A 15 0 p := h.2.2.1 p hp
theorem NW.knd {I A : St} {n so : Nat} (h : NW I n so A) {o : Nat} (ho : o < 12) : I 16 n o = A 16 0 o := h.2.2.2.1 o ho
theorem NW.kno {I A : St} {n so : Nat} (h : NW I n so A) {p : Nat} (hp : p < 64) : I 17 n p = A 17 0 p := h.2.2.2.2.1 p hp
theorem NW.wts {I A : St} {n so : Nat} (h : NW I n so A) : I 1 n 6 = A 1 0 6 := h.2.2.2.2.2.1
theorem NW.msg {I A : St} {n so : Nat} (h : NW I n so A) {j : Nat} (hj : j < wt A) : MSG I A (tn (I 6 n j) + 6 * n) j := h.2.2.2.2.2.2 j hj
theorem OKA.M {A : St} (h : OKA A) : okM A := h.1
theorem OKA.K {A : St} (h : OKA A) : okK A := h.2.1
theorem OKA.T {A : St} (h : OKA A) : okT A := h.2.2.1
theorem OKA.A {A : St} (h : OKA A) {j : Nat} (hj : j < wt A) : ∃ a b, a < 4 ∧ b < 4 ∧ A 8 j 0 = nI a ∧ A 8 j 1 = nI b := h.2.2.2.1 j hj
theorem OKA.O {A : St} (h : OKA A) {p : Nat} (hp : p < 124) : ∃ x, x < 12 ∧ A 15 0 p = nI x := h.2.2.2.2.1 p hp
theorem OKA.S {A : St} (h : OKA A) {s : Nat} (hs : s < 20) : sub A s := h.2.2.2.2.2.1 s hs
theorem OKA.L {A : St} (h : OKA A) {j : Nat} (hj : j < wt A) : sub A (20 + j) := h.2.2.2.2.2.2 j hj
/-- what the contracts ask of either side -/
theorem Rel.mk {I J : St} (h : Rel I J) {r : Nat} (hr : r < 4) : mk I r = mk J r := by
  rw [_root_.Jvm.Pilot.@@N@@.mk, _root_.Jvm.Pilot.@@N@@.mk, h.now.mad hr]
  rfl
theorem Rel.okM {I J : St} (h : Rel I J) : okM I := fun r hr => by
  rw [h.mk hr, h.now.mad hr]
  exact h.ok.M r hr
theorem Rel.okMJ {I J : St} (h : Rel I J) : _root_.Jvm.Pilot.@@N@@.okM J := h.ok.M
theorem Rel.kd {I J : St} (h : Rel I J) {o : Nat} (ho : o < 12) : kd I o = kd J o := by
  rw [_root_.Jvm.Pilot.@@N@@.kd, _root_.Jvm.Pilot.@@N@@.kd, h.now.knd ho]
  rfl
theorem Rel.okK {I J : St} (h : Rel I J) : okK I := fun o ho => by
  rw [h.kd ho, h.now.knd ho]
  exact h.ok.K o ho
theorem Rel.okKJ {I J : St} (h : Rel I J) : _root_.Jvm.Pilot.@@N@@.okK J := h.ok.K
theorem Rel.wt {I J : St} (h : Rel I J) : wt I = wt (V J) := wt_e h.now.wts
theorem Rel.okT {I J : St} (h : Rel I J) : okT I := okT_e h.now.wts h.ok.T
theorem Rel.okW {I J : St} (h : Rel I J) : okW I := fun n j hn hj => by
  rcases (by omega : n = 0 ∨ n = 1) with rfl | rfl
  · exact h.pm.1 j hj
  · exact h.pmi.1 j hj
theorem Rel.w6 {I J : St} (h : Rel I J) : _root_.Jvm.Pilot.@@N@@.wt (V J) ≤ 6 := h.ok.T.2
theorem Rel.okL {I J : St} (h : Rel I J) : okL I := fun j hj => by
  rw [h.wt] at hj
  have m := h.now.msg hj
  obtain ⟨a, b, ha, hb, ea, eb⟩ := h.ok.A hj
  have e1 : I 8 (I 6 0 j).toNatClampNeg 0 = nI a := m.1.trans ea
  have e2 : I 8 (I 6 0 j).toNatClampNeg 1 = nI b := m.2.1.trans eb
  have f1 : mfr I (I 6 0 j).toNatClampNeg = a := by rw [mfr, e1, tn_nI (by omega)]
  have f2 : mto I (I 6 0 j).toNatClampNeg = b := by rw [mto, e2, tn_nI (by omega)]
  rw [f1, f2, e1, e2]
  exact ⟨rfl, ha, rfl, hb⟩
theorem Rel.okA {I J : St} (h : Rel I J) : okA J := fun j hj => by
  obtain ⟨a, b, ha, hb, ea, eb⟩ := h.ok.A hj
  have e1 : J 21 0 j = nI a := ea
  have e2 : J 22 0 j = nI b := eb
  have f1 : mfM J j = a := by rw [mfM, e1, tn_nI (by omega)]
  have f2 : mtoM J j = b := by rw [mtoM, e2, tn_nI (by omega)]
  rw [f1, f2, e1, e2]
  exact ⟨rfl, ha, rfl, hb⟩
theorem Rel.okS {I J : St} (h : Rel I J) : okS I := fun k hk => (h.sh k hk).2.2.2.2
theorem Rel.sl {I J : St} (h : Rel I J) {k : Nat} (hk : k < 4) : sl I k = sl (V J) k := by
  rw [_root_.Jvm.Pilot.@@N@@.sl, _root_.Jvm.Pilot.@@N@@.sl, (h.sh k hk).2.1]
  rfl
theorem Rel.okSJ {I J : St} (h : Rel I J) : _root_.Jvm.Pilot.@@N@@.okS (V J) := fun k hk => by
  have h1 := h.sh k hk
  rw [← h.sl hk]
  exact ⟨h1.2.1.symm.trans h1.2.2.2.2.1, h1.2.2.2.2.2⟩
/-- the cells of JoinedStores' image -/
def F1 (f i : Nat) : Prop := (f = 1 ∧ i = 1) ∨ (f = 6 ∧ i = 1) ∨ ((f = 8 ∨ f = 18) ∧ 6 ≤ i) ∨ ((f = 10 ∨ f = 11) ∧ ((26 ≤ i ∧ i < 32) ∨ 39 ≤ i)) ∨ (12 ≤ f ∧ f ≤ 17 ∧ i = 1)
theorem NW1_e {I u A : St} (h : ∀ f i j, F1 f i → u f i j = I f i j) (hp : PM I 1) (hw : wt A ≤ 6) (k : NW I 1 39 A) : NW u 1 39 A := by
  refine ⟨fun s hs => ?_, fun r hr => ?_, fun p hq => ?_, fun o ho => ?_, fun p hq => ?_, ?_, fun j hj => ?_⟩
  · exact rowX_e (k.row hs) (fun f j hf => h f _ j (Or.inr (Or.inr (Or.inr (Or.inl ⟨hf, Or.inr (by omega)⟩))))) (fun _ _ _ => rfl)
  · rw [h 12 1 r (by simp [F1])]; exact k.mad hr
  · rw [h 13 1 p (by simp [F1]), h 14 1 p (by simp [F1]), h 15 1 p (by simp [F1])]; exact k.dot hq
  · rw [h 16 1 o (by simp [F1])]; exact k.knd ho
  · rw [h 17 1 p (by simp [F1])]; exact k.kno hq
  · rw [h 1 1 6 (by simp [F1])]; exact k.wts
  · have e : u 6 1 j = I 6 1 j := h 6 1 j (by simp [F1])
    have hl := hp.1 j (by omega)
    rw [e]
    obtain ⟨m1, m2, m3, m4⟩ := k.msg hj
    refine ⟨?_, ?_, rowX_e m3 (fun f j hf => h f _ j (Or.inr (Or.inr (Or.inr (Or.inl ⟨hf, Or.inl (by omega)⟩))))) (fun _ _ _ => rfl), fun c hc => ?_⟩
    · rw [h 8 _ 0 (Or.inr (Or.inr (Or.inl ⟨Or.inl rfl, by omega⟩)))]; exact m1
    · rw [h 8 _ 1 (Or.inr (Or.inr (Or.inl ⟨Or.inl rfl, by omega⟩)))]; exact m2
    · rw [h 18 _ c (Or.inr (Or.inr (Or.inl ⟨Or.inr rfl, by omega⟩)))]; exact m4 c hc
def FM (f j : Nat) : Prop := 26 ≤ f ∨ (f = 0 ∧ j ≠ 8)
theorem VI_e {J v : St} (h : ∀ f i j, FM f j → v f i j = J f i j) : VI v = VI J := by
  funext f i j
  unfold VI
  split
  · exact h _ _ _ (Or.inr ⟨rfl, by decide⟩)
  · rw [h 28 0 i (Or.inl (by decide)), h 29 0 i (Or.inl (by decide))]
  · exact h _ _ _ (Or.inl (by decide))
  · exact h _ _ _ (Or.inl (by decide))
  · exact h _ _ _ (Or.inl (by decide))
  · exact h _ _ _ (Or.inl (by decide))
  · exact h _ _ _ (Or.inl (by decide))
  · exact h _ _ _ (Or.inl (by decide))
  · exact h _ _ _ (Or.inl (by decide))
  · exact h _ _ _ (Or.inl (by decide))
  · exact h _ _ _ (Or.inl (by decide))
  · rfl
theorem PM_e {I u : St} {n : Nat} (h : ∀ j, j < 6 → u 6 n j = I 6 n j) (k : PM I n) : PM u n := by
  refine ⟨fun j hj => ?_, fun j q hj hq => ?_⟩
  · rw [h j hj]; exact k.1 j hj
  · rw [h j hj, h q hq]; exact k.2 j q hj hq
theorem SH_e {I u J v : St} (h : ∀ f i j, f = 7 ∨ f = 19 → u f i j = I f i j) (h2 : ∀ f i j, f = 19 ∨ f = 23 ∨ f = 24 → v f i j = J f i j) (k : SH I J) : SH u v := fun q hq => by
  have e : sl u q = sl I q := by rw [sl, sl, h 7 q 1 (Or.inl rfl)]
  rw [h 7 q 0 (Or.inl rfl), h 7 q 1 (Or.inl rfl), h2 23 0 q (Or.inr (Or.inl rfl)), h2 24 0 q (Or.inr (Or.inr rfl)), e]
  obtain ⟨a, b, c, d⟩ := k q hq
  refine ⟨a, b, fun j hj => ?_, d⟩
  rw [h 19 q j (Or.inr rfl), h2 19 q j (Or.inl rfl)]
  exact c j hj
/-- a call that leaves the image alone -/
theorem Rel_step {I J u v : St} (h : Rel I J) (h1 : ∀ f i j, F1 f i ∨ f = 0 → u f i j = I f i j) (h2 : ∀ f i j, FM f j → v f i j = J f i j) (hn : NW u 0 0 (V v)) (ho : OKA (V v)) (hs : SH u v) (hp : PM u 0) : Rel u v := by
  have e := VI_e h2
  refine ⟨hn, ?_, ?_, hs, ho, ?_, hp, PM_e (fun j _ => h1 6 1 j (Or.inl (by simp [F1]))) h.pmi⟩
  · rw [e]
    exact NW1_e (fun f i j q => h1 f i j (Or.inl q)) h.pmi h.oki.T.2 h.img
  · rw [h1 0 0 2 (Or.inr rfl), h2 0 0 12 (Or.inr ⟨rfl, by decide⟩)]
    exact h.flag
  · rw [e]; exact h.oki
/-- the cells of the messages that wait -/
def MC (f i : Nat) : Prop := (f = 1 ∧ i = 0) ∨ (f = 6 ∧ i = 0) ∨ ((f = 8 ∨ f = 18) ∧ i < 6) ∨ ((f = 10 ∨ f = 11) ∧ 20 ≤ i ∧ i < 26)
def MD (f i : Nat) : Prop := f = 0 ∨ f = 21 ∨ f = 22 ∨ (f = 18 ∧ i < 6) ∨ ((f = 10 ∨ f = 11) ∧ 20 ≤ i ∧ i < 26)
theorem wt_V {J v : St} (h : v 0 0 8 = J 0 0 8) : wt (V v) = wt (V J) := wt_e (I := V J) (u := V v) h
/-- the messages are left alone -/
theorem NW_m {I J u v : St} (k : NW I 0 0 (V J)) (hp : PM I 0) (hw : wt (V J) ≤ 6) (h1 : ∀ f i j, MC f i → u f i j = I f i j) (h2 : ∀ f i j, MD f i → v f i j = J f i j)
    (a : ∀ s, s < 20 → rowX u v s s) (b : ∀ r, r < 4 → u 12 0 r = v 12 0 r) (c : ∀ p, p < 124 → u 13 0 p = V v 13 0 p ∧ u 14 0 p = V v 14 0 p ∧ u 15 0 p = V v 15 0 p) (d : ∀ o, o < 12 → u 16 0 o = v 16 0 o) (e : ∀ p, p < 64 → u 17 0 p = V v 17 0 p) : NW u 0 0 (V v) := by
  have e8 : v 0 0 8 = J 0 0 8 := h2 0 0 8 (Or.inl rfl)
  refine ⟨a, b, c, d, e, ?_, fun j hj => ?_⟩
  · rw [h1 1 0 6 (Or.inl ⟨rfl, rfl⟩)]
    exact k.wts.trans e8.symm
  · rw [wt_V e8] at hj
    have e6 : u 6 0 j = I 6 0 j := h1 6 0 j (Or.inr (Or.inl ⟨rfl, rfl⟩))
    have hl := hp.1 j (by omega)
    rw [e6]
    obtain ⟨m1, m2, m3, m4⟩ := k.msg hj
    refine ⟨?_, ?_, rowX_e m3 (fun f j hf => h1 f _ j (Or.inr (Or.inr (Or.inr ⟨hf, by omega, by omega⟩)))) (fun f i hf => ?_), fun x hx => ?_⟩
    · rw [h1 8 _ 0 (Or.inr (Or.inr (Or.inl ⟨Or.inl rfl, by omega⟩)))]
      exact m1.trans (h2 21 0 j (Or.inr (Or.inl rfl))).symm
    · rw [h1 8 _ 1 (Or.inr (Or.inr (Or.inl ⟨Or.inl rfl, by omega⟩)))]
      exact m2.trans (h2 22 0 j (Or.inr (Or.inr (Or.inl rfl)))).symm
    · rcases hf with rfl | rfl
      · exact h2 10 _ i (Or.inr (Or.inr (Or.inr (Or.inr ⟨Or.inl rfl, by omega, by omega⟩))))
      · exact h2 11 _ i (Or.inr (Or.inr (Or.inr (Or.inr ⟨Or.inr rfl, by omega, by omega⟩))))
    · rw [h1 18 _ x (Or.inr (Or.inr (Or.inl ⟨Or.inr rfl, by omega⟩)))]
      exact (m4 x hx).trans (h2 18 j x (Or.inr (Or.inr (Or.inr (Or.inl ⟨rfl, by omega⟩))))).symm
/-- scratch does not count -/
theorem sub_e {A B : St} {s t : Nat} (h : ∀ j, j < 4 → A 10 s j = B 10 t j ∧ A 11 s j = B 11 t j) (k : sub B t) : sub A s := fun j hj i hi => by
  rw [(h j hj).1, (h j hj).2]
  exact k j hj i hi
theorem OKA_Sm {J v : St} (h : Sm gM J v) (k : OKA (V J)) : OKA (V v) := by
  have h9 : ∀ f i j, f ≠ 10 → f ≠ 11 → v f i j = J f i j := fun f i j a b => sq_e h a b
  have ew : wt (V v) = wt (V J) := wt_V (h9 _ _ _ (by decide) (by decide))
  have hw := k.T.2
  refine ⟨(sq_M h (show okM J from k.M) : okM v), (sq_K h (show okK J from k.K) : okK v), sq_T h k.T, fun j hj => ?_, fun p hp => ?_, fun s hs => ?_, fun j hj => ?_⟩
  · rw [ew] at hj
    obtain ⟨a, b, ha, hb, ea, eb⟩ := k.A hj
    exact ⟨a, b, ha, hb, (h9 21 0 j (by decide) (by decide)).trans ea, (h9 22 0 j (by decide) (by decide)).trans eb⟩
  · obtain ⟨x, hx, e⟩ := k.O hp
    exact ⟨x, hx, (h9 15 _ _ (by decide) (by decide)).trans e⟩
  · exact sub_e (A := V v) (B := V J) (fun j _ => ⟨sq_l h (by omega), sq_l h (by omega)⟩) (k.S hs)
  · rw [ew] at hj
    exact sub_e (A := V v) (B := V J) (fun j _ => ⟨sq_l h (by omega), sq_l h (by omega)⟩) (k.L hj)
theorem gC_x {f i : Nat} (h : gC f i) : f = 20 ∨ ((f = 10 ∨ f = 11) ∧ 32 ≤ i ∧ i ≤ 38) := h
theorem Rel_Sm {I J u v : St} (h : Rel I J) (h1 : Sm gC I u) (h2 : Sm gM J v) : Rel u v := by
  have hJ : ∀ f i j, f ≠ 10 → f ≠ 11 → v f i j = J f i j := fun f i j a b => sq_e h2 a b
  have hI : ∀ f i j, f ≠ 10 → f ≠ 11 → f ≠ 20 → u f i j = I f i j := fun f i j a b c => h1.e a b c
  refine Rel_step h (fun f i j q => h1 f i j (fun z => ?_)) (fun f i j q => hJ f i j (fun z => ?_) (fun z => ?_)) ?_ (OKA_Sm h2 h.ok) (SH_e (fun f i j q => ?_) (fun f i j q => ?_) h.sh) (PM_e (fun j _ => hI 6 0 j (by decide) (by decide) (by decide)) h.pm)
  · have z1 := gC_x z
    rcases q with q | q
    · unfold F1 at q; omega
    · omega
  · unfold FM at q; omega
  · unfold FM at q; omega
  · refine NW_m h.now h.pm h.w6 (fun f i j q => h1 f i j (fun z => ?_)) (fun f i j q => ?_) (fun s hs => ?_) (fun r hr => ?_) (fun p hp => ?_) (fun o ho => ?_) (fun p hp => ?_)
    · have z1 := gC_x z
      unfold MC at q; omega
    · refine h2 f i j (fun z => ?_)
      have z1 : (f = 10 ∨ f = 11) ∧ 26 ≤ i := z
      unfold MD at q; omega
    · exact rowX_e (h.row hs) (fun f j hf => h1 f s j (fun z => by have z1 := gC_x z; omega)) (fun f j hf => h2 f s j (fun z => by have z1 : (f = 10 ∨ f = 11) ∧ 26 ≤ s := z; omega))
    · rw [hI 12 0 r (by decide) (by decide) (by decide), hJ 12 0 r (by decide) (by decide)]; exact h.now.mad hr
    · rw [hI 13 0 p (by decide) (by decide) (by decide), hI 14 0 p (by decide) (by decide) (by decide), hI 15 0 p (by decide) (by decide) (by decide), show V v 13 0 p = V J 13 0 p from hJ 13 _ _ (by decide) (by decide), show V v 14 0 p = V J 14 0 p from hJ 14 _ _ (by decide) (by decide), show V v 15 0 p = V J 15 0 p from hJ 15 _ _ (by decide) (by decide)]
      exact h.now.dot hp
    · rw [hI 16 0 o (by decide) (by decide) (by decide), hJ 16 0 o (by decide) (by decide)]; exact h.now.knd ho
    · rw [hI 17 0 p (by decide) (by decide) (by decide), show V v 17 0 p = V J 17 0 p from hJ 17 _ _ (by decide) (by decide)]; exact h.now.kno hp
  · exact hI f i j (by omega) (by omega) (by omega)
  · exact hJ f i j (by omega) (by omega)
theorem Sm.gs {I : St} : Sm gC I I := Sm.rf
theorem Sm.ms {I : St} : Sm gM I I := Sm.rf
