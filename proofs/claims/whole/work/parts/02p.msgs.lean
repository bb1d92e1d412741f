/-! ===== messages: both sides ===== -/
def MM (u v : St) (a b : Nat) : Prop := u 21 0 a = v 21 0 b ∧ u 22 0 a = v 22 0 b ∧ rowX u v (20 + a) (20 + b) ∧ ∀ c, c < 4 → u 18 a c = v 18 b c
theorem MM_tr {u v w : St} {a b c : Nat} (h : MM u v a b) (k : MM v w b c) : MM u w a c :=
  ⟨h.1.trans k.1, h.2.1.trans k.2.1, fun j hj => ⟨(h.2.2.1 j hj).1.trans (k.2.2.1 j hj).1, (h.2.2.1 j hj).2.trans (k.2.2.1 j hj).2⟩, fun x hx => (h.2.2.2 x hx).trans (k.2.2.2 x hx)⟩
theorem MSG_t {I u J v : St} {q j a : Nat} (h : MSG I (V J) q j) (h8 : ∀ x, u 8 q x = I 8 q x) (hr : ∀ f c, f = 10 ∨ f = 11 → u f (q + 20) c = I f (q + 20) c) (h18 : ∀ c, u 18 q c = I 18 q c) (m : MM v J a j) : MSG u (V v) q a := by
  obtain ⟨m1, m2, m3, m4⟩ := m
  refine ⟨?_, ?_, fun c hc => ?_, fun c hc => ?_⟩
  · rw [h8]; exact h.1.trans m1.symm
  · rw [h8]; exact h.2.1.trans m2.symm
  · rw [hr 10 c (Or.inl rfl), hr 11 c (Or.inr rfl)]
    exact ⟨(h.2.2.1 c hc).1.trans (m3 c hc).1.symm, (h.2.2.1 c hc).2.trans (m3 c hc).2.symm⟩
  · rw [h18]; exact (h.2.2.2 c hc).trans (m4 c hc).symm
theorem MM_hn (S : St) (a b j : Nat) : MM (hnM S a b) S j (if j = b then a else j) := by
  refine ⟨?_, ?_, fun c hc => ?_, fun c hc => ?_⟩
  · rw [hnM, cp3_n (by decide), cpy_n (by decide) (by decide), up3_f (by decide)]
    by_cases e : j = b <;> simp [up3, e]
  · rw [hnM, cp3_n (by decide), cpy_n (by decide) (by decide)]
    by_cases e : j = b <;> simp [up3, e]
  · rw [hnM, cp3_n (by decide), cp3_n (by decide)]
    by_cases e : j = b
    · subst e
      rw [if_pos rfl]
      simp [cpy, cpyP, hc, up3]
    · rw [if_neg e, cpy_i (by omega), cpy_i (by omega), up3_f (by decide), up3_f (by decide), up3_f (by decide), up3_f (by decide)]
      exact ⟨rfl, rfl⟩
  · rw [hnM]
    by_cases e : j = b
    · subst e
      rw [if_pos rfl]
      simp [cp3, hc, cpy, cpyP, up3]
    · rw [if_neg e]
      simp [cp3, e, cpy, cpyP, up3]
theorem MM_ga (S : St) (m : Nat) : ∀ n j, MM (gaP S m n) S j (if m ≤ j ∧ j < m + n then j + 1 else j)
  | 0, j => by
    rw [if_neg (by omega)]
    exact ⟨rfl, rfl, fun _ _ => ⟨rfl, rfl⟩, fun _ _ => rfl⟩
  | n + 1, j => by
    have h1 := MM_hn (gaP S m n) (m + 1 + n) (m + n) j
    by_cases e : j = m + n
    · rw [if_pos e] at h1
      have h2 := MM_ga S m n (m + 1 + n)
      rw [if_neg (by omega)] at h2
      rw [if_pos (by omega), show j + 1 = m + 1 + n by omega]
      exact MM_tr h1 h2
    · rw [if_neg e] at h1
      have h2 := MM_ga S m n j
      have e2 : (if m ≤ j ∧ j < m + n then j + 1 else j) = if m ≤ j ∧ j < m + (n + 1) then j + 1 else j := by
        by_cases c : m ≤ j ∧ j < m + n
        · rw [if_pos c, if_pos (by omega)]
        · rw [if_neg c, if_neg (by omega)]
      rw [e2] at h2
      exact MM_tr h1 h2
theorem hn_lo {S : St} {a b f i j : Nat} (h : f ≠ 18) (h1 : f ≠ 21) (h2 : f ≠ 22) (hi : i ≠ 20 + b) : hnM S a b f i j = S f i j := by
  rw [hnM, cp3_n h, cpy_i hi, up3_f h2, up3_f h1]
theorem ga_lo {S : St} {m f i j : Nat} (h : f ≠ 18) (h1 : f ≠ 21) (h2 : f ≠ 22) (hi : i < 20) : ∀ n, gaP S m n f i j = S f i j
  | 0 => rfl
  | n + 1 => by rw [gaP, hn_lo h h1 h2 (by omega)]; exact ga_lo h h1 h2 hi n
theorem dr6 {X : St} {m j : Nat} (hm : m < wt X) : dr X m 6 0 j = X 6 0 (if j = wt X - 1 then m else if m ≤ j ∧ j < wt X - 1 then j + 1 else j) := by
  by_cases e : j = wt X - 1
  · rw [if_pos e, dr, e, up3_s]
  · rw [if_neg e, dr, up3_n (by omega), up3_f (by decide)]
    by_cases c : m ≤ j ∧ j < wt X - 1
    · rw [if_pos c]; simp [drP, c.1, c.2]
    · rw [if_neg c]
      simp only [drP]
      rw [if_neg (fun q => c q.2.2)]
theorem wt_nI {X : St} {k : Nat} (hk : k < 2147483648) (h : X 1 0 6 = nI k) : wt X = k := by rw [wt, h]; exact nI_clamp hk
theorem Rel_drop {X Y : St} (h : Rel X Y) {m : Nat} (hm : m < wt (V Y)) : Rel (dr X m) (gaS Y m) := by
  have hw6 := h.w6
  have ewt := h.wt
  have hX : ∀ f i j, f ≠ 1 → f ≠ 6 → dr X m f i j = X f i j := fun f i j a b => dr_n a b
  have hX6 : ∀ j, dr X m 6 0 j = X 6 0 (if j = wt (V Y) - 1 then m else if m ≤ j ∧ j < wt (V Y) - 1 then j + 1 else j) := fun j => by
    rw [dr6 (by omega), ewt]
  have hX61 : ∀ j, dr X m 6 1 j = X 6 1 j := fun j => by
    rw [dr, up3_n (by omega), up3_f (by decide)]
    simp only [drP]
    rw [if_neg (fun q => absurd q.2.1 (by decide))]
  have hX1 : dr X m 1 0 6 = nI (wt (V Y) - 1) := by rw [dr, up3_f (by decide), up3_s, ewt]
  have hX11 : dr X m 1 1 6 = X 1 1 6 := by
    rw [dr, up3_f (by decide), up3_n (by decide)]
    exact drP_n (by decide)
  have hY : ∀ f i j, f ≠ 0 → f ≠ 10 → f ≠ 11 → f ≠ 18 → f ≠ 21 → f ≠ 22 → gaS Y m f i j = Y f i j := fun f i j a b c d e g => by
    rw [gaS, up3_f a, gaP_n b c d e g]
  have hY0 : ∀ i j, j ≠ 8 → gaS Y m 0 i j = Y 0 i j := fun i j a => by
    rw [gaS, up3_n (by omega), gaP_n (by decide) (by decide) (by decide) (by decide) (by decide)]
  have hYl : ∀ f i j, f = 10 ∨ f = 11 → i < 20 → gaS Y m f i j = Y f i j := fun f i j a b => by
    rw [gaS, up3_f (by omega), ga_lo (by omega) (by omega) (by omega) b]
  have hYw : gaS Y m 0 0 8 = nI (wt (V Y) - 1) := up3_s _ _ _ _ _
  have eW : wt (V (gaS Y m)) = wt (V Y) - 1 := wt_nI (X := V (gaS Y m)) (by omega) hYw
  have hMM : ∀ j, j < wt (V Y) - 1 → MM (gaS Y m) Y j (if m ≤ j then j + 1 else j) := fun j hj => by
    have h0 := MM_ga Y m (wt (V Y) - (m + 1)) j
    have e2 : (if m ≤ j ∧ j < m + (wt (V Y) - (m + 1)) then j + 1 else j) = if m ≤ j then j + 1 else j := by
      by_cases c : m ≤ j
      · rw [if_pos c, if_pos (by omega)]
      · rw [if_neg c, if_neg (by omega)]
    rw [e2] at h0
    have u : ∀ f i k, f ≠ 0 → gaS Y m f i k = gaP Y m (wt (V Y) - (m + 1)) f i k := fun f i k a => up3_f a
    refine ⟨?_, ?_, fun c hc => ?_, fun c hc => ?_⟩
    · rw [u 21 _ _ (by decide)]; exact h0.1
    · rw [u 22 _ _ (by decide)]; exact h0.2.1
    · rw [u 10 _ _ (by decide), u 11 _ _ (by decide)]; exact h0.2.2.1 c hc
    · rw [u 18 _ _ (by decide)]; exact h0.2.2.2 c hc
  have hlt : ∀ j, j < wt (V Y) - 1 → (if m ≤ j then j + 1 else j) < wt (V Y) := fun j hj => by split <;> omega
  refine Rel_step h (fun f i j q => ?_) (fun f i j q => ?_) ?_ ?_ (SH_e (fun f i j q => hX f i j (by omega) (by omega)) (fun f i j q => hY f i j (by omega) (by omega) (by omega) (by omega) (by omega) (by omega)) h.sh) ?_
  · by_cases e1 : f = 1
    · subst e1
      have e : i = 1 := by unfold F1 at q; omega
      subst e
      rw [dr, up3_f (by decide), up3_n (by omega)]
      exact drP_n (by decide)
    · by_cases e6 : f = 6
      · subst e6
        have e : i = 1 := by unfold F1 at q; omega
        subst e
        exact hX61 j
      · exact hX f i j e1 e6
  · by_cases e0 : f = 0
    · subst e0
      exact hY0 i j (by unfold FM at q; omega)
    · unfold FM at q
      exact hY f i j (by omega) (by omega) (by omega) (by omega) (by omega) (by omega)
  · refine ⟨fun s hs => (show rowX (dr X m) (gaS Y m) s s from rowX_e (h.row hs) (fun f j hf => hX f s j (by omega) (by omega)) (fun f j hf => hYl f s j hf hs)), fun r hr => ?_, fun p hp => ?_, fun o ho => ?_, fun p hp => ?_, ?_, fun j hj => ?_⟩
    · rw [hX 12 0 r (by decide) (by decide), show V (gaS Y m) 12 0 r = Y 12 0 r from hY 12 0 r (by decide) (by decide) (by decide) (by decide) (by decide) (by decide)]
      exact h.now.mad hr
    · rw [hX 13 0 p (by decide) (by decide), hX 14 0 p (by decide) (by decide), hX 15 0 p (by decide) (by decide), show V (gaS Y m) 13 0 p = V Y 13 0 p from hY 13 _ _ (by decide) (by decide) (by decide) (by decide) (by decide) (by decide), show V (gaS Y m) 14 0 p = V Y 14 0 p from hY 14 _ _ (by decide) (by decide) (by decide) (by decide) (by decide) (by decide), show V (gaS Y m) 15 0 p = V Y 15 0 p from hY 15 _ _ (by decide) (by decide) (by decide) (by decide) (by decide) (by decide)]
      exact h.now.dot hp
    · rw [hX 16 0 o (by decide) (by decide), show V (gaS Y m) 16 0 o = Y 16 0 o from hY 16 0 o (by decide) (by decide) (by decide) (by decide) (by decide) (by decide)]
      exact h.now.knd ho
    · rw [hX 17 0 p (by decide) (by decide), show V (gaS Y m) 17 0 p = V Y 17 0 p from hY 17 _ _ (by decide) (by decide) (by decide) (by decide) (by decide) (by decide)]
      exact h.now.kno hp
    · rw [hX1]; exact hYw.symm
    · rw [eW] at hj
      have e : (if j = wt (V Y) - 1 then m else if m ≤ j ∧ j < wt (V Y) - 1 then j + 1 else j) = if m ≤ j then j + 1 else j := by
        rw [if_neg (by omega)]
        by_cases c : m ≤ j
        · rw [if_pos c, if_pos ⟨c, hj⟩]
        · rw [if_neg c, if_neg (by omega)]
      rw [hX6, e]
      exact MSG_t (h.now.msg (hlt j hj)) (fun x => hX 8 _ x (by decide) (by decide)) (fun f c hf => hX f _ c (by omega) (by omega)) (fun c => hX 18 _ c (by decide) (by decide)) (hMM j hj)
  · refine ⟨okM_e (I := V Y) (u := V (gaS Y m)) (fun q => hY 12 0 q (by decide) (by decide) (by decide) (by decide) (by decide) (by decide)) h.ok.M, okK_e (I := V Y) (u := V (gaS Y m)) (fun q => hY 16 0 q (by decide) (by decide) (by decide) (by decide) (by decide) (by decide)) h.ok.K, ⟨?_, ?_⟩, fun j hj => ?_, fun p hp => ?_, fun s hs => ?_, fun j hj => ?_⟩
    · rw [eW]; exact hYw
    · rw [eW]; omega
    · rw [eW] at hj
      obtain ⟨a, b, ha, hb, ea, eb⟩ := h.ok.A (hlt j hj)
      have k := hMM j hj
      exact ⟨a, b, ha, hb, k.1.trans ea, k.2.1.trans eb⟩
    · obtain ⟨x, hx, e⟩ := h.ok.O hp
      exact ⟨x, hx, (hY 15 _ _ (by decide) (by decide) (by decide) (by decide) (by decide) (by decide)).trans e⟩
    · exact sub_e (A := V (gaS Y m)) (B := V Y) (fun j _ => ⟨hYl 10 s j (Or.inl rfl) hs, hYl 11 s j (Or.inr rfl) hs⟩) (h.ok.S hs)
    · rw [eW] at hj
      exact sub_e (A := V (gaS Y m)) (B := V Y) (fun c hc => (hMM j hj).2.2.1 c hc) (h.ok.L (hlt j hj))
  · have hσ : ∀ j, j < 6 → (if j = wt (V Y) - 1 then m else if m ≤ j ∧ j < wt (V Y) - 1 then j + 1 else j) < 6 := fun j hj => by
      split
      · omega
      · split <;> omega
    refine ⟨fun j hj => by rw [hX6]; exact h.pm.1 _ (hσ j hj), fun j k hj hk e => ?_⟩
    rw [hX6, hX6] at e
    have e2 := h.pm.2 _ _ (hσ j hj) (hσ k hk) e
    clear e
    repeat' (split at e2)
    all_goals omega
theorem come_X {I J : St} (h : Rel I J) {t f m q : Nat} (ht : t < 4) (hf : f < 4) (hm : m < wt (V J)) (hq : q = tn (I 6 0 m)) : Rel (lrP (jn I t (q + 20)) q ((t * 4 + f) * 4) 4) (lnP (jn J t (20 + m)) (4 * t + f) m 4) := by
  have hw6 := h.w6
  have hq6 : q < 6 := by rw [hq]; exact h.pm.1 m (by omega)
  have msg : MSG I (V J) q m := by
    have := h.now.msg hm
    rw [← hq] at this
    exact this
  obtain ⟨u, hu⟩ : ∃ u, u = lrP (jn I t (q + 20)) q ((t * 4 + f) * 4) 4 := ⟨_, rfl⟩
  obtain ⟨v, hv⟩ : ∃ v, v = lnP (jn J t (20 + m)) (4 * t + f) m 4 := ⟨_, rfl⟩
  rw [← hu, ← hv]
  have hX : ∀ f i j, f ≠ 17 → i ≠ t ∨ (f ≠ 10 ∧ f ≠ 11) → u f i j = I f i j := fun f i j a b => by
    rw [hu, lrP_n a]
    rcases b with b | b
    · exact jn_i b
    · exact jn_n b.1 b.2
  have hY : ∀ f i j, f ≠ 17 → i ≠ t ∨ (f ≠ 10 ∧ f ≠ 11) → v f i j = J f i j := fun f i j a b => by
    rw [hv, lnP_n a]
    rcases b with b | b
    · exact jn_i b
    · exact jn_n b.1 b.2
  have uX : ∀ f i j, f = 10 ∨ f = 11 → u f i j = jn I t (q + 20) f i j := fun f i j a => by rw [hu, lrP_n (by omega)]
  have vY : ∀ f i j, f = 10 ∨ f = 11 → v f i j = jn J t (20 + m) f i j := fun f i j a => by rw [hv, lnP_n (by omega)]
  have ew : wt (V v) = wt (V J) := wt_V (hY _ _ _ (by decide) (Or.inr ⟨by decide, by decide⟩))
  have o17 : ∀ f, f ≠ 17 → f ≠ 10 → f ≠ 11 → ∀ i j, u f i j = I f i j := fun f a b c i j => hX f i j a (Or.inr ⟨b, c⟩)
  have p17 : ∀ f, f ≠ 17 → f ≠ 10 → f ≠ 11 → ∀ i j, v f i j = J f i j := fun f a b c i j => hY f i j a (Or.inr ⟨b, c⟩)
  refine Rel_step h (fun f i j z => ?_) (fun f i j z => ?_) ?_ ?_ (SH_e (fun f i j z => o17 f (by omega) (by omega) (by omega) i j) (fun f i j z => p17 f (by omega) (by omega) (by omega) i j) h.sh) (PM_e (fun j _ => o17 6 (by decide) (by decide) (by decide) 0 j) h.pm)
  · by_cases e : f = 17
    · subst e
      have e1 : i = 1 := by unfold F1 at z; omega
      subst e1
      rw [hu]
      simp only [lrP]
      rw [if_neg (fun y => absurd y.2.1 (by decide))]
      exact jn_n (by decide) (by decide)
    · refine hX f i j e ?_
      unfold F1 at z; omega
  · unfold FM at z
    exact hY f i j (by omega) (Or.inr ⟨by omega, by omega⟩)
  · refine NW_m h.now h.pm h.w6 (fun f i j z => ?_) (fun f i j z => ?_) (fun s hs => ?_) (fun x hx => ?_) (fun p hp => ?_) (fun o ho => ?_) (fun p hp => ?_)
    · refine hX f i j ?_ ?_ <;> (unfold MC at z; omega)
    · refine hY f i j ?_ ?_ <;> (unfold MD at z; omega)
    · exact rowX_e (rowX_jn (s := t) (t := t) (w := q + 20) (x := 20 + m) Iff.rfl (h.row hs) (fun _ => msg.2.2.1)) (fun f j hf => uX f s j hf) (fun f j hf => vY f s j hf)
    · rw [o17 12 (by decide) (by decide) (by decide), p17 12 (by decide) (by decide) (by decide)]; exact h.now.mad hx
    · rw [o17 13 (by decide) (by decide) (by decide), o17 14 (by decide) (by decide) (by decide), o17 15 (by decide) (by decide) (by decide), show V v 13 0 p = V J 13 0 p from p17 13 (by decide) (by decide) (by decide) _ _, show V v 14 0 p = V J 14 0 p from p17 14 (by decide) (by decide) (by decide) _ _, show V v 15 0 p = V J 15 0 p from p17 15 (by decide) (by decide) (by decide) _ _]
      exact h.now.dot hp
    · rw [o17 16 (by decide) (by decide) (by decide), p17 16 (by decide) (by decide) (by decide)]; exact h.now.knd ho
    · have k := h.now.kno hp
      have e1 : u 17 0 p = if (t * 4 + f) * 4 ≤ p ∧ p < (t * 4 + f) * 4 + 4 then I 17 0 p ||| I 18 q (p - (t * 4 + f) * 4) else I 17 0 p := by
        rw [hu]
        simp only [lrP, true_and, jn_n (show (17 : Nat) ≠ 10 by decide) (show (17 : Nat) ≠ 11 by decide), jn_n (show (18 : Nat) ≠ 10 by decide) (show (18 : Nat) ≠ 11 by decide)]
      have e2 : V v 17 0 p = if p / 4 = 4 * t + f then J 17 (p / 4) (p % 4) ||| J 18 m (p % 4) else J 17 (p / 4) (p % 4) := by
        show v 17 (p / 4) (p % 4) = _
        rw [hv]
        have e4 : p % 4 < 4 := Nat.mod_lt _ (by decide)
        simp only [lnP, true_and, e4, and_true, jn_n (show (17 : Nat) ≠ 10 by decide) (show (17 : Nat) ≠ 11 by decide), jn_n (show (18 : Nat) ≠ 10 by decide) (show (18 : Nat) ≠ 11 by decide)]
        by_cases e5 : p / 4 = 4 * t + f
        · rw [if_pos e5, if_pos e5, e5]
        · rw [if_neg e5, if_neg e5]
      rw [e1, e2]
      by_cases c : p / 4 = 4 * t + f
      · rw [if_pos c, if_pos (by omega), k, show p - (t * 4 + f) * 4 = p % 4 by omega, msg.2.2.2 (p % 4) (by omega)]
        rfl
      · rw [if_neg c, if_neg (by omega), k]
        rfl
  · refine ⟨okM_e (I := V J) (u := V v) (fun x => p17 12 (by decide) (by decide) (by decide) 0 x) h.ok.M, okK_e (I := V J) (u := V v) (fun x => p17 16 (by decide) (by decide) (by decide) 0 x) h.ok.K, okT_e (I := V J) (u := V v) (p17 0 (by decide) (by decide) (by decide) 0 8) h.ok.T, fun j hj => ?_, fun p hp => ?_, fun s hs => ?_, fun j hj => ?_⟩
    · rw [ew] at hj
      obtain ⟨a, b, ha, hb, ea, eb⟩ := h.ok.A hj
      exact ⟨a, b, ha, hb, (p17 21 (by decide) (by decide) (by decide) 0 j).trans ea, (p17 22 (by decide) (by decide) (by decide) 0 j).trans eb⟩
    · obtain ⟨x, hx, e⟩ := h.ok.O hp
      exact ⟨x, hx, (p17 15 (by decide) (by decide) (by decide) _ _).trans e⟩
    · exact sub_e (A := V v) (B := jn J t (20 + m)) (fun j _ => ⟨vY 10 s j (Or.inl rfl), vY 11 s j (Or.inr rfl)⟩) (sub_jn (h.ok.S hs) (fun _ => h.ok.L hm))
    · rw [ew] at hj
      exact sub_e (A := V v) (B := V J) (fun c _ => ⟨hY 10 _ c (by decide) (Or.inl (by omega)), hY 11 _ c (by decide) (Or.inl (by omega))⟩) (h.ok.L hj)
/-- a message more waits -/
theorem Rel_post {I J u v : St} (h : Rel I J) {W q : Nat} (hW : W = wt (V J)) (hW6 : W < 6) (hq : q = tn (I 6 0 W))
    (h1 : ∀ f i j, ¬ (f = 1 ∧ i = 0 ∧ j = 6) → ¬ ((f = 8 ∨ f = 18) ∧ i = q) → ¬ ((f = 10 ∨ f = 11) ∧ i = q + 20) → u f i j = I f i j) (h1w : u 1 0 6 = nI (W + 1))
    (h2 : ∀ f i j, ¬ (f = 0 ∧ j = 8) → ¬ ((f = 21 ∨ f = 22) ∧ j = W) → ¬ (f = 18 ∧ i = W) → ¬ ((f = 10 ∨ f = 11) ∧ i = 20 + W) → v f i j = J f i j) (h2w : v 0 0 8 = nI (W + 1))
    (hm : MSG u (V v) q W) (ha : ∃ a b, a < 4 ∧ b < 4 ∧ v 21 0 W = nI a ∧ v 22 0 W = nI b) (hs : sub v (20 + W)) : Rel u v := by
  have hq6 : q < 6 := by rw [hq]; exact h.pm.1 W hW6
  have eW : wt (V v) = W + 1 := wt_nI (X := V v) (by omega) h2w
  have hX : ∀ f, f ≠ 1 → f ≠ 8 → f ≠ 18 → f ≠ 10 → f ≠ 11 → ∀ i j, u f i j = I f i j := fun f a b c d e i j => h1 f i j (by omega) (by omega) (by omega)
  have hY : ∀ f, f ≠ 0 → f ≠ 21 → f ≠ 22 → f ≠ 18 → f ≠ 10 → f ≠ 11 → ∀ i j, v f i j = J f i j := fun f a b c d e g i j => h2 f i j (by omega) (by omega) (by omega) (by omega)
  have h6 : ∀ i j, u 6 i j = I 6 i j := hX 6 (by decide) (by decide) (by decide) (by decide) (by decide)
  have old : ∀ j, j < W → MM v J j j := fun j hj => ⟨h2 21 0 j (by omega) (by omega) (by omega) (by omega), h2 22 0 j (by omega) (by omega) (by omega) (by omega), fun c _ => ⟨h2 10 _ c (by omega) (by omega) (by omega) (by omega), h2 11 _ c (by omega) (by omega) (by omega) (by omega)⟩, fun c _ => h2 18 j c (by omega) (by omega) (by omega) (by omega)⟩
  refine Rel_step h (fun f i j z => h1 f i j ?_ ?_ ?_) (fun f i j z => h2 f i j ?_ ?_ ?_ ?_) ?_ ?_ (SH_e (fun f i j z => hX f (by omega) (by omega) (by omega) (by omega) (by omega) i j) (fun f i j z => hY f (by omega) (by omega) (by omega) (by omega) (by omega) (by omega) i j) h.sh) (PM_e (fun j _ => h6 0 j) h.pm)
  · unfold F1 at z; omega
  · unfold F1 at z; omega
  · unfold F1 at z; omega
  · unfold FM at z; omega
  · unfold FM at z; omega
  · unfold FM at z; omega
  · unfold FM at z; omega
  · refine ⟨fun s hs => (show rowX u v s s from rowX_e (h.row hs) (fun f j hf => h1 f s j (by omega) (by omega) (by omega)) (fun f j hf => h2 f s j (by omega) (by omega) (by omega) (by omega))), fun r hr => ?_, fun p hp => ?_, fun o ho => ?_, fun p hp => ?_, ?_, fun j hj => ?_⟩
    · rw [hX 12 (by decide) (by decide) (by decide) (by decide) (by decide), show V v 12 0 r = J 12 0 r from hY 12 (by decide) (by decide) (by decide) (by decide) (by decide) (by decide) 0 r]
      exact h.now.mad hr
    · rw [hX 13 (by decide) (by decide) (by decide) (by decide) (by decide), hX 14 (by decide) (by decide) (by decide) (by decide) (by decide), hX 15 (by decide) (by decide) (by decide) (by decide) (by decide), show V v 13 0 p = V J 13 0 p from hY 13 (by decide) (by decide) (by decide) (by decide) (by decide) (by decide) _ _, show V v 14 0 p = V J 14 0 p from hY 14 (by decide) (by decide) (by decide) (by decide) (by decide) (by decide) _ _, show V v 15 0 p = V J 15 0 p from hY 15 (by decide) (by decide) (by decide) (by decide) (by decide) (by decide) _ _]
      exact h.now.dot hp
    · rw [hX 16 (by decide) (by decide) (by decide) (by decide) (by decide), show V v 16 0 o = J 16 0 o from hY 16 (by decide) (by decide) (by decide) (by decide) (by decide) (by decide) 0 o]
      exact h.now.knd ho
    · rw [hX 17 (by decide) (by decide) (by decide) (by decide) (by decide), show V v 17 0 p = V J 17 0 p from hY 17 (by decide) (by decide) (by decide) (by decide) (by decide) (by decide) _ _]
      exact h.now.kno hp
    · rw [h1w]; exact h2w.symm
    · rw [eW] at hj
      rw [h6]
      by_cases e : j = W
      · subst e
        rw [← hq]
        exact hm
      · have hj2 : j < W := by omega
        have hne : tn (I 6 0 j) ≠ q := fun z => e (h.pm.2 j W (by omega) hW6 (z.trans hq))
        exact MSG_t (h.now.msg (by omega)) (fun x => h1 8 _ x (by omega) (by omega) (by omega)) (fun f c hf => h1 f _ c (by omega) (by omega) (by omega)) (fun c => h1 18 _ c (by omega) (by omega) (by omega)) (old j hj2)
  · refine ⟨okM_e (I := V J) (u := V v) (fun x => hY 12 (by decide) (by decide) (by decide) (by decide) (by decide) (by decide) 0 x) h.ok.M, okK_e (I := V J) (u := V v) (fun x => hY 16 (by decide) (by decide) (by decide) (by decide) (by decide) (by decide) 0 x) h.ok.K, ⟨by rw [eW]; exact h2w, by omega⟩, fun j hj => ?_, fun p hp => ?_, fun s hs => ?_, fun j hj => ?_⟩
    · rw [eW] at hj
      by_cases e : j = W
      · subst e; exact ha
      · obtain ⟨a, b, ha, hb, ea, eb⟩ := h.ok.A (show j < wt (V J) by omega)
        have k := old j (by omega)
        exact ⟨a, b, ha, hb, k.1.trans ea, k.2.1.trans eb⟩
    · obtain ⟨x, hx, e⟩ := h.ok.O hp
      exact ⟨x, hx, (hY 15 (by decide) (by decide) (by decide) (by decide) (by decide) (by decide) _ _).trans e⟩
    · exact sub_e (A := V v) (B := V J) (fun j _ => ⟨h2 10 s j (by omega) (by omega) (by omega) (by omega), h2 11 s j (by omega) (by omega) (by omega) (by omega)⟩) (h.ok.S hs)
    · rw [eW] at hj
      by_cases e : j = W
      · subst e; exact hs
      · exact sub_e (A := V v) (B := V J) (fun c hc => (old j (by omega)).2.2.1 c hc) (h.ok.L (show j < wt (V J) by omega))
theorem mset_o {I : St} {q ia fm ic f i j : Nat} {a b : Int32} (h8 : ¬ ((f = 8 ∨ f = 18) ∧ i = q)) (h10 : ¬ ((f = 10 ∨ f = 11) ∧ i = q + 20)) : mset I q a b ia fm ic f i j = I f i j := by
  simp only [mset, cp3, cpy, cpyP]
  rw [if_neg (by omega), if_neg (by omega), up3_n (by omega), up3_n (by omega)]
theorem mset_8 (I : St) (q ia fm ic : Nat) (a b : Int32) : mset I q a b ia fm ic 8 q 0 = a ∧ mset I q a b ia fm ic 8 q 1 = b := by
  constructor <;> simp [mset, cp3, cpy, cpyP, up3]
theorem mset_r (I : St) (q ia fm ic : Nat) (a b : Int32) {c : Nat} (hc : c < 4) : mset I q a b ia fm ic 10 (q + 20) c = I 10 ia c ∧ mset I q a b ia fm ic 11 (q + 20) c = I 11 ia c := by
  constructor <;> simp [mset, cp3, cpy, cpyP, up3, hc]
theorem mset_18 (I : St) (q ia fm ic : Nat) (a b : Int32) (h : fm ≠ 8) (h2 : fm = 18 ∨ ic ≠ q + 20) {c : Nat} (hc : c < 4) : mset I q a b ia fm ic 18 q c = I fm ic c := by
  have e : mset I q a b ia fm ic 18 q c = cpy (up3 (up3 I 8 q 0 a) 8 q 1 b) (q + 20) ia fm ic c := by simp [mset, cp3, hc]
  rw [e]
  rcases h2 with h2 | h2
  · rw [h2, cpy_n (by decide) (by decide), up3_f (by decide), up3_f (by decide)]
  · rw [cpy_i h2, up3_f h, up3_f h]
theorem post_r {I J : St} (h : Rel I J) {fr to ia : Nat} (hr : fr < 4) (ho : to < 4) (hia : ia < 20) (hW : wt (V J) < 6) : Rel (psd I fr to ia) (up3 (cp3 (cpy (up3 (up3 J 21 0 (wt (V J)) (nI fr)) 22 0 (wt (V J)) (nI to)) (20 + wt (V J)) ia) 10 fr 18 (wt (V J)) 0 0 4) 0 0 8 (nI (wt (V J) + 1))) := by
  have ew := h.wt
  rw [psd, ew]
  have hq : ph I (wt (V J)) = tn (I 6 0 (wt (V J))) := rfl
  generalize ph I (wt (V J)) = q at *
  have row := h.row hia
  have rowf := h.row (show fr < 20 by omega)
  have hsub := h.ok.S hia
  generalize hWW : wt (V J) = W at *
  have vr : ∀ c, c < 4 → up3 (cp3 (cpy (up3 (up3 J 21 0 W (nI fr)) 22 0 W (nI to)) (20 + W) ia) 10 fr 18 W 0 0 4) 0 0 8 (nI (W + 1)) 10 (20 + W) c = J 10 ia c ∧ up3 (cp3 (cpy (up3 (up3 J 21 0 W (nI fr)) 22 0 W (nI to)) (20 + W) ia) 10 fr 18 W 0 0 4) 0 0 8 (nI (W + 1)) 11 (20 + W) c = J 11 ia c := fun c hc => by
    constructor <;> simp [cp3, cpy, cpyP, up3, hc]
  refine Rel_post h hWW.symm hW hq (fun f i j a b c => ?_) (up3_s _ _ _ _ _) (fun f i j a b c d => ?_) (up3_s _ _ _ _ _) ⟨?_, ?_, fun c hc => ?_, fun c hc => ?_⟩ ⟨fr, to, hr, ho, ?_, ?_⟩ (sub_e vr hsub)
  · rw [up3_n a, mset_o b c]
  · rw [up3_n (by omega)]
    simp only [cp3, cpy, cpyP]
    rw [if_neg (by omega), if_neg (by omega), up3_n (by omega), up3_n (by omega)]
  · rw [up3_f (by decide), (mset_8 _ _ _ _ _ _ _).1]
    show _ = up3 (cp3 (cpy (up3 (up3 J 21 0 W (nI fr)) 22 0 W (nI to)) (20 + W) ia) 10 fr 18 W 0 0 4) 0 0 8 (nI (W + 1)) 21 0 W
    simp [cp3, cpy, cpyP, up3]
  · rw [up3_f (by decide), (mset_8 _ _ _ _ _ _ _).2]
    show _ = up3 (cp3 (cpy (up3 (up3 J 21 0 W (nI fr)) 22 0 W (nI to)) (20 + W) ia) 10 fr 18 W 0 0 4) 0 0 8 (nI (W + 1)) 22 0 W
    simp [cp3, cpy, cpyP, up3]
  · rw [up3_f (by decide), up3_f (by decide), (mset_r _ _ _ _ _ _ _ hc).1, (mset_r _ _ _ _ _ _ _ hc).2]
    exact ⟨(row c hc).1.trans (vr c hc).1.symm, (row c hc).2.trans (vr c hc).2.symm⟩
  · rw [up3_f (by decide), mset_18 _ _ _ _ _ _ _ (by decide) (Or.inr (by omega)) hc]
    show _ = up3 (cp3 (cpy (up3 (up3 J 21 0 W (nI fr)) 22 0 W (nI to)) (20 + W) ia) 10 fr 18 W 0 0 4) 0 0 8 (nI (W + 1)) 18 W c
    rw [up3_f (by decide)]
    simp only [cp3]
    rw [if_pos ⟨trivial, trivial, by omega, by omega⟩, cpy_i (by omega), up3_f (by decide), up3_f (by decide), show 0 + (c - 0) = c by omega]
    exact (rowf c hc).1
  · simp [cp3, cpy, cpyP, up3]
  · simp [cp3, cpy, cpyP, up3]
theorem Rel_clr {I J : St} (h : Rel I J) {s : Nat} (hs : s < 20) : Rel (clr I s) (clr J s) := by
  have hX : ∀ f i j, (f ≠ 10 ∧ f ≠ 11) ∨ i ≠ s → clr I s f i j = I f i j := fun f i j a => by
    rcases a with a | a
    · exact clr_n a.1 a.2
    · exact clr_i a
  have hY : ∀ f i j, (f ≠ 10 ∧ f ≠ 11) ∨ i ≠ s → clr J s f i j = J f i j := fun f i j a => by
    rcases a with a | a
    · exact clr_n a.1 a.2
    · exact clr_i a
  have ew : wt (V (clr J s)) = wt (V J) := wt_V (hY _ _ _ (Or.inl ⟨by decide, by decide⟩))
  have nX : ∀ f, f ≠ 10 → f ≠ 11 → ∀ i j, clr I s f i j = I f i j := fun f a b i j => hX f i j (Or.inl ⟨a, b⟩)
  have nY : ∀ f, f ≠ 10 → f ≠ 11 → ∀ i j, clr J s f i j = J f i j := fun f a b i j => hY f i j (Or.inl ⟨a, b⟩)
  refine Rel_step h (fun f i j z => hX f i j ?_) (fun f i j z => hY f i j ?_) ?_ ?_ (SH_e (fun f i j z => nX f (by omega) (by omega) i j) (fun f i j z => nY f (by omega) (by omega) i j) h.sh) (PM_e (fun j _ => nX 6 (by decide) (by decide) 0 j) h.pm)
  · unfold F1 at z; omega
  · unfold FM at z; omega
  · refine NW_m h.now h.pm h.w6 (fun f i j z => hX f i j ?_) (fun f i j z => hY f i j ?_) (fun a ha => rowX_clr Iff.rfl (fun _ => h.row ha)) (fun x hx => ?_) (fun p hp => ?_) (fun o ho => ?_) (fun p hp => ?_)
    · unfold MC at z; omega
    · unfold MD at z; omega
    · rw [nX 12 (by decide) (by decide), nY 12 (by decide) (by decide)]; exact h.now.mad hx
    · rw [nX 13 (by decide) (by decide), nX 14 (by decide) (by decide), nX 15 (by decide) (by decide), show V (clr J s) 13 0 p = V J 13 0 p from nY 13 (by decide) (by decide) _ _, show V (clr J s) 14 0 p = V J 14 0 p from nY 14 (by decide) (by decide) _ _, show V (clr J s) 15 0 p = V J 15 0 p from nY 15 (by decide) (by decide) _ _]
      exact h.now.dot hp
    · rw [nX 16 (by decide) (by decide), nY 16 (by decide) (by decide)]; exact h.now.knd ho
    · rw [nX 17 (by decide) (by decide), show V (clr J s) 17 0 p = V J 17 0 p from nY 17 (by decide) (by decide) _ _]; exact h.now.kno hp
  · refine ⟨okM_e (I := V J) (u := V (clr J s)) (fun x => nY 12 (by decide) (by decide) 0 x) h.ok.M, okK_e (I := V J) (u := V (clr J s)) (fun x => nY 16 (by decide) (by decide) 0 x) h.ok.K, okT_e (I := V J) (u := V (clr J s)) (nY 0 (by decide) (by decide) 0 8) h.ok.T, fun j hj => ?_, fun p hp => ?_, fun a ha => ?_, fun j hj => ?_⟩
    · rw [ew] at hj
      obtain ⟨a, b, ha, hb, ea, eb⟩ := h.ok.A hj
      exact ⟨a, b, ha, hb, (nY 21 (by decide) (by decide) 0 j).trans ea, (nY 22 (by decide) (by decide) 0 j).trans eb⟩
    · obtain ⟨x, hx, e⟩ := h.ok.O hp
      exact ⟨x, hx, (nY 15 (by decide) (by decide) _ _).trans e⟩
    · by_cases e : a = s
      · subst e
        intro j hj i _ z
        have z2 : bt (clr J a 11 a j) i = true := z
        rw [(clr_z hj).2, b_n0] at z2
        exact absurd z2 (by decide)
      · exact sub_e (A := V (clr J s)) (B := V J) (fun j _ => ⟨hY 10 a j (Or.inr e), hY 11 a j (Or.inr e)⟩) (h.ok.S ha)
    · rw [ew] at hj
      exact sub_e (A := V (clr J s)) (B := V J) (fun c _ => ⟨hY 10 _ c (Or.inr (by omega)), hY 11 _ c (Or.inr (by omega))⟩) (h.ok.L hj)
theorem clr_com {S : St} {c fr W : Nat} {x : Int32} (hne : fr ≠ c) : up3 (cp3 (clr S c) 10 fr 18 W 0 0 4) 0 0 8 x = clr (up3 (cp3 S 10 fr 18 W 0 0 4) 0 0 8 x) c := by
  funext f i j
  by_cases e : (f = 10 ∨ f = 11) ∧ i = c ∧ j < 4
  · have r : clr (up3 (cp3 S 10 fr 18 W 0 0 4) 0 0 8 x) c f i j = nI 0 := by simp only [clr, clrP]; rw [if_pos e]
    rw [r, up3_n (by omega)]
    simp only [cp3]
    rw [if_neg (by omega)]
    simp only [clr, clrP]
    rw [if_pos e]
  · have r : clr (up3 (cp3 S 10 fr 18 W 0 0 4) 0 0 8 x) c f i j = up3 (cp3 S 10 fr 18 W 0 0 4) 0 0 8 x f i j := by
      show clrP _ c 4 f i j = _
      simp only [clrP]; rw [if_neg e]
    rw [r]
    simp only [up3, cp3]
    split
    · rfl
    · split
      · exact clr_i hne
      · simp only [clr, clrP]; rw [if_neg e]
theorem send_r {I J : St} (h : Rel I J) {fr to w : Nat} (hr : fr < 4) (ho : to < 4) (hW : wt I < 6) : Rel (snS I fr to w) (snM J fr to w) := by
  have ew := h.wt
  rw [ew] at hW
  by_cases e : w = 0
  · have e1 : snM J fr to w = up3 (cp3 (cpy (up3 (up3 J 21 0 (wt (V J)) (nI fr)) 22 0 (wt (V J)) (nI to)) (20 + wt (V J)) fr) 10 fr 18 (wt (V J)) 0 0 4) 0 0 8 (nI (wt (V J) + 1)) := by simp [snM, e]
    rw [e1, snS, if_pos e]
    exact post_r h hr ho (by omega) hW
  · have e1 : snM J fr to w = up3 (cp3 (clr (cpy (up3 (up3 J 21 0 (wt (V J)) (nI fr)) 22 0 (wt (V J)) (nI to)) (20 + wt (V J)) (4 + 4 * fr + to)) (4 + 4 * fr + to)) 10 fr 18 (wt (V J)) 0 0 4) 0 0 8 (nI (wt (V J) + 1)) := by simp [snM, e]
    rw [e1, snS, if_neg e, clr_com (by omega), show fr * 4 + to + 4 = 4 + 4 * fr + to by omega]
    exact Rel_clr (post_r h hr ho (by omega) hW) (by omega)
theorem twice_r {I J : St} (h : Rel I J) {m : Nat} (hm : m < wt I) (hW : wt I < 6) : Rel (twS I (I 6 0 m).toNatClampNeg) (twM J m) := by
  have ew := h.wt
  rw [ew] at hm hW
  have hq : tn (I 6 0 (wt (V J))) = tn (I 6 0 (wt (V J))) := rfl
  have msg := h.now.msg hm
  rw [twS, twM, ew]
  have mm := MM_hn J m (wt (V J)) (wt (V J))
  rw [if_pos rfl] at mm
  have hsub := h.ok.L hm
  obtain ⟨a, b, ha, hb, ea, eb⟩ := h.ok.A hm
  have eq1 : tn (I 6 0 m) + 6 * 0 = (I 6 0 m).toNatClampNeg := rfl
  rw [eq1] at msg
  have eq2 : (I 6 0 (wt (V J))).toNatClampNeg = tn (I 6 0 (wt (V J))) := rfl
  rw [eq2]
  have hqm : (I 6 0 m).toNatClampNeg < 6 := h.pm.1 m (by omega)
  generalize (I 6 0 m).toNatClampNeg = qm at *
  generalize hqq : tn (I 6 0 (wt (V J))) = q at *
  have hq6 : q < 6 := by rw [← hqq]; exact h.pm.1 _ hW
  have hvr : ∀ c, c < 4 → up3 (hnM J m (wt (V J))) 0 0 8 (nI (wt (V J) + 1)) 10 (20 + wt (V J)) c = J 10 (20 + m) c ∧ up3 (hnM J m (wt (V J))) 0 0 8 (nI (wt (V J) + 1)) 11 (20 + wt (V J)) c = J 11 (20 + m) c := fun c hc => by
    rw [up3_f (by decide), up3_f (by decide)]
    exact mm.2.2.1 c hc
  refine Rel_post h rfl hW hqq.symm (fun f i j a b c => ?_) (up3_s _ _ _ _ _) (fun f i j a b c d => ?_) (up3_s _ _ _ _ _) ⟨?_, ?_, fun c hc => ?_, fun c hc => ?_⟩ ⟨a, b, ha, hb, ?_, ?_⟩ (sub_e hvr hsub)
  · rw [up3_n a, mset_o b c]
  · rw [up3_n (by omega), hnM]
    simp only [cp3, cpy, cpyP]
    rw [if_neg (by omega), if_neg (by omega), up3_n (by omega), up3_n (by omega)]
  · rw [up3_f (by decide), (mset_8 _ _ _ _ _ _ _).1]
    show _ = up3 (hnM J m (wt (V J))) 0 0 8 (nI (wt (V J) + 1)) 21 0 (wt (V J))
    rw [up3_f (by decide), mm.1]
    exact msg.1
  · rw [up3_f (by decide), (mset_8 _ _ _ _ _ _ _).2]
    show _ = up3 (hnM J m (wt (V J))) 0 0 8 (nI (wt (V J) + 1)) 22 0 (wt (V J))
    rw [up3_f (by decide), mm.2.1]
    exact msg.2.1
  · rw [up3_f (by decide), up3_f (by decide), (mset_r _ _ _ _ _ _ _ hc).1, (mset_r _ _ _ _ _ _ _ hc).2]
    exact ⟨(msg.2.2.1 c hc).1.trans (hvr c hc).1.symm, (msg.2.2.1 c hc).2.trans (hvr c hc).2.symm⟩
  · rw [up3_f (by decide), mset_18 _ _ _ _ _ _ _ (by decide) (Or.inl rfl) hc]
    show _ = up3 (hnM J m (wt (V J))) 0 0 8 (nI (wt (V J) + 1)) 18 (wt (V J)) c
    rw [up3_f (by decide), mm.2.2.2 c hc]
    exact msg.2.2.2 c hc
  · rw [up3_f (by decide), mm.1]; exact ea
  · rw [up3_f (by decide), mm.2.1]; exact eb
theorem mt_e {I J : St} (h : Rel I J) {m : Nat} (hm : m < wt (V J)) : mto I (I 6 0 m).toNatClampNeg = mtoM J m ∧ mfr I (I 6 0 m).toNatClampNeg = mfM J m ∧ mtoM J m < 4 ∧ mfM J m < 4 := by
  have msg := h.now.msg hm
  have k := h.okA m hm
  refine ⟨?_, ?_, k.2.2.2, k.2.1⟩
  · rw [mto, mtoM, show I 8 (I 6 0 m).toNatClampNeg 1 = J 22 0 m from msg.2.1]
  · rw [mfr, mfM, show I 8 (I 6 0 m).toNatClampNeg 0 = J 21 0 m from msg.1]
theorem come_r {I J : St} (h : Rel I J) {m : Nat} (hm : m < wt I) : Rel (cmS I m (I 6 0 m).toNatClampNeg) (cmM J m) := by
  rw [h.wt] at hm
  obtain ⟨e1, e2, ht, hf⟩ := mt_e h hm
  rw [cmS, cmM, e1, e2]
  have k := come_X h ht hf hm (q := (I 6 0 m).toNatClampNeg) rfl
  have ew : wt (V (lnP (jn J (mtoM J m) (20 + m)) (4 * mtoM J m + mfM J m) m 4)) = wt (V J) := wt_V (by rw [lnP_n (by decide), jn_n (by decide) (by decide)])
  exact Rel_drop k (by rw [ew]; exact hm)
theorem come_a {I J : St} (h : Rel I J) {m : Nat} (hm : m < wt I) : bcs (cmS I m (I 6 0 m).toNatClampNeg 10 (mto I (I 6 0 m).toNatClampNeg)) 4 - bcs (I 10 (mto I (I 6 0 m).toNatClampNeg)) 4 = bcs (cmM J m 10 (mtoM J m)) 4 - bcs (J 10 (mtoM J m)) 4 := by
  have k := come_r h hm
  rw [h.wt] at hm
  obtain ⟨e1, e2, ht, hf⟩ := mt_e h hm
  rw [e1, bcs_c (fun j hj => (k.row (show mtoM J m < 20 by omega) j hj).1), bcs_c (fun j hj => (h.row (show mtoM J m < 20 by omega) j hj).1)]
theorem letter_a {I J : St} (h : Rel I J) {m : Nat} (hm : m < wt I) (w : Int32) : lte I (I 6 0 m).toNatClampNeg w = if okN (nI 4) w = true then ltM J m (tn w) else -2 := by
  rw [h.wt] at hm
  have msg := h.now.msg hm
  have eq1 : tn (I 6 0 m) + 6 * 0 = (I 6 0 m).toNatClampNeg := rfl
  rw [eq1] at msg
  by_cases c1 : okN (nI 4) w = true
  · obtain ⟨n, hn, rfl⟩ := okN_nI (by decide) c1
    rw [c1, if_pos rfl, tn_nI (by omega)]
    rcases (by omega : n = 0 ∨ n = 1 ∨ n = 2 ∨ n = 3) with rfl | rfl | rfl | rfl
    · rw [lte, if_pos rfl]; exact msg.1
    · rw [lte, if_neg (by decide +kernel), if_pos rfl]; exact msg.2.1
    · rw [lte, if_neg (by decide +kernel), if_neg (by decide +kernel), if_pos rfl, bcs_c (fun j hj => (msg.2.2.1 j hj).1)]; rfl
    · rw [lte, if_neg (by decide +kernel), if_neg (by decide +kernel), if_neg (by decide +kernel), if_pos rfl, bcs_c (fun j hj => (msg.2.2.1 j hj).2)]; rfl
  · have n0 : ∀ k, k < 4 → ¬ w = nI k := fun k hk q => c1 (by rw [q]; exact okN_of (by decide) hk)
    rw [if_neg c1, lte, if_neg (n0 0 (by decide)), if_neg (n0 1 (by decide)), if_neg (n0 2 (by decide)), if_neg (n0 3 (by decide))]
theorem lose_r {I J : St} (h : Rel I J) {m : Nat} (hm : m < wt I) : Rel (dr I m) (gaS J m) := Rel_drop h (by rw [← h.wt]; exact hm)
