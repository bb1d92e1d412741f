/-! ===== calls at a replica: both sides ===== -/
theorem okR0 {k : Nat} (hk : k + 1 < 2147483648) (x : Int32) : okR 0 (nI k) x = okN (nI (k + 1)) x := by
  have e : decide (nI k < x) = decide (nI (k + 1) ≤ x) := decide_eq_decide.mpr (by
    rw [Int32.lt_iff_toInt_lt, Int32.le_iff_toInt_le, nI_toInt (by omega), nI_toInt hk]
    omega)
  rw [okR, okN, e]
theorem Rel_dot {X Y : St} (h : Rel X Y) {r o k : Nat} (hr : r < 4) (ho : o < 12) (hk : k < 31) (st v : Int32) : Rel (up3 (up3 (up3 (up3 X 14 0 (r * 31 + k) st) 13 0 (r * 31 + k) v) 15 0 (r * 31 + k) (nI o)) 12 0 r (nI (k + 1))) (up3 (up3 (up3 (up3 Y 14 r k st) 13 r k v) 15 r k (nI o)) 12 0 r (nI (k + 1))) := by
  obtain ⟨u, hu⟩ : ∃ u, u = up3 (up3 (up3 (up3 X 14 0 (r * 31 + k) st) 13 0 (r * 31 + k) v) 15 0 (r * 31 + k) (nI o)) 12 0 r (nI (k + 1)) := ⟨_, rfl⟩
  obtain ⟨w, hw⟩ : ∃ w, w = up3 (up3 (up3 (up3 Y 14 r k st) 13 r k v) 15 r k (nI o)) 12 0 r (nI (k + 1)) := ⟨_, rfl⟩
  rw [← hu, ← hw]
  have hX : ∀ f i j, f < 12 ∨ 15 < f ∨ i ≠ 0 → u f i j = X f i j := fun f i j q => by
    rw [hu, up3_n (by omega), up3_n (by omega), up3_n (by omega), up3_n (by omega)]
  have hY : ∀ f i j, f < 12 ∨ 15 < f → w f i j = Y f i j := fun f i j q => by
    rw [hw, up3_n (by omega), up3_n (by omega), up3_n (by omega), up3_n (by omega)]
  have u12 : ∀ q, u 12 0 q = if q = r then nI (k + 1) else X 12 0 q := fun q => by rw [hu]; simp [up3]
  have w12 : ∀ q, w 12 0 q = if q = r then nI (k + 1) else Y 12 0 q := fun q => by rw [hw]; simp [up3]
  have hc : ∀ p, (p / 31 = r ∧ p % 31 = k) ↔ p = r * 31 + k := fun p => by omega
  have u13 : ∀ p, u 13 0 p = if p = r * 31 + k then v else X 13 0 p := fun q => by rw [hu]; simp [up3]
  have w13 : ∀ p, V w 13 0 p = if p = r * 31 + k then v else V Y 13 0 p := fun p => by
    show w 13 (p / 31) (p % 31) = if p = r * 31 + k then v else Y 13 (p / 31) (p % 31)
    rw [hw]; simp [up3, hc]
  have u14 : ∀ p, u 14 0 p = if p = r * 31 + k then st else X 14 0 p := fun q => by rw [hu]; simp [up3]
  have w14 : ∀ p, V w 14 0 p = if p = r * 31 + k then st else V Y 14 0 p := fun p => by
    show w 14 (p / 31) (p % 31) = if p = r * 31 + k then st else Y 14 (p / 31) (p % 31)
    rw [hw]; simp [up3, hc]
  have u15 : ∀ p, u 15 0 p = if p = r * 31 + k then nI o else X 15 0 p := fun q => by rw [hu]; simp [up3]
  have w15 : ∀ p, V w 15 0 p = if p = r * 31 + k then nI o else V Y 15 0 p := fun p => by
    show w 15 (p / 31) (p % 31) = if p = r * 31 + k then nI o else Y 15 (p / 31) (p % 31)
    rw [hw]; simp [up3, hc]
  have ew : wt (V w) = wt (V Y) := wt_V (hY _ _ _ (by decide))
  have hw6 := h.w6
  refine Rel_step h (fun f i j q => hX f i j ?_) (fun f i j q => hY f i j ?_) ?_ ?_ (SH_e (fun f i j q => hX f i j (by omega)) (fun f i j q => hY f i j (by omega)) h.sh) (PM_e (fun j _ => hX 6 0 j (by decide)) h.pm)
  · unfold F1 at q; omega
  · unfold FM at q; omega
  · refine NW_m h.now h.pm h.w6 (fun f i j q => hX f i j ?_) (fun f i j q => hY f i j ?_) (fun s hs => rowX_e (h.row hs) (fun f j hf => hX f s j (by omega)) (fun f j hf => hY f s j (by omega))) (fun q hq => ?_) (fun p hp => ?_) (fun z hz => ?_) (fun p hp => ?_)
    · unfold MC at q; omega
    · unfold MD at q; omega
    · rw [u12, w12, h.now.mad hq]; rfl
    · obtain ⟨a, b, c⟩ := h.now.dot hp
      rw [u13, u14, u15, w13, w14, w15, a, b, c]
      exact ⟨rfl, rfl, rfl⟩
    · rw [hX 16 0 z (by decide), hY 16 0 z (by decide)]; exact h.now.knd hz
    · rw [hX 17 0 p (by decide), show V w 17 0 p = V Y 17 0 p from hY 17 _ _ (by decide)]; exact h.now.kno hp
  · refine ⟨fun q hq => ?_, okK_e (I := V Y) (u := V w) (fun q => hY 16 0 q (by decide)) h.ok.K, okT_e (I := V Y) (u := V w) (hY 0 0 8 (by decide)) h.ok.T, fun j hj => ?_, fun p hp => ?_, fun s hs => ?_, fun j hj => ?_⟩
    · have e : V w 12 0 q = if q = r then nI (k + 1) else V Y 12 0 q := w12 q
      rw [mk, e]
      split
      · rw [nI_clamp (by omega)]; exact ⟨rfl, by omega⟩
      · exact h.ok.M q hq
    · rw [ew] at hj
      obtain ⟨a, b, ha, hb, ea, eb⟩ := h.ok.A hj
      exact ⟨a, b, ha, hb, (hY 21 0 j (by decide)).trans ea, (hY 22 0 j (by decide)).trans eb⟩
    · rw [w15]
      split
      · exact ⟨o, ho, rfl⟩
      · exact h.ok.O hp
    · exact sub_e (A := V w) (B := V Y) (fun j _ => ⟨hY 10 s j (by decide), hY 11 s j (by decide)⟩) (h.ok.S hs)
    · rw [ew] at hj
      exact sub_e (A := V w) (B := V Y) (fun q _ => ⟨hY 10 _ q (by decide), hY 11 _ q (by decide)⟩) (h.ok.L hj)
theorem gsk_e {X Y : St} (h : Rel X Y) {r n : Nat} (hr : r < 4) (hn : n < 4) (g : Int32) : ∀ k, k ≤ 31 → gsk X r n g k = sak Y r n g k
  | 0, _ => rfl
  | k + 1, hk => by
    have e14 : X 14 0 (n * 31 + k) = Y 14 n k := (h.now.dot (show n * 31 + k < 124 by omega)).2.1.trans (V14 (by omega) (by omega)).symm
    rw [gsk, sak, gsk_e h hr hn g k (by omega), tb_sb (by omega), (h.row (show r < 20 by omega) n hn).1, e14]
theorem gsr_e {X Y : St} (h : Rel X Y) {r : Nat} (hr : r < 4) : ∀ n, n ≤ 4 → gsr X r n = sar Y r n
  | 0, _ => rfl
  | n + 1, hn => by
    have hm := h.mk (show n < 4 by omega)
    have hb := (h.okMJ n (by omega)).2
    rw [gsr, sar, gsr_e h hr n (by omega), hm, gsk_e h hr (by omega) _ _ hb]
theorem mg_sm {I : St} {r o : Nat} {v : Int32} : Sm gC I (mg (clr I 33) r o v) := by
  rw [mg]
  split
  · exact mb_sm
  · split
    · exact mb_sm
    · split
      · exact mb_sm
      · exact Sm.clr Sm.rf (by decide) (by decide)
theorem mg_row {I J : St} (h : Rel I J) {r o rm : Nat} (hr : r < 4) (ho : o < 12) (v : Int32) : rowX (mg (clr I 33) r o v) (goA J r rm (nI o) (acF (J 16 0 o)) v) 33 27 := by
  have ek : kd (clr I 33) o = kd J o := by
    rw [← h.kd ho]
    exact kd_e (fun _ => clr_n (by decide) (by decide)) o
  obtain ⟨e16, hk⟩ := h.okKJ o ho
  rw [mg, ek, e16]
  have h6 : kd J o = 0 ∨ kd J o = 1 ∨ kd J o = 2 ∨ kd J o = 3 ∨ kd J o = 4 ∨ kd J o = 5 := by omega
  have a1 : acF (nI 1) = nI 2 := by decide +kernel
  have a3 : acF (nI 3) = nI 1 := by decide +kernel
  have a4 : acF (nI 4) = nI 3 := by decide +kernel
  have a5 : acF (nI 5) = nI 1 := by decide +kernel
  have a0 : acF (nI 0) = nI 0 := by decide +kernel
  have a2 : acF (nI 2) = nI 0 := by decide +kernel
  have z : rowX (clr I 33) (goA J r rm (nI o) (nI 0) v) 33 27 := fun c hc => by
    refine ⟨b_ext (fun i hi32 => ?_), ?_⟩
    · rw [(clr_z hc).1, b_n0, goA_bt hc hi32]
      symm
      rw [List.any_eq_false]
      intro p _
      rw [gopO (by omega), isg_0, Bool.and_false, Bool.false_and]
      decide
    · rw [(clr_z hc).2, goA_11 hc]
  rcases h6 with q | q | q | q | q | q <;> rw [q]
  · rw [if_neg (by decide), if_neg (by decide), if_neg (by decide), a0]; exact z
  · rw [if_pos rfl, a1]; exact mark_row h hr ho (isg_2 v)
  · rw [if_neg (by decide), if_neg (by decide), if_neg (by decide), a2]; exact z
  · rw [if_neg (by decide), if_neg (by decide), if_pos (by decide), a3]; exact mark_row h hr ho (isg_1 v)
  · rw [if_neg (by decide), if_pos rfl, a4]; exact mark_row h hr ho (isg_3 v)
  · rw [if_neg (by decide), if_neg (by decide), if_pos (by decide), a5]; exact mark_row h hr ho (isg_1 v)
theorem add_r {I J : St} (h : Rel I J) {r o rm : Nat} (hr : r < 4) (ho : o < 12) (hk : mk I r < 31) (v : Int32) : Rel (adS I r o v) (adM J r rm o v) := by
  have h0 : Rel (mg (clr I 33) r o v) (goA J r rm (nI o) (acF (J 16 0 o)) v) := Rel_Sm h mg_sm goA_sm
  have row0 := mg_row h (rm := rm) hr ho v
  have mX : mk (mg (clr I 33) r o v) r = mk I r := (mg_sm (I := I) (r := r) (o := o) (v := v)).mk r
  have mJ := h.mk hr
  rw [adS, adM, mkd, mdM, mX, gsr_e h0 hr 4 (by omega), Int32.add_comm (nI 1), ← mJ]
  have z11 : ∀ c, c < 4 → goA J r rm (nI o) (acF (J 16 0 o)) v 11 27 c = nI 0 := fun c hc => goA_11 hc
  generalize mg (clr I 33) r o v = X0 at *
  generalize goA J r rm (nI o) (acF (J 16 0 o)) v = Y0 at *
  have h1 := Rel_dot h0 hr ho hk (sar Y0 r 4 + nI 1) v
  generalize sar Y0 r 4 + nI 1 = st at *
  generalize mk I r = k at *
  obtain ⟨X1, hX1⟩ : ∃ X1, X1 = up3 (up3 (up3 (up3 X0 14 0 (r * 31 + k) st) 13 0 (r * 31 + k) v) 15 0 (r * 31 + k) (nI o)) 12 0 r (nI (k + 1)) := ⟨_, rfl⟩
  obtain ⟨Y1, hY1⟩ : ∃ Y1, Y1 = up3 (up3 (up3 (up3 Y0 14 r k st) 13 r k v) 15 r k (nI o)) 12 0 r (nI (k + 1)) := ⟨_, rfl⟩
  rw [← hX1, ← hY1] at h1 ⊢
  have fX : ∀ f i j, f < 12 → X1 f i j = X0 f i j := fun f i j q => by
    rw [hX1, up3_n (by omega), up3_n (by omega), up3_n (by omega), up3_n (by omega)]
  have fY : ∀ f i j, f < 12 → Y1 f i j = Y0 f i j := fun f i j q => by
    rw [hY1, up3_n (by omega), up3_n (by omega), up3_n (by omega), up3_n (by omega)]
  have row1 : rowX X1 Y1 33 27 := rowX_e row0 (fun f j hf => fX f 33 j (by omega)) (fun f j hf => fY f 27 j (by omega))
  have y11 : ∀ c, c < 4 → Y1 11 27 c = nI 0 := fun c hc => (fY 11 27 c (by decide)).trans (z11 c hc)
  have eX : ∀ f j, f = 10 ∨ f = 11 → up3 (up3 X1 10 33 r (X1 10 33 r ||| b1 k)) 11 33 r (up3 X1 10 33 r (X1 10 33 r ||| b1 k) 11 33 r ||| b1 k) f 33 j = if j = r then X1 f 33 j ||| b1 k else X1 f 33 j := fun f j hf => by
    by_cases e : j = r
    · subst e; rcases hf with rfl | rfl <;> simp [up3]
    · rcases hf with rfl | rfl <;> simp [up3, e]
  have eY : ∀ f j, f = 10 ∨ f = 11 → hv (hv Y1 10 r k) 11 r k f 27 j = if j = r then Y1 f 27 j ||| b1 k else Y1 f 27 j := fun f j hf => by
    by_cases e : j = r
    · subst e; rcases hf with rfl | rfl <;> simp [hv, up3]
    · rcases hf with rfl | rfl <;> simp [hv, up3, e]
  refine Rel_new (Rel_Sm h1 (fun f i j hn => ?_) (fun f i j hn => ?_)) hr (fun j hj => ?_) (fun j hj i hi => ?_)
  · have n1 : ¬ ((f = 10 ∨ f = 11) ∧ i = 33) := fun q => hn (Or.inr ⟨q.1, by omega, by omega⟩)
    rw [up3_n (by omega), up3_n (by omega)]
  · have n1 : ¬ ((f = 10 ∨ f = 11) ∧ i = 27) := fun q => hn ⟨q.1, by omega⟩
    rw [hv, hv, up3_n (by omega), up3_n (by omega)]
  · rw [eX 10 j (Or.inl rfl), eX 11 j (Or.inr rfl), eY 10 j (Or.inl rfl), eY 11 j (Or.inr rfl), (row1 j hj).1, (row1 j hj).2]
    exact ⟨rfl, rfl⟩
  · rw [eY 10 j (Or.inl rfl), eY 11 j (Or.inr rfl), y11 j hj]
    split
    · rw [b_or, b_or, b_n0, Bool.false_or]
      intro q
      rw [q, Bool.or_true]
    · rw [b_n0]
      intro q
      exact absurd q (by decide)
theorem any_or {f g : Nat → Bool} : ∀ l : List Nat, (l.any f || l.any g) = l.any (fun p => f p || g p)
  | [] => rfl
  | p :: l => by
    rw [List.any_cons, List.any_cons, List.any_cons, ← any_or l]
    cases f p <;> cases g p <;> cases l.any f <;> cases l.any g <;> rfl
def ofj (J : St) (rm p : Nat) : Nat → Bool
  | 0 => false
  | n + 1 => ofj J rm p n || decide (J 15 (p / 31) (p % 31) = nI (rm * 4 + n))
theorem rsP_o {I : St} {r rm f i j : Nat} (h20 : f ≠ 20) (h : ¬ ((f = 10 ∨ f = 11) ∧ i = 33)) : ∀ n, rsP I r rm n f i j = I f i j
  | 0 => clr33 h
  | n + 1 => by
    show mb (rsP I r rm n) r (rm * 4 + n) _ _ 33 f i j = _
    rw [mb_o h20 (by omega)]
    exact rsP_o h20 h n
theorem rsP_11 {I : St} {r rm c : Nat} (hc : c < 4) : ∀ n, rsP I r rm n 11 33 c = nI 0
  | 0 => (clr_z hc).2
  | n + 1 => by
    show mb (rsP I r rm n) r (rm * 4 + n) _ _ 33 11 33 c = _
    rw [mb_o (by decide) (by decide)]
    exact rsP_11 hc n
theorem rsP_bt {I J : St} (h : Rel I J) {r rm : Nat} (hr : r < 4) {c i : Nat} (hc : c < 4) (hi32 : i < 32) : ∀ n, bt (rsP I r rm n 10 33 c) i = (als J 4).any (fun p => (sb (J 11 r (p / 31)) (p % 31) && ofj J rm p n) && (decide (p / 31 = c) && decide (p % 31 = i)))
  | 0 => by
    show bt (clr I 33 10 33 c) i = _
    rw [(clr_z hc).1, b_n0]
    symm
    rw [List.any_eq_false]
    intro p _
    rw [ofj, Bool.and_false, Bool.false_and]
    decide
  | n + 1 => by
    show bt (mb (rsP I r rm n) r (rm * 4 + n) (-2147483648) 2147483647 33 10 33 c) i = _
    have e1 : als (rsP I r rm n) 4 = als J 4 := by
      rw [← alsJ h]
      exact als_b (fun r _ => mk_e (fun _ => rsP_o (by decide) (by decide) n) r) 4 (by omega)
    rw [mb_bt hi32, rsP_bt h hr hc hi32 n, e1, any_or]
    refine any_c _ (fun p hp => ?_)
    have hl := als_lt h.okMJ 4 (by omega) p hp
    have e2 : gp (rsP I r rm n) r (rm * 4 + n) p = gp I r (rm * 4 + n) p := by rw [gp, gp, rsP_o (by decide) (show ¬ ((11 = 10 ∨ 11 = 11) ∧ r = 33) by omega), rsP_o (by decide) (by decide)]
    rw [e2, gpJ h hr hl, mkQ, decide_eq_true (i_min _), decide_eq_true (i_max _), ofj]
    cases sb (J 11 r (p / 31)) (p % 31) <;> cases ofj J rm p n <;> cases decide (J 15 (p / 31) (p % 31) = nI (rm * 4 + n)) <;> cases decide (p / 31 = c) <;> cases decide (p % 31 = i) <;> rfl
theorem ofj_4 : ∀ rm, rm < 3 → ∀ x, x < 12 → decide (nI x / nI 4 = nI rm) = ((((false || decide (nI x = nI (rm * 4 + 0))) || decide (nI x = nI (rm * 4 + 1))) || decide (nI x = nI (rm * 4 + 2))) || decide (nI x = nI (rm * 4 + 3))) := by decide +kernel
theorem rs_row {I J : St} (h : Rel I J) {r rm : Nat} (hr : r < 4) (hrm : rm < 3) : rowX (rsP I r rm 4) (goA J r rm (-1) (nI 1) (nI 0)) 33 27 := fun c hc => by
  refine ⟨b_ext (fun i hi32 => ?_), ?_⟩
  · rw [rsP_bt h hr hc hi32, goA_bt hc hi32]
    refine any_c _ (fun p hp => ?_)
    have hl := als_lt h.okMJ 4 (by omega) p hp
    obtain ⟨x, hx, ex⟩ := h.ok.O hl
    have ex2 : J 15 (p / 31) (p % 31) = nI x := ex
    rw [gop, ofO, if_pos (by decide), isg_1, decide_eq_true (i_min _), decide_eq_true (i_max _), ofj, ofj, ofj, ofj, ofj, ex2, ofj_4 rm hrm x hx, Bool.and_true, Bool.and_true]
  · rw [rsP_11 hc, goA_11 hc]
theorem rsP_sm {I : St} {r rm : Nat} : ∀ n, Sm gC I (rsP I r rm n)
  | 0 => Sm.clr Sm.rf (by decide) (by decide)
  | n + 1 => Sm.mb (rsP_sm n) (by decide) (by decide)
theorem reset_a {I J : St} (h : Rel I J) {r rm : Nat} (hr : r < 4) (hrm : rm < 3) : bcs (rsS I r rm 10 33) 4 = goN J r rm (-1) (nI 1) (nI 0) := by
  rw [← goA_cnt h.okMJ]
  exact bcs_c (fun j hj => (jwP_i (by decide) hr 4 (by omega)).trans (rs_row h hr hrm j hj).1)
theorem reset_r {I J : St} (h : Rel I J) {r rm : Nat} (hr : r < 4) (hrm : rm < 3) : Rel (rsS I r rm) (inS (goA J r rm (-1) (nI 1) (nI 0)) r) :=
  Rel_new (Rel_Sm h (rsP_sm 4) goA_sm) hr (rs_row h hr hrm) goA_sub
theorem kind_r {I J : St} (h : Rel I J) {o k : Nat} (ho : o < 12) (hk : k < 6) : Rel (up3 I 16 0 o (nI k)) (up3 J 16 0 o (nI k)) := by
  have hX : ∀ f i j, f ≠ 16 ∨ i ≠ 0 → up3 I 16 0 o (nI k) f i j = I f i j := fun f i j q => up3_n (by omega)
  have hY : ∀ f i j, f ≠ 16 → up3 J 16 0 o (nI k) f i j = J f i j := fun f i j q => up3_n (by omega)
  have ew : wt (V (up3 J 16 0 o (nI k))) = wt (V J) := wt_V (hY _ _ _ (by decide))
  refine Rel_step h (fun f i j q => hX f i j ?_) (fun f i j q => hY f i j ?_) ?_ ?_ (SH_e (fun f i j q => hX f i j (by omega)) (fun f i j q => hY f i j (by omega)) h.sh) (PM_e (fun j _ => hX 6 0 j (by decide)) h.pm)
  · unfold F1 at q; omega
  · unfold FM at q; omega
  · refine NW_m h.now h.pm h.w6 (fun f i j q => hX f i j ?_) (fun f i j q => hY f i j ?_) (fun s hs => rowX_e (h.row hs) (fun f j hf => hX f s j (by omega)) (fun f j hf => hY f s j (by omega))) (fun q hq => ?_) (fun p hp => ?_) (fun z hz => ?_) (fun p hp => ?_)
    · unfold MC at q; omega
    · unfold MD at q; omega
    · rw [hX 12 0 q (by decide), hY 12 0 q (by decide)]; exact h.now.mad hq
    · exact h.now.dot hp
    · have := h.now.knd hz
      have e2 : V J 16 0 z = J 16 0 z := rfl
      rw [e2] at this
      simp only [up3, this]
    · exact h.now.kno hp
  · refine ⟨h.ok.M, okK_up h.okKJ hk, h.ok.T, fun j hj => h.ok.A (j := j) hj, fun p hp => h.ok.O hp, fun s hs => h.ok.S hs, fun j hj => h.ok.L (j := j) hj⟩
/-- told -/
theorem i_aa (a b c d : Int32) : a &&& b &&& c &&& d &&& a = a &&& b &&& c &&& d := b_ext (fun i _ => by simp only [b_and]; cases bt a i <;> cases bt b i <;> cases bt c i <;> cases bt d i <;> rfl)
theorem kno_e {I J : St} (h : Rel I J) {q x : Nat} (hq : q < 16) (hx : x < 4) : I 17 0 (q * 4 + x) = J 17 q x := by
  rw [h.now.kno (show q * 4 + x < 64 by omega)]
  show J 17 ((q * 4 + x) / 4) ((q * 4 + x) % 4) = _
  rw [show (q * 4 + x) / 4 = q by omega, show (q * 4 + x) % 4 = x by omega]
theorem row_e {I J : St} (h : Rel I J) {r x : Nat} (hr : r < 20) (hx : x < 4) : I 10 r x = J 10 r x ∧ I 11 r x = J 11 r x := h.row hr x hx
theorem kb_e {I J : St} (h : Rel I J) {r o x : Nat} (hr : r < 4) (ho : o < 4) (hx : x < 4) : kb I r o x = if o = r then J 10 r x else J 17 (4 * r + o) x := by
  rw [kb, (row_e h (show r < 20 by omega) hx).1, kno_e h (show r * 4 + o < 16 by omega) hx, Nat.mul_comm r 4]
theorem stb_e {I J : St} (h : Rel I J) {r x : Nat} (hr : r < 4) (hx : x < 4) : stb I r x 4 = smb J r x 4 := by
  simp only [stb, smb, kb_e h hr (show 0 < 4 by decide) hx, kb_e h hr (show 1 < 4 by decide) hx, kb_e h hr (show 2 < 4 by decide) hx, kb_e h hr (show 3 < 4 by decide) hx, (row_e h (show r < 20 by omega) hx).1]
  refine b_ext (fun i _ => ?_)
  rcases (by omega : r = 0 ∨ r = 1 ∨ r = 2 ∨ r = 3) with rfl | rfl | rfl | rfl <;> simp [b_and] <;> cases bt (J 10 _ x) i <;> simp
theorem tga_e {I J : St} (h : Rel I J) {r x : Nat} (hr : r < 4) (hx : x < 4) : tga I r x = tgM J r x := by
  rw [tga, tgM, stb_e h hr hx, (row_e h (show r < 20 by omega) hx).1, (row_e h (show r < 20 by omega) hx).2]
theorem n_ne {a b : Nat} (ha : a < 2147483648) (hb : b < 2147483648) (h : a ≠ b) : ¬ nI a = nI b := fun q => h ((nI_eq ha hb).mp q)
theorem told_a {I J : St} (h : Rel I J) {r o : Nat} (hr : r < 4) (ho : o < 4) (w : Int32) : tld I r o w = if (okN (nI 4) w || okR (nI 10) (nI 13) w) = true then tldM J r o (tn w) else -2 := by
  by_cases c1 : okN (nI 4) w = true
  · obtain ⟨n, hn, rfl⟩ := okN_nI (by decide) c1
    rw [c1, Bool.true_or, if_pos rfl, tn_nI (by omega)]
    have e10 := (row_e h (show r < 20 by omega) ho)
    rcases (by omega : n = 0 ∨ n = 1 ∨ n = 2 ∨ n = 3) with rfl | rfl | rfl | rfl
    · rw [tld, if_pos rfl, e10.1]; rfl
    · rw [tld, if_neg (by decide +kernel), if_pos rfl, e10.2]; rfl
    · rw [tld, if_neg (by decide +kernel), if_neg (by decide +kernel), if_pos rfl, stb_e h hr ho]; rfl
    · rw [tld, if_neg (by decide +kernel), if_neg (by decide +kernel), if_neg (by decide +kernel), if_pos rfl, tga_e h hr ho]; rfl
  · have n0 : ∀ k, k < 4 → ¬ w = nI k := fun k hk q => c1 (by rw [q]; exact okN_of (by decide) hk)
    rw [Bool.not_eq_true] at c1
    rw [tld, if_neg (n0 0 (by decide)), if_neg (n0 1 (by decide)), if_neg (n0 2 (by decide)), if_neg (n0 3 (by decide)), c1, Bool.false_or]
    by_cases c2 : okR (nI 10) (nI 13) w = true
    · obtain ⟨n, h1, h2, rfl⟩ := okR_nI (by decide) (by decide) c2
      have e : nI n - nI 10 = nI (n - 10) := pk_sub h1
      rw [if_pos c2, if_neg (nI_nlt h1 (by omega)), e, if_pos (okN_of (by decide) (by omega)), tn_nI (by omega), tn_nI (by omega), kb_e h hr ho (by omega), tldM, if_neg (show ¬ n = 0 by omega), if_neg (show ¬ n = 1 by omega), if_neg (show ¬ n = 2 by omega), if_neg (show ¬ n = 3 by omega)]
    · rw [if_neg c2]
      by_cases c3 : w < nI 10
      · rw [if_pos c3]
      · rw [if_neg c3, if_neg]
        intro c4
        apply c2
        have h0 : ¬ w < 0 := fun q => c3 (by
          rw [Int32.lt_iff_toInt_lt] at q ⊢
          rw [Int32.toInt_zero] at q
          rw [nI_toInt (by decide)]
          omega)
        obtain ⟨n, hn, rfl⟩ := nI_of h0
        have hn2 : n < 2147483648 := hn
        have h10 : 10 ≤ n := Nat.not_lt.mp (fun q => c3 ((nI_ltI hn2 (by decide)).mpr q))
        have e : nI n - nI 10 = nI (n - 10) := pk_sub h10
        rw [e] at c4
        obtain ⟨m, hm, em⟩ := okN_nI (by decide) c4
        have := (nI_eq (by omega) (by omega)).mp em
        exact okR_nN (by decide) (by decide) h10 (by omega)
/-- dot -/
theorem dot_a {I J : St} (h : Rel I J) {r k n : Nat} (hr : r < 4) (hk : k < 31) (hn : n < 3) : dtv I (r * 31 + k) (nI n) = dtM J r k n := by
  have hp : r * 31 + k < 124 := by omega
  obtain ⟨a, b, c⟩ := h.now.dot hp
  have e13 : I 13 0 (r * 31 + k) = J 13 r k := a.trans (V13 (by omega) (by omega)).symm
  have e14 : I 14 0 (r * 31 + k) = J 14 r k := b.trans (V14 (by omega) (by omega)).symm
  have e15 : I 15 0 (r * 31 + k) = J 15 r k := c.trans (by
    show J 15 ((r * 31 + k) / 31) ((r * 31 + k) % 31) = _
    rw [show (r * 31 + k) / 31 = r by omega, show (r * 31 + k) % 31 = k by omega])
  rw [dtv, dtM, e13, e14, e15]
  rcases (by omega : n = 0 ∨ n = 1 ∨ n = 2) with rfl | rfl | rfl
  · rw [if_pos nI_0, if_pos rfl]
  · rw [if_neg (by decide +kernel), if_pos rfl, if_neg (by decide), if_pos rfl]
  · rw [if_neg (by decide +kernel), if_neg (by decide +kernel), if_neg (by decide), if_neg (by decide)]
theorem wdm : (-1000000000002 : Int64) = (-2 : Int32).toInt64 - 1000000000000 := by decide +kernel
