/-! ===== a call of either side, held against each other ===== -/
theorem q_add {I J : St} (h : Rel I J) (r : Int32) (a : Int32) (b : Int32) (v : Int32) {x5 x6 : Int32} {u w9 : St} (h5 : x5 = (if (okN (nI 4) r && (okN (nI 3) a && okN (nI 4) b)) = true then (if mk I (tn r) < 31 then nI (mk I (tn r)) else -4) else -2) ∧ u = (if (okN (nI 4) r && (okN (nI 3) a && okN (nI 4) b) && decide (mk I (tn r) < 31)) = true then adS I (tn r) (tn a * 4 + tn b) v else I)) (h6 : x6 = (if (okN (nI 4) r && (okN (nI 3) a && okN (nI 4) b)) = true then (if mk J (tn r) < 31 then nI (mk J (tn r)) else -4) else -2) ∧ w9 = (if (okN (nI 4) r && (okN (nI 3) a && okN (nI 4) b) && decide (mk J (tn r) < 31)) = true then adM J (tn r) (tn a) (4 * tn a + tn b) v else J)) : x5 = x6 ∧ Rel u w9 := by
  obtain ⟨e5, rfl⟩ := h5
  obtain ⟨e6, rfl⟩ := h6
  by_cases c : (okN (nI 4) r && (okN (nI 3) a && okN (nI 4) b)) = true
  · obtain ⟨c1, c2⟩ := okAnd c
    obtain ⟨c2, c3⟩ := okAnd c2
    have hr := (tn_id (by decide) c1).1
    have ha := (tn_id (by decide) c2).1
    have hb := (tn_id (by decide) c3).1
    have hm := h.mk hr
    rw [if_pos c] at e5 e6
    rw [c, Bool.true_and, Bool.true_and, ← hm]
    refine ⟨by rw [e5, e6, hm], ?_⟩
    by_cases k : mk I (tn r) < 31
    · rw [if_pos (decide_eq_true k), if_pos (decide_eq_true k), show 4 * tn a + tn b = tn a * 4 + tn b by omega]
      exact add_r h hr (by omega) k v
    · rw [decide_eq_false k, if_neg (by decide), if_neg (by decide)]
      exact h
  · rw [if_neg c] at e5 e6
    rw [((Bool.not_eq_true _).mp c), Bool.false_and, Bool.false_and, if_neg (by decide), if_neg (by decide)]
    exact ⟨e5.trans e6.symm, h⟩
theorem q_take {I J : St} (h : Rel I J) (r : Int32) (a : Int32) (b : Int32) (v : Int32) {x5 x6 : Int32} {u w9 : St} (h5 : x5 = (if (okN (nI 4) r && (okN (nI 3) a && okN (nI 4) b)) = true then bcs (tkS I (tn r) (tn a * 4 + tn b) v 10 33) 4 else -2) ∧ u = (if (okN (nI 4) r && (okN (nI 3) a && okN (nI 4) b)) = true then tkS I (tn r) (tn a * 4 + tn b) v else I)) (h6 : x6 = (if (okN (nI 4) r && (okN (nI 3) a && okN (nI 4) b)) = true then goN J (tn r) (tn a) (nI (4 * tn a + tn b)) (nI 2) v else -2) ∧ w9 = (if (okN (nI 4) r && (okN (nI 3) a && okN (nI 4) b)) = true then inS (goA J (tn r) (tn a) (nI (4 * tn a + tn b)) (nI 2) v) (tn r) else J)) : x5 = x6 ∧ Rel u w9 := by
  obtain ⟨e5, rfl⟩ := h5
  obtain ⟨e6, rfl⟩ := h6
  by_cases c : (okN (nI 4) r && (okN (nI 3) a && okN (nI 4) b)) = true
  · obtain ⟨c1, c2⟩ := okAnd c
    obtain ⟨c2, c3⟩ := okAnd c2
    have hr := (tn_id (by decide) c1).1
    have ha := (tn_id (by decide) c2).1
    have hb := (tn_id (by decide) c3).1
    rw [if_pos c] at e5 e6
    rw [if_pos c, if_pos c]
    rw [show 4 * tn a + tn b = tn a * 4 + tn b by omega] at e6 ⊢
    exact ⟨by rw [e5, e6]; exact take_a h hr (by omega) v, take_r h hr (by omega) v⟩
  · rw [if_neg c] at e5 e6
    rw [if_neg c, if_neg c]
    exact ⟨e5.trans e6.symm, h⟩
theorem q_reset {I J : St} (h : Rel I J) (r : Int32) (a : Int32) {x5 x6 : Int32} {u w9 : St} (h5 : x5 = (if (okN (nI 4) r && okN (nI 3) a) = true then bcs (rsS I (tn r) (tn a) 10 33) 4 else -2) ∧ u = (if (okN (nI 4) r && okN (nI 3) a) = true then rsS I (tn r) (tn a) else I)) (h6 : x6 = (if (okN (nI 4) r && (okN (nI 3) a && okN (nI 4) (nI 0))) = true then goN J (tn r) (tn a) (-1) (nI 1) (nI 0) else -2) ∧ w9 = (if (okN (nI 4) r && (okN (nI 3) a && okN (nI 4) (nI 0))) = true then inS (goA J (tn r) (tn a) (-1) (nI 1) (nI 0)) (tn r) else J)) : x5 = x6 ∧ Rel u w9 := by
  obtain ⟨e5, rfl⟩ := h5
  obtain ⟨e6, rfl⟩ := h6
  have z : okN (nI 4) (nI 0) = true := by decide +kernel
  rw [z, Bool.and_true] at e6 ⊢
  by_cases c : (okN (nI 4) r && okN (nI 3) a) = true
  · obtain ⟨c1, c2⟩ := okAnd c
    have hr := (tn_id (by decide) c1).1
    have ha := (tn_id (by decide) c2).1
    rw [if_pos c] at e5 e6
    rw [if_pos c, if_pos c]
    exact ⟨by rw [e5, e6]; exact reset_a h hr ha, reset_r h hr ha⟩
  · rw [if_neg c] at e5 e6
    rw [if_neg c, if_neg c]
    exact ⟨e5.trans e6.symm, h⟩
theorem q_kind {I J : St} (h : Rel I J) (a : Int32) (b : Int32) (k : Int32) {x5 x6 : Int32} {u w9 : St} (h5 : x5 = (if ((okN (nI 3) a && okN (nI 4) b) && okN (nI 6) k) = true then I 16 0 (tn a * 4 + tn b) else -2) ∧ u = (if ((okN (nI 3) a && okN (nI 4) b) && okN (nI 6) k) = true then up3 I 16 0 (tn a * 4 + tn b) k else I)) (h6 : x6 = (if ((okN (nI 3) a && okN (nI 4) b) && okN (nI 6) k) = true then J 16 0 (4 * tn a + tn b) else -2) ∧ w9 = (if ((okN (nI 3) a && okN (nI 4) b) && okN (nI 6) k) = true then up3 J 16 0 (4 * tn a + tn b) k else J)) : x5 = x6 ∧ Rel u w9 := by
  obtain ⟨e5, rfl⟩ := h5
  obtain ⟨e6, rfl⟩ := h6
  by_cases c : ((okN (nI 3) a && okN (nI 4) b) && okN (nI 6) k) = true
  · obtain ⟨c1, c3⟩ := okAnd c
    obtain ⟨c1, c2⟩ := okAnd c1
    have ha := (tn_id (by decide) c1).1
    have hb := (tn_id (by decide) c2).1
    obtain ⟨hk, ek⟩ := tn_id (by decide) c3
    rw [if_pos c] at e5 e6
    rw [if_pos c, if_pos c]
    rw [show 4 * tn a + tn b = tn a * 4 + tn b by omega] at e6 ⊢
    refine ⟨by rw [e5, e6]; exact h.now.knd (by omega), ?_⟩
    rw [ek]
    exact kind_r h (by omega) hk
  · rw [if_neg c] at e5 e6
    rw [if_neg c, if_neg c]
    exact ⟨e5.trans e6.symm, h⟩
theorem q_taken {I J : St} (h : Rel I J) (a : Int32) (b : Int32) (k : Int32) {x5 x6 : Int32} {u w9 : St} (h5 : x5 = (if ((okN (nI 3) a && okN (nI 4) b) && okN (nI 6) k) = true then (if iu (kd I (tn a * 4 + tn b)) (tn k) = true then nI (kd I (tn a * 4 + tn b)) else -13) else -2) ∧ u = I) (h6 : x6 = (if ((okN (nI 3) a && okN (nI 4) b) && okN (nI 6) k) = true then (if iu (kd J (4 * tn a + tn b)) (tn k) = true then nI (kd J (4 * tn a + tn b)) else -13) else -2) ∧ w9 = J) : x5 = x6 ∧ Rel u w9 := by
  obtain ⟨e5, rfl⟩ := h5
  obtain ⟨e6, rfl⟩ := h6
  refine ⟨?_, h⟩
  by_cases c : ((okN (nI 3) a && okN (nI 4) b) && okN (nI 6) k) = true
  · obtain ⟨c1, c3⟩ := okAnd c
    obtain ⟨c1, c2⟩ := okAnd c1
    have ha := (tn_id (by decide) c1).1
    have hb := (tn_id (by decide) c2).1
    obtain ⟨hk, ek⟩ := tn_id (by decide) c3
    rw [if_pos c] at e5 e6
    rw [show 4 * tn a + tn b = tn a * 4 + tn b by omega] at e6
    rw [e5, e6, h.kd (show tn a * 4 + tn b < 12 by omega)]
  · rw [if_neg c] at e5 e6
    exact e5.trans e6.symm
theorem q_worth {I J : St} (h : Rel I J) (r : Int32) (a : Int32) (b : Int32) {x5 x6 : Int64} {u w9 : St} (h5 : x5 = (if (okN (nI 4) r && (okN (nI 3) a && okN (nI 4) b)) = true then wth I (tn r) (tn a * 4 + tn b) (kd I (tn a * 4 + tn b)) else -1000000000002) ∧ Sm gC I u) (h6 : x6 = (if (okN (nI 4) r && (okN (nI 3) a && okN (nI 4) b)) = true then wth (V J) (tn r) (4 * tn a + tn b) (kd J (4 * tn a + tn b)) else (-2 : Int32).toInt64 - 1000000000000) ∧ w9 = J) : x5 = x6 ∧ Rel u w9 := by
  obtain ⟨e5, s5⟩ := h5
  obtain ⟨e6, rfl⟩ := h6
  refine ⟨?_, Rel_Sm h s5 Sm.ms⟩
  by_cases c : (okN (nI 4) r && (okN (nI 3) a && okN (nI 4) b)) = true
  · obtain ⟨c1, c2⟩ := okAnd c
    obtain ⟨c2, c3⟩ := okAnd c2
    have hr := (tn_id (by decide) c1).1
    have ha := (tn_id (by decide) c2).1
    have hb := (tn_id (by decide) c3).1
    rw [if_pos c] at e5 e6
    rw [show 4 * tn a + tn b = tn a * 4 + tn b by omega] at e6
    rw [e5, e6, h.kd (show tn a * 4 + tn b < 12 by omega)]
    exact h.wth hr _ _
  · rw [if_neg c] at e5 e6
    rw [e5, e6]; exact wdm
theorem q_told {I J : St} (h : Rel I J) (r : Int32) (o : Int32) (w : Int32) {x5 x6 : Int32} {u w9 : St} (h5 : x5 = (if (okN (nI 4) r && okN (nI 4) o) = true then tld I (tn r) (tn o) w else -2) ∧ u = I) (h6 : x6 = (if ((okN (nI 4) r && okN (nI 4) o) && (okN (nI 4) w || okR (nI 10) (nI 13) w)) = true then tldM J (tn r) (tn o) (tn w) else -2) ∧ w9 = J) : x5 = x6 ∧ Rel u w9 := by
  obtain ⟨e5, rfl⟩ := h5
  obtain ⟨e6, rfl⟩ := h6
  refine ⟨?_, h⟩
  by_cases c : (okN (nI 4) r && okN (nI 4) o) = true
  · obtain ⟨c1, c2⟩ := okAnd c
    have hr := (tn_id (by decide) c1).1
    have ho := (tn_id (by decide) c2).1
    rw [if_pos c] at e5
    rw [c, Bool.true_and] at e6
    rw [e5, e6]; exact told_a h hr ho w
  · rw [if_neg c] at e5
    rw [((Bool.not_eq_true _).mp c), Bool.false_and, if_neg (by decide)] at e6
    exact e5.trans e6.symm
theorem q_dot {I J : St} (h : Rel I J) (r : Int32) (k : Int32) (w : Int32) {x5 x6 : Int32} {u w9 : St} (h5 : x5 = (if okR 0 (nI 2) w = true then (if (okN (nI 4) r && okN (nI (mk I (tn r))) k) = true then dtv I (tn r * 31 + tn k) w else -12) else -2) ∧ u = I) (h6 : x6 = (if okN (nI 3) w = true then (if (okN (nI 4) r && okN (nI (mk J (tn r))) k) = true then dtM J (tn r) (tn k) (tn w) else -12) else -2) ∧ w9 = J) : x5 = x6 ∧ Rel u w9 := by
  obtain ⟨e5, rfl⟩ := h5
  obtain ⟨e6, rfl⟩ := h6
  refine ⟨?_, h⟩
  rw [okR0 (by decide)] at e5
  by_cases c : okN (nI 3) w = true
  · obtain ⟨hw, ew⟩ := tn_id (by decide) c
    rw [if_pos c] at e5 e6
    by_cases c1 : okN (nI 4) r = true
    · have hr := (tn_id (by decide) c1).1
      rw [h.mk hr] at e5
      by_cases c2 : okN (nI (mk w9 (tn r))) k = true
      · have hm := (h.okMJ _ hr).2
        have hk := (tn_id (by omega) c2).1
        rw [c1, c2, Bool.true_and, if_pos rfl] at e5 e6
        rw [e5, e6, ew]
        rw [tn_nI (by omega)]
        exact dot_a h hr (by omega) hw
      · rw [((Bool.not_eq_true _).mp c2), Bool.and_false, if_neg (by decide)] at e5 e6
        exact e5.trans e6.symm
    · rw [((Bool.not_eq_true _).mp c1), Bool.false_and, if_neg (by decide)] at e5 e6
      exact e5.trans e6.symm
  · rw [if_neg c] at e5 e6
    exact e5.trans e6.symm
theorem q_has {I J : St} (h : Rel I J) (r : Int32) (a : Int32) (b : Int32) (v : Int32) {x5 x6 : Int32} {u w9 : St} (h5 : x5 = (if (okN (nI 4) r && (okN (nI 3) a && okN (nI 4) b)) = true then bcs (hsS I (tn r) (tn a * 4 + tn b) v 10 33) 4 else -2) ∧ Sm gC I u) (h6 : x6 = (if (okN (nI 4) r && (okN (nI 3) a && okN (nI 4) b)) = true then goN J (tn r) (tn a) (nI (4 * tn a + tn b)) (nI 2) v else -2) ∧ w9 = (if (okN (nI 4) r && (okN (nI 3) a && okN (nI 4) b)) = true then goA J (tn r) (tn a) (nI (4 * tn a + tn b)) (nI 2) v else J)) : x5 = x6 ∧ Rel u w9 := by
  obtain ⟨e5, s5⟩ := h5
  obtain ⟨e6, rfl⟩ := h6
  by_cases c : (okN (nI 4) r && (okN (nI 3) a && okN (nI 4) b)) = true
  · obtain ⟨c1, c2⟩ := okAnd c
    obtain ⟨c2, c3⟩ := okAnd c2
    have hr := (tn_id (by decide) c1).1
    have ha := (tn_id (by decide) c2).1
    have hb := (tn_id (by decide) c3).1
    rw [if_pos c] at e5 e6
    rw [if_pos c]
    refine ⟨?_, Rel_Sm h s5 goA_sm⟩
    rw [show 4 * tn a + tn b = tn a * 4 + tn b by omega] at e6
    rw [e5, e6]; exact has_a h hr (by omega) v
  · rw [if_neg c] at e5 e6
    rw [if_neg c]
    exact ⟨e5.trans e6.symm, Rel_Sm h s5 Sm.ms⟩
theorem q_send {I J : St} (h : Rel I J) (r : Int32) (o : Int32) (w : Int32) {x5 x6 : Int32} {u w9 : St} (h5 : x5 = (if ((okN (nI 4) r && okN (nI 4) o) && (!decide (tn r = tn o) && okR 0 (nI 1) w)) = true then (if wt I < 6 then nI (wt I) else -4) else -2) ∧ u = (if ((okN (nI 4) r && okN (nI 4) o) && (!decide (tn r = tn o) && okR 0 (nI 1) w) && decide (wt I < 6)) = true then snS I (tn r) (tn o) (tn w) else I)) (h6 : x6 = (if ((okN (nI 4) r && okN (nI 4) o) && (!decide (tn r = tn o) && okN (nI 2) w)) = true then (if wt (V J) < 6 then nI (wt (V J)) else -4) else -2) ∧ w9 = (if ((okN (nI 4) r && okN (nI 4) o) && (!decide (tn r = tn o) && okN (nI 2) w) && decide (wt (V J) < 6)) = true then snM J (tn r) (tn o) (tn w) else J)) : x5 = x6 ∧ Rel u w9 := by
  obtain ⟨e5, rfl⟩ := h5
  obtain ⟨e6, rfl⟩ := h6
  rw [okR0 (by decide)] at e5 ⊢
  have ew := h.wt
  by_cases c : ((okN (nI 4) r && okN (nI 4) o) && (!decide (tn r = tn o) && okN (nI 2) w)) = true
  · obtain ⟨c1, c2⟩ := okAnd c
    obtain ⟨c1, c3⟩ := okAnd c1
    have hr := (tn_id (by decide) c1).1
    have ho := (tn_id (by decide) c3).1
    rw [if_pos c] at e5 e6
    rw [c, Bool.true_and, Bool.true_and, ← ew]
    refine ⟨by rw [e5, e6, ew], ?_⟩
    by_cases k : wt I < 6
    · rw [if_pos (decide_eq_true k), if_pos (decide_eq_true k)]
      exact send_r h hr ho k
    · rw [decide_eq_false k, if_neg (by decide), if_neg (by decide)]
      exact h
  · rw [if_neg c] at e5 e6
    rw [((Bool.not_eq_true _).mp c), Bool.false_and, Bool.false_and, if_neg (by decide), if_neg (by decide)]
    exact ⟨e5.trans e6.symm, h⟩
theorem q_come {I J : St} (h : Rel I J) (m0 : Int32) {x5 x6 : Int32} {u w9 : St} (h5 : x5 = (if okN (nI (wt I)) m0 = true then bcs (cmS I (tn m0) (I 6 0 (tn m0)).toNatClampNeg 10 (mto I (I 6 0 (tn m0)).toNatClampNeg)) 4 - bcs (I 10 (mto I (I 6 0 (tn m0)).toNatClampNeg)) 4 else -2) ∧ u = (if okN (nI (wt I)) m0 = true then cmS I (tn m0) (I 6 0 (tn m0)).toNatClampNeg else I)) (h6 : x6 = (if (okN (nI (wt (V J))) m0) = true then bcs (cmM J (tn m0) 10 (mtoM J (tn m0))) 4 - bcs (J 10 (mtoM J (tn m0))) 4 else -2) ∧ w9 = (if (okN (nI (wt (V J))) m0) = true then cmM J (tn m0) else J)) : x5 = x6 ∧ Rel u w9 := by
  obtain ⟨e5, rfl⟩ := h5
  obtain ⟨e6, rfl⟩ := h6
  have ew := h.wt
  have hw6 := h.w6
  by_cases c : okN (nI (wt I)) m0 = true
  · obtain ⟨hm, em⟩ := tn_id (by omega) c
    have c' := c
    rw [ew] at c'
    rw [if_pos c] at e5
    rw [if_pos c'] at e6
    rw [if_pos c, if_pos c']
    exact ⟨by rw [e5, e6]; exact come_a h hm, come_r h hm⟩
  · rw [if_neg c] at e5
    rw [ew] at c
    rw [if_neg c] at e6
    rw [← ew] at c
    rw [if_neg c]
    rw [ew] at c
    rw [if_neg c]
    exact ⟨e5.trans e6.symm, h⟩
theorem q_lose {I J : St} (h : Rel I J) (m0 : Int32) {x5 x6 : Int32} {u w9 : St} (h5 : x5 = (if okN (nI (wt I)) m0 = true then nI 1 else -2) ∧ u = (if okN (nI (wt I)) m0 = true then dr I (tn m0) else I)) (h6 : x6 = (if (okN (nI (wt (V J))) m0) = true then nI 1 else -2) ∧ w9 = (if (okN (nI (wt (V J))) m0) = true then gaS J (tn m0) else J)) : x5 = x6 ∧ Rel u w9 := by
  obtain ⟨e5, rfl⟩ := h5
  obtain ⟨e6, rfl⟩ := h6
  have ew := h.wt
  have hw6 := h.w6
  by_cases c : okN (nI (wt I)) m0 = true
  · obtain ⟨hm, em⟩ := tn_id (by omega) c
    have c' := c
    rw [ew] at c'
    rw [if_pos c] at e5
    rw [if_pos c'] at e6
    rw [if_pos c, if_pos c']
    exact ⟨e5.trans e6.symm, lose_r h hm⟩
  · rw [if_neg c] at e5
    rw [ew] at c
    rw [if_neg c] at e6
    rw [← ew] at c
    rw [if_neg c]
    rw [ew] at c
    rw [if_neg c]
    exact ⟨e5.trans e6.symm, h⟩
theorem q_twice {I J : St} (h : Rel I J) (m0 : Int32) {x5 x6 : Int32} {u w9 : St} (h5 : x5 = (if okN (nI (wt I)) m0 = true then (if wt I < 6 then nI (wt I) else -4) else -2) ∧ u = (if (okN (nI (wt I)) m0 && decide (wt I < 6)) = true then twS I (I 6 0 (tn m0)).toNatClampNeg else I)) (h6 : x6 = (if (okN (nI (wt (V J))) m0) = true then (if wt (V J) < 6 then nI (wt (V J)) else -4) else -2) ∧ w9 = (if (okN (nI (wt (V J))) m0 && decide (wt (V J) < 6)) = true then twM J (tn m0) else J)) : x5 = x6 ∧ Rel u w9 := by
  obtain ⟨e5, rfl⟩ := h5
  obtain ⟨e6, rfl⟩ := h6
  have ew := h.wt
  have hw6 := h.w6
  by_cases c : okN (nI (wt I)) m0 = true
  · obtain ⟨hm, em⟩ := tn_id (by omega) c
    have c' := c
    rw [ew] at c'
    rw [if_pos c] at e5
    rw [if_pos c'] at e6
    rw [c, c', Bool.true_and, Bool.true_and, ← ew]
    refine ⟨by rw [e5, e6, ew], ?_⟩
    by_cases k : wt I < 6
    · rw [if_pos (decide_eq_true k), if_pos (decide_eq_true k)]
      exact twice_r h hm k
    · rw [decide_eq_false k, if_neg (by decide), if_neg (by decide)]
      exact h
  · rw [if_neg c] at e5
    have c' := c
    rw [ew] at c'
    rw [if_neg c'] at e6
    rw [((Bool.not_eq_true _).mp c), ((Bool.not_eq_true _).mp c'), Bool.false_and, Bool.false_and, if_neg (by decide), if_neg (by decide)]
    exact ⟨e5.trans e6.symm, h⟩
theorem q_letter {I J : St} (h : Rel I J) (m0 : Int32) (w : Int32) {x5 x6 : Int32} {u w9 : St} (h5 : x5 = (if okN (nI (wt I)) m0 = true then lte I (I 6 0 (tn m0)).toNatClampNeg w else -2) ∧ u = I) (h6 : x6 = (if (okN (nI (wt (V J))) m0 && okN (nI 4) w) = true then ltM J (tn m0) (tn w) else -2) ∧ w9 = J) : x5 = x6 ∧ Rel u w9 := by
  obtain ⟨e5, rfl⟩ := h5
  obtain ⟨e6, rfl⟩ := h6
  refine ⟨?_, h⟩
  have ew := h.wt
  have hw6 := h.w6
  by_cases c : okN (nI (wt u)) m0 = true
  · obtain ⟨hm, em⟩ := tn_id (by omega) c
    have c' := c
    rw [ew] at c'
    rw [if_pos c] at e5
    rw [c', Bool.true_and] at e6
    rw [e5, e6]; exact letter_a h hm w
  · rw [if_neg c] at e5
    have c' := c
    rw [ew] at c'
    rw [((Bool.not_eq_true _).mp c'), Bool.false_and, if_neg (by decide)] at e6
    exact e5.trans e6.symm
theorem q_met {I J : St} (h : Rel I J) (a : Int32) (b : Int32) {x5 x6 : Int64} {u w9 : St} (h5 : x5 = (if (okN (nI 3) a && okN (nI 4) b) = true then wth (mtP I 0 4) 32 (tn a * 4 + tn b) (kd I (tn a * 4 + tn b)) else -1000000000002) ∧ Sm gC I u) (h6 : x6 = (if (okN (nI 3) a && okN (nI 4) b) = true then wth (V (mtM J 3)) 26 (4 * tn a + tn b) (kd (mtM J 3) (4 * tn a + tn b)) else (-2 : Int32).toInt64 - 1000000000000) ∧ w9 = (if (okN (nI 3) a && okN (nI 4) b) = true then mtM J 3 else J)) : x5 = x6 ∧ Rel u w9 := by
  obtain ⟨e5, s5⟩ := h5
  obtain ⟨e6, rfl⟩ := h6
  by_cases c : (okN (nI 3) a && okN (nI 4) b) = true
  · obtain ⟨c2, c3⟩ := okAnd c
    have ha := (tn_id (by decide) c2).1
    have hb := (tn_id (by decide) c3).1
    rw [if_pos c] at e5 e6
    rw [if_pos c]
    refine ⟨?_, Rel_Sm h s5 (sq_mt Sm.ms 3)⟩
    rw [show 4 * tn a + tn b = tn a * 4 + tn b by omega, sq_kd (sq_mt (Sm.ms (I := J)) 3)] at e6
    rw [e5, e6, h.kd (show tn a * 4 + tn b < 12 by omega)]
    exact met_a h _ _
  · rw [if_neg c] at e5 e6
    rw [if_neg c]
    exact ⟨by rw [e5, e6]; exact wdm, Rel_Sm h s5 Sm.ms⟩
theorem q_apart {I J : St} (h : Rel I J) (r : Int32) (o : Int32) (w : Int32) {x5 x6 : Int32} {u w9 : St} (h5 : x5 = (if (okN (nI 4) r && okN (nI 4) o) = true then apt I (tn r) (tn o) w else -2) ∧ Sm gC I u) (h6 : x6 = (if ((okN (nI 4) r && okN (nI 4) o) && okN (nI 4) w) = true then aptM J (tn r) (tn o) (tn w) else -2) ∧ Sm gM J w9) : x5 = x6 ∧ Rel u w9 := by
  obtain ⟨e5, s5⟩ := h5
  obtain ⟨e6, s6⟩ := h6
  refine ⟨?_, Rel_Sm h s5 s6⟩
  by_cases c : (okN (nI 4) r && okN (nI 4) o) = true
  · obtain ⟨c1, c2⟩ := okAnd c
    have hr := (tn_id (by decide) c1).1
    have ho := (tn_id (by decide) c2).1
    rw [if_pos c] at e5
    rw [c, Bool.true_and] at e6
    rw [e5, e6]; exact apart_a h hr ho w
  · rw [if_neg c] at e5
    rw [((Bool.not_eq_true _).mp c), Bool.false_and, if_neg (by decide)] at e6
    exact e5.trans e6.symm
theorem q_needs {I J : St} (h : Rel I J) (r : Int32) (a : Int32) (b : Int32) (w : Int64) (y : Int32) {x5 x6 : Int32} {u w9 : St} (h5 : x5 = (if ((okN (nI 4) r && (okN (nI 3) a && okN (nI 4) b)) && okR 0 (nI 1) y) = true then ndv (ftb I (tn r) (tn a * 4 + tn b) w (mtoP I (tn r) (wt I)) 64) y else -2) ∧ Sm gC I u) (h6 : x6 = (if ((okN (nI 4) r && (okN (nI 3) a && okN (nI 4) b)) && okN (nI 2) y) = true then ndM (ftM J (tn r) (4 * tn a + tn b) w (mnM J (tn r) (wt (V J))) (2 ^ wt (V J))) (tn y) else -2) ∧ Sm gM J w9) : x5 = x6 ∧ Rel u w9 := by
  obtain ⟨e5, s5⟩ := h5
  obtain ⟨e6, s6⟩ := h6
  refine ⟨?_, Rel_Sm h s5 s6⟩
  rw [okR0 (by decide)] at e5
  by_cases c : ((okN (nI 4) r && (okN (nI 3) a && okN (nI 4) b)) && okN (nI 2) y) = true
  · obtain ⟨c1, c4⟩ := okAnd c
    obtain ⟨c1, c2⟩ := okAnd c1
    obtain ⟨c2, c3⟩ := okAnd c2
    have hr := (tn_id (by decide) c1).1
    have ha := (tn_id (by decide) c2).1
    have hb := (tn_id (by decide) c3).1
    obtain ⟨hy, ey⟩ := tn_id (by decide) c4
    rw [if_pos c] at e5 e6
    rw [show 4 * tn a + tn b = tn a * 4 + tn b by omega] at e6
    have k := needs_a h hr (show tn a * 4 + tn b < 12 by omega) w hy
    rw [← ey] at k
    rw [e5, e6]; exact k
  · rw [if_neg c] at e5 e6
    exact e5.trans e6.symm
theorem q_drawn {I J : St} (h : Rel I J) (z : Int32) (d : Int32) {x5 x6 : Int32} {u w9 : St} (h5 : x5 = (if okR 0 (nI 20) d = true then nI (cntS (dwP I z (tn d)) 35 4) else -2) ∧ Sm gC I u) (h6 : x6 = (if okN (nI 21) d = true then nI (lotM J z (tn d)) else -2) ∧ Sm gM J w9) : x5 = x6 ∧ Rel u w9 := by
  obtain ⟨e5, s5⟩ := h5
  obtain ⟨e6, s6⟩ := h6
  refine ⟨?_, Rel_Sm h s5 s6⟩
  rw [okR0 (by decide)] at e5
  by_cases c : okN (nI 21) d = true
  · rw [if_pos c] at e5 e6
    rw [e5, e6, drawn_a h]
  · rw [if_neg c] at e5 e6
    exact e5.trans e6.symm
theorem q_chance {I J : St} (h : Rel I J) (z : Int32) (m0 : Int32) (y : Int32) {x5 x6 : Int32} {u w9 : St} (h5 : x5 = (if (okR (nI 1) (nI 8) m0 && okR 0 (nI 1) y) = true then chv I z (tn m0) (tn y) else -2) ∧ Sm gC I u) (h6 : x6 = (if (okR (nI 1) (nI 8) m0 && okN (nI 2) y) = true then cvM J z (tn m0) (tn y) else -2) ∧ Sm gM J w9) : x5 = x6 ∧ Rel u w9 := by
  obtain ⟨e5, s5⟩ := h5
  obtain ⟨e6, s6⟩ := h6
  refine ⟨?_, Rel_Sm h s5 s6⟩
  rw [okR0 (by decide)] at e5
  by_cases c : (okR (nI 1) (nI 8) m0 && okN (nI 2) y) = true
  · obtain ⟨c1, c2⟩ := okAnd c
    obtain ⟨n, h1, h8, en⟩ := okR_nI (by decide) (by decide) c1
    have e : tn m0 = n := by rw [en, tn_nI (by omega)]
    rw [if_pos c] at e5 e6
    rw [e5, e6, e]; exact chance_a h z h1 h8 _
  · rw [if_neg c] at e5 e6
    exact e5.trans e6.symm
theorem q_tells {I J : St} (h : Rel I J) (k : Int32) (r : Int32) (a : Int32) (w : Int32) {x5 x6 : Int32} {u w9 : St} (h5 : x5 = (if ((okN (nI 4) k && okN (nI 4) r) && (okN (nI 3) a && okR 0 (nI 3) w)) = true then (if I 7 (tn k) 0 = -1 then -11 else tls I (tn k) (tn r) (tn a) (tn w)) else -2) ∧ Sm gC I u) (h6 : x6 = (if (((okN (nI 4) k && okN (nI 4) r) && (okN (nI 3) a && okN (nI 4) (nI 0))) && okN (nI 4) w) = true then (if J 23 0 (tn k) < 0 then -11 else tlM J (tn k) (tn r) (tn a) (tn w)) else -2) ∧ Sm gM J w9) : x5 = x6 ∧ Rel u w9 := by
  obtain ⟨e5, s5⟩ := h5
  obtain ⟨e6, s6⟩ := h6
  refine ⟨?_, Rel_Sm h s5 s6⟩
  have z : okN (nI 4) (nI 0) = true := by decide +kernel
  rw [okR0 (by decide)] at e5
  rw [z, Bool.and_true, Bool.and_assoc] at e6
  by_cases c : ((okN (nI 4) k && okN (nI 4) r) && (okN (nI 3) a && okN (nI 4) w)) = true
  · obtain ⟨c1, c3⟩ := okAnd c
    obtain ⟨c1, c2⟩ := okAnd c1
    obtain ⟨c3, c4⟩ := okAnd c3
    have hk := (tn_id (by decide) c1).1
    have hr := (tn_id (by decide) c2).1
    have ha := (tn_id (by decide) c3).1
    rw [if_pos c] at e5 e6
    obtain ⟨x1, x2, x3, x4, x5'⟩ := h.sh _ hk
    have es := so_lt x4
    rw [x1] at e5
    by_cases q : J 23 0 (tn k) = -1
    · rw [if_pos q] at e5
      rw [if_pos (es.mpr q)] at e6
      exact e5.trans e6.symm
    · rw [if_neg q] at e5
      rw [if_neg (fun z => q (es.mp z))] at e6
      rw [e5, e6]; exact tells_a h hk hr ha _
  · rw [if_neg c] at e5 e6
    exact e5.trans e6.symm
theorem q_film {I J : St} (h : Rel I J) (k : Int32) (r : Int32) (a : Int32) (n0 : Int32) {x5 x6 : Int32} {u w9 : St} (h5 : x5 = (if ((okN (nI 4) k && okN (nI 4) r) && (okN (nI 3) a && okR 0 (nI 4) n0)) = true then n0 else -2) ∧ u = (if ((okN (nI 4) k && okN (nI 4) r) && (okN (nI 3) a && okR 0 (nI 4) n0)) = true then flP I (tn k) (tn r) (tn a) (tn n0) (tn n0) else I)) (h6 : x6 = (if (((okN (nI 4) k && okN (nI 4) r) && (okN (nI 3) a && okN (nI 4) (nI 0))) && okN (nI 5) n0) = true then n0 else -2) ∧ w9 = (if (((okN (nI 4) k && okN (nI 4) r) && (okN (nI 3) a && okN (nI 4) (nI 0))) && okN (nI 5) n0) = true then flM J (tn k) (tn r) (tn a) (tn n0) (tn n0) else J)) : x5 = x6 ∧ Rel u w9 := by
  obtain ⟨e5, rfl⟩ := h5
  obtain ⟨e6, rfl⟩ := h6
  have z : okN (nI 4) (nI 0) = true := by decide +kernel
  rw [okR0 (by decide)] at e5 ⊢
  have as : (((okN (nI 4) k && okN (nI 4) r) && okN (nI 3) a) && okN (nI 5) n0) = ((okN (nI 4) k && okN (nI 4) r) && (okN (nI 3) a && okN (nI 5) n0)) := Bool.and_assoc _ _ _
  rw [z, Bool.and_true, as] at e6 ⊢
  by_cases c : ((okN (nI 4) k && okN (nI 4) r) && (okN (nI 3) a && okN (nI 5) n0)) = true
  · obtain ⟨c1, c3⟩ := okAnd c
    obtain ⟨c1, c2⟩ := okAnd c1
    obtain ⟨c3, c4⟩ := okAnd c3
    have hr := (tn_id (by decide) c2).1
    have ha := (tn_id (by decide) c3).1
    have hn := (tn_id (by decide) c4).1
    rw [if_pos c] at e5 e6
    rw [if_pos c, if_pos c]
    exact ⟨e5.trans e6.symm, film_r h hr ha (by omega)⟩
  · rw [if_neg c] at e5 e6
    rw [if_neg c, if_neg c]
    exact ⟨e5.trans e6.symm, h⟩
theorem q_image {I J : St} (h : Rel I J)  {x5 x6 : Int32} {u w9 : St} (h5 : x5 = I 1 0 6 ∧ u = imS I) (h6 : x6 = J 0 0 8 ∧ w9 = imM J) : x5 = x6 ∧ Rel u w9 := by
  obtain ⟨e5, rfl⟩ := h5
  obtain ⟨e6, rfl⟩ := h6
  exact ⟨by rw [e5, e6]; exact h.now.wts, image_r h⟩
theorem q_back {I J : St} (h : Rel I J)  {x5 x6 : Int32} {u w9 : St} (h5 : x5 = (if I 0 0 2 = 0 then -3 else I 1 1 6) ∧ u = (if I 0 0 2 = 0 then I else bkS I)) (h6 : x6 = (if J 0 0 12 = 0 then -3 else J 0 0 13) ∧ w9 = (if J 0 0 12 = 0 then J else bkM J)) : x5 = x6 ∧ Rel u w9 := by
  obtain ⟨e5, rfl⟩ := h5
  obtain ⟨e6, rfl⟩ := h6
  have ef := h.flag
  by_cases c : I 0 0 2 = 0
  · have c' := c
    rw [ef] at c'
    rw [if_pos c] at e5
    rw [if_pos c'] at e6
    rw [if_pos c, if_pos c']
    exact ⟨e5.trans e6.symm, h⟩
  · have c' := c
    rw [ef] at c'
    rw [if_neg c] at e5
    rw [if_neg c'] at e6
    rw [if_neg c, if_neg c']
    exact ⟨by rw [e5, e6]; exact h.img.wts, back_r h⟩
theorem q_count {I J : St} (h : Rel I J) (w : Int32) {x5 x6 : Int32} {u w9 : St} (h5 : x5 = cnv I w ∧ Sm gC I u) (h6 : x6 = cnM J w ∧ Sm gM J w9) : x5 = x6 ∧ Rel u w9 := by
  obtain ⟨e5, s5⟩ := h5
  obtain ⟨e6, s6⟩ := h6
  exact ⟨by rw [e5, e6]; exact count_a h w, Rel_Sm h s5 s6⟩
theorem q_sheet {I J : St} (h : Rel I J) (k : Int32) (so : Int32) (n0 : Int32) {x5 x6 : Int32} {u w9 : St} (h5 : x5 = (if (okN (nI 4) k && okR (-1) (nI 1) so) = true then (if so = -1 then nI 1 else if nI 40 < n0 then -2 else if n0 < 0 then -14 else nI 1) else -2) ∧ u = (if (okN (nI 4) k && okR (-1) (nI 1) so) = true then shv I (tn k) so n0 else I)) (h6 : x6 = (if (okN (nI 4) k && okR (-1) (nI 1) so) = true then (if (¬ so < 0 ∧ nI 40 < n0) then -2 else if (¬ so < 0 ∧ n0 < 0) then -14 else nI 1) else -2) ∧ w9 = (if (okN (nI 4) k && okR (-1) (nI 1) so) = true then (if (¬ so < 0 ∧ nI 40 < n0) then J else if (¬ so < 0 ∧ n0 < 0) then J else shM J (tn k) so n0) else J)) : x5 = x6 ∧ Rel u w9 := by
  obtain ⟨e5, rfl⟩ := h5
  obtain ⟨e6, rfl⟩ := h6
  by_cases c : (okN (nI 4) k && okR (-1) (nI 1) so) = true
  · obtain ⟨c1, c2⟩ := okAnd c
    rw [if_pos c] at e5 e6
    rw [if_pos c, if_pos c]
    exact ⟨by rw [e5, e6]; exact sheet_a c2, sheet_r h c2⟩
  · rw [if_neg c] at e5 e6
    rw [if_neg c, if_neg c]
    exact ⟨e5.trans e6.symm, h⟩
theorem q_put {I J : St} (h : Rel I J) (k : Int32) (j : Int32) (v : Int32) {x5 x6 : Int32} {u w9 : St} (h5 : x5 = (if rfi I k j = 0 then nI 1 else rfi I k j) ∧ u = (if rfi I k j = 0 then up3 I 19 (tn k) (tn j) (ptv I (tn k) v) else I)) (h6 : x6 = (if rfM J k j = 0 then nI 1 else rfM J k j) ∧ w9 = (if rfM J k j = 0 then up3 J 19 (tn k) (tn j) (ptM J (tn k) v) else J)) : x5 = x6 ∧ Rel u w9 := by
  obtain ⟨e5, rfl⟩ := h5
  obtain ⟨e6, rfl⟩ := h6
  have e := rf_e h k j
  by_cases c : rfi I k j = 0
  · have c' := c
    rw [e] at c'
    rw [if_pos c] at e5
    rw [if_pos c'] at e6
    rw [if_pos c, if_pos c']
    exact ⟨e5.trans e6.symm, put_r h c v⟩
  · have c' := c
    rw [e] at c'
    rw [if_neg c] at e5
    rw [if_neg c'] at e6
    rw [if_neg c, if_neg c']
    exact ⟨by rw [e5, e6]; exact e, h⟩
theorem q_item {I J : St} (h : Rel I J) (k : Int32) (j : Int32) {x5 x6 : Int64} {u w9 : St} (h5 : x5 = (if rfi I k j = 0 then (I 19 (tn k) (tn j)).toInt64 else -1000000000000 + (rfi I k j).toInt64) ∧ u = I) (h6 : x6 = (if rfM J k j = 0 then (J 19 (tn k) (tn j)).toInt64 else (rfM J k j).toInt64 - 1000000000000) ∧ w9 = J) : x5 = x6 ∧ Rel u w9 := by
  obtain ⟨e5, rfl⟩ := h5
  obtain ⟨e6, rfl⟩ := h6
  refine ⟨?_, h⟩
  have e := rf_e h k j
  by_cases c : rfi u k j = 0
  · have c' := c
    rw [e] at c'
    rw [if_pos c] at e5
    rw [if_pos c'] at e6
    rw [e5, e6, item_a h c]
  · have c' := c
    rw [e] at c'
    rw [if_neg c] at e5
    rw [if_neg c'] at e6
    rw [e5, e6, e]; exact item_n _
theorem q_copy {I J : St} (h : Rel I J) (k : Int32) (i : Int32) (o : Int32) (j : Int32) (n0 : Int32) {x5 x6 : Int32} {u w9 : St} (h5 : x5 = (if (okN (nI 4) k && okN (nI 4) o) = true then cpr I (tn k) i (tn o) j n0 else -2) ∧ u = (if (okN (nI 4) k && okN (nI 4) o) = true then cps I (tn k) i (tn o) j n0 else I)) (h6 : x6 = (if (okN (nI 4) k && okN (nI 4) o) = true then cprM J (tn k) i (tn o) j n0 else -2) ∧ w9 = (if (okN (nI 4) k && okN (nI 4) o) = true then cpsM J (tn k) i (tn o) j n0 else J)) : x5 = x6 ∧ Rel u w9 := by
  obtain ⟨e5, rfl⟩ := h5
  obtain ⟨e6, rfl⟩ := h6
  by_cases c : (okN (nI 4) k && okN (nI 4) o) = true
  · obtain ⟨c1, c2⟩ := okAnd c
    have hk := (tn_id (by decide) c1).1
    have ho := (tn_id (by decide) c2).1
    rw [if_pos c] at e5 e6
    rw [if_pos c, if_pos c]
    exact ⟨by rw [e5, e6]; exact copy_a h hk ho i j n0, copy_r h hk ho i j n0⟩
  · rw [if_neg c] at e5 e6
    rw [if_neg c, if_neg c]
    exact ⟨e5.trans e6.symm, h⟩
