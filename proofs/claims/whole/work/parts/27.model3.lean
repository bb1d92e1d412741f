/-! ===== the model, three ===== -/
set_option maxHeartbeats 4000000 in
set_option maxRecDepth 100000 in
theorem c_X6_take (l : Launch) (D : va_G) (G : Nat → ClassId) (ad : Nat → Nat → Nat) (hI : wI LM ad) (J : St) (r a b v : Int32) (hM : okM J) : Met l yX6_take wsX6_take ({ frames := 2, cells := 0, slots := 0, locals := 52 } : Room) (gPre D G LM ad [.ref (ad 0 (0)), .int (r), .int (a), .int (b), .int (v)] (wM G ad J)) (gQi D LM ad (wM G ad) (fun r9 u => r9 = (if (okN (nI 4) r && (okN (nI 3) a && okN (nI 4) b)) = true then goN J (tn r) (tn a) (nI (4 * tn a + tn b)) (nI 2) v else -2) ∧ u = (if (okN (nI 4) r && (okN (nI 3) a && okN (nI 4) b)) = true then inS (goA J (tn r) (tn a) (nI (4 * tn a + tn b)) (nI 2) v) (tn r) else J))) 0 0 (wA LM ad) := by
  refine g_entry (C := RX6) (cc := cX6_take) (maxL := 6) (ret := (some .int)) rfl (by decide) rfl (Nat.le_of_ble_eq_true rfl) (fun p e s m args below meth c Q ls hQ hx hb hr hts hown hlocks hml hW hK hl => ?_)
  have hl : lv_has ls 6 [(0, .ref (ad 0 (0))), (1, .int (r)), (2, .int (a)), (3, .int (b)), (4, .int (v))] := hl
  have hS := va_S.rf (A := wA LM ad) (H0 := s.heap)
  refine lv_iload_n hx hb dX6_take_0 rfl (lv_at hl 1 rfl) ?_
  refine g_pi (va_runS (As := [.int (r)]) (rest := []) ⟨hx, hb, hml, hown, hts⟩ (c_X6_isReplica l r) (va_cwS 1 hts gX6_take_X6_isReplica rfl rfl rfl (by decide +kernel) ⟨Nat.le_of_ble_eq_true rfl, Nat.le_of_ble_eq_true rfl⟩) p_preS rfl rfl hl.1 rfl (lv_room (Nat.le_of_ble_eq_true rfl)) dX6_take_1 ⟨Nat.le_refl _, Nat.le_refl _⟩) hW hS (fun H locs hW hS => ?_)
  refine lv_if_eq (tgt := 15) hx hb dX6_take_4 (by decide) (fun c4_0 => ?_) (fun c4_0 => ?_)
  · replace c4_0 := bI_0.mp c4_0
    try simp only [decide_eq_true_eq, decide_eq_false_iff_not] at c4_0
    refine lv_bipush (v := (-2)) hx hb dX6_take_15 (by decide) ?_
    rw [hQ]
    exact g_iret (wd := wM G ad) hx hb hr rfl hlocks hW hS (by skip; refine ⟨?_, ?_⟩ <;> simp [c4_0]) dX6_take_17
  · replace c4_0 := bI_1.mp c4_0
    obtain ⟨rN, hrN, erN⟩ := okN_nI (k := 4) (by decide) c4_0
    subst erN
    have t_rN : tn (nI rN) = rN := tn_nI (by omega)
    have k_rN : okN (nI 4) (nI rN) = true := okN_of (by decide) hrN
    refine lv_iload_n hx hb dX6_take_7 rfl (lv_at hl 2 rfl) ?_
    refine lv_iload_n hx hb dX6_take_8 rfl (lv_at hl 3 rfl) ?_
    refine g_pi (va_runS (As := [.int (a), .int (b)]) (rest := []) ⟨hx, hb, hml, hown, hts⟩ (c_X6_isObject l a b) (va_cwS 2 hts gX6_take_X6_isObject rfl rfl rfl (by decide +kernel) ⟨Nat.le_of_ble_eq_true rfl, Nat.le_of_ble_eq_true rfl⟩) p_preS rfl rfl hl.1 rfl (lv_room (Nat.le_of_ble_eq_true rfl)) dX6_take_9 ⟨Nat.le_refl _, Nat.le_refl _⟩) hW hS (fun H locs hW hS => ?_)
    refine lv_if_ne (tgt := 18) hx hb dX6_take_12 (by decide) (fun c12_1 => ?_) (fun c12_1 => ?_)
    · replace c12_1 := bI_1.mp c12_1
      obtain ⟨aN, haN, eaN⟩ := okN_nI (k := 3) (by decide) (okAnd c12_1).1
      subst eaN
      have t_aN : tn (nI aN) = aN := tn_nI (by omega)
      have k_aN : okN (nI 3) (nI aN) = true := okN_of (by decide) haN
      obtain ⟨bN, hbN, ebN⟩ := okN_nI (k := 4) (by decide) (okAnd c12_1).2
      subst ebN
      have t_bN : tn (nI bN) = bN := tn_nI (by omega)
      have k_bN : okN (nI 4) (nI bN) = true := okN_of (by decide) hbN
      refine lv_aload_n hx hb dX6_take_18 rfl (lv_at hl 0 rfl) ?_
      refine lv_iload_n hx hb dX6_take_19 rfl (lv_at hl 1 rfl) ?_
      refine lv_iload_n hx hb dX6_take_20 rfl (lv_at hl 2 rfl) ?_
      refine lv_iconst (v := nI 4) hx hb dX6_take_21 (by decide) ?_
      refine lv_iload_n hx hb dX6_take_22 rfl (lv_at hl 2 rfl) ?_
      refine lv_imul hx hb dX6_take_23 (r_top (pk_mul _ _) ?_)
      refine lv_iload_n hx hb dX6_take_24 rfl (lv_at hl 3 rfl) ?_
      refine lv_iadd hx hb dX6_take_25 (r_top (nI_add _ _) ?_)
      refine lv_iconst (v := nI 2) hx hb dX6_take_26 (by decide) ?_
      refine lv_iload hx hb dX6_take_27 (lv_at hl 4 rfl) ?_
      refine g_ci (va_runV (As := [.int (nI (rN)), .int (nI (aN)), .int (nI ((4 * aN) + bN)), .int (nI (2)), .int (v)]) (rest := []) ⟨hx, hb, hml, hown, hts⟩ (c_X6_goes l D G ad hI J rN aN (nI ((4 * aN) + bN)) (nI (2)) v (show rN < 33 by omega) (show rN ≠ 27 by omega) hM) (cwV 5 hts gX6_take_X6_goes rfl rfl rfl (by decide +kernel) ⟨Nat.le_of_ble_eq_true rfl, Nat.le_of_ble_eq_true rfl⟩) (g_preV hK hW 0 (0) (mM (by decide) (by decide)) rfl rfl) rfl rfl hl.1 rfl (lv_room (Nat.le_of_ble_eq_true rfl)) dX6_take_29 ⟨Nat.le_refl _, Nat.le_refl _⟩) hS (fun x3 I3 H locs hp hW hS => ?_)
      obtain ⟨ex3, eI3⟩ := hp
      refine lv_istore (lv' := [(5, .int (x3)), (0, .ref (ad 0 (0))), (1, .int (nI (rN))), (2, .int (nI (aN))), (3, .int (nI (bN))), (4, .int (v))]) hx hb dX6_take_32 hl (by decide) rfl (fun ls hl => ?_)
      refine lv_aload_n hx hb dX6_take_34 rfl (lv_at hl 1 rfl) ?_
      refine lv_iload_n hx hb dX6_take_35 rfl (lv_at hl 2 rfl) ?_
      refine g_cv (va_runV (As := [.int (nI (rN))]) (rest := []) ⟨hx, hb, hml, hown, hts⟩ (c_X6_isNew l D G ad hI I3 rN (show rN < 4 by omega)) (cwV 1 hts gX6_take_X6_isNew rfl rfl rfl (by decide +kernel) ⟨Nat.le_of_ble_eq_true rfl, Nat.le_of_ble_eq_true rfl⟩) (g_preV hK hW 0 (0) (mM (by decide) (by decide)) rfl rfl) rfl rfl hl.1 rfl (lv_room (Nat.le_of_ble_eq_true rfl)) dX6_take_36 ⟨Nat.le_refl _, Nat.le_refl _⟩) hS (fun I4 H locs hp hW hS => ?_)
      have eI4 : I4 = inS I3 rN := hp
      refine lv_iload hx hb dX6_take_39 (lv_at hl 0 rfl) ?_
      rw [hQ]
      exact g_iret (wd := wM G ad) hx hb hr rfl hlocks hW hS (by subst eI4 eI3 ex3; refine ⟨?_, ?_⟩ <;> rw [if_pos (by simp [k_rN, k_aN, k_bN])] <;> simp only [t_rN, t_aN, t_bN] <;> rfl) dX6_take_41
    · replace c12_1 := bI_0.mp c12_1
      try simp only [decide_eq_true_eq, decide_eq_false_iff_not] at c12_1
      refine lv_bipush (v := (-2)) hx hb dX6_take_15 (by decide) ?_
      rw [hQ]
      exact g_iret (wd := wM G ad) hx hb hr rfl hlocks hW hS (by skip; refine ⟨?_, ?_⟩ <;> simp [k_rN, c12_1]) dX6_take_17

set_option maxHeartbeats 4000000 in
set_option maxRecDepth 100000 in
theorem c_X6_reset (l : Launch) (D : va_G) (G : Nat → ClassId) (ad : Nat → Nat → Nat) (hI : wI LM ad) (J : St) (r a : Int32) (hM : okM J) : Met l yX6_reset wsX6_reset ({ frames := 2, cells := 0, slots := 0, locals := 52 } : Room) (gPre D G LM ad [.ref (ad 0 (0)), .int (r), .int (a)] (wM G ad J)) (gQi D LM ad (wM G ad) (fun r9 u => r9 = (if (okN (nI 4) r && (okN (nI 3) a && okN (nI 4) (nI 0))) = true then goN J (tn r) (tn a) (-1) (nI 1) (nI 0) else -2) ∧ u = (if (okN (nI 4) r && (okN (nI 3) a && okN (nI 4) (nI 0))) = true then inS (goA J (tn r) (tn a) (-1) (nI 1) (nI 0)) (tn r) else J))) 0 0 (wA LM ad) := by
  refine g_entry (C := RX6) (cc := cX6_reset) (maxL := 4) (ret := (some .int)) rfl (by decide) rfl (Nat.le_of_ble_eq_true rfl) (fun p e s m args below meth c Q ls hQ hx hb hr hts hown hlocks hml hW hK hl => ?_)
  have hl : lv_has ls 4 [(0, .ref (ad 0 (0))), (1, .int (r)), (2, .int (a))] := hl
  have hS := va_S.rf (A := wA LM ad) (H0 := s.heap)
  refine lv_iload_n hx hb dX6_reset_0 rfl (lv_at hl 1 rfl) ?_
  refine g_pi (va_runS (As := [.int (r)]) (rest := []) ⟨hx, hb, hml, hown, hts⟩ (c_X6_isReplica l r) (va_cwS 1 hts gX6_reset_X6_isReplica rfl rfl rfl (by decide +kernel) ⟨Nat.le_of_ble_eq_true rfl, Nat.le_of_ble_eq_true rfl⟩) p_preS rfl rfl hl.1 rfl (lv_room (Nat.le_of_ble_eq_true rfl)) dX6_reset_1 ⟨Nat.le_refl _, Nat.le_refl _⟩) hW hS (fun H locs hW hS => ?_)
  refine lv_if_eq (tgt := 15) hx hb dX6_reset_4 (by decide) (fun c4_0 => ?_) (fun c4_0 => ?_)
  · replace c4_0 := bI_0.mp c4_0
    try simp only [decide_eq_true_eq, decide_eq_false_iff_not] at c4_0
    refine lv_bipush (v := (-2)) hx hb dX6_reset_15 (by decide) ?_
    rw [hQ]
    exact g_iret (wd := wM G ad) hx hb hr rfl hlocks hW hS (by skip; refine ⟨?_, ?_⟩ <;> simp [c4_0]) dX6_reset_17
  · replace c4_0 := bI_1.mp c4_0
    obtain ⟨rN, hrN, erN⟩ := okN_nI (k := 4) (by decide) c4_0
    subst erN
    have t_rN : tn (nI rN) = rN := tn_nI (by omega)
    have k_rN : okN (nI 4) (nI rN) = true := okN_of (by decide) hrN
    refine lv_iload_n hx hb dX6_reset_7 rfl (lv_at hl 2 rfl) ?_
    refine lv_iconst (v := nI 0) hx hb dX6_reset_8 (by decide) ?_
    refine g_pi (va_runS (As := [.int (a), .int (nI (0))]) (rest := []) ⟨hx, hb, hml, hown, hts⟩ (c_X6_isObject l a (nI (0))) (va_cwS 2 hts gX6_reset_X6_isObject rfl rfl rfl (by decide +kernel) ⟨Nat.le_of_ble_eq_true rfl, Nat.le_of_ble_eq_true rfl⟩) p_preS rfl rfl hl.1 rfl (lv_room (Nat.le_of_ble_eq_true rfl)) dX6_reset_9 ⟨Nat.le_refl _, Nat.le_refl _⟩) hW hS (fun H locs hW hS => ?_)
    refine lv_if_ne (tgt := 18) hx hb dX6_reset_12 (by decide) (fun c12_1 => ?_) (fun c12_1 => ?_)
    · replace c12_1 := bI_1.mp c12_1
      obtain ⟨aN, haN, eaN⟩ := okN_nI (k := 3) (by decide) (okAnd c12_1).1
      subst eaN
      have t_aN : tn (nI aN) = aN := tn_nI (by omega)
      have k_aN : okN (nI 3) (nI aN) = true := okN_of (by decide) haN
      refine lv_aload_n hx hb dX6_reset_18 rfl (lv_at hl 0 rfl) ?_
      refine lv_iload_n hx hb dX6_reset_19 rfl (lv_at hl 1 rfl) ?_
      refine lv_iload_n hx hb dX6_reset_20 rfl (lv_at hl 2 rfl) ?_
      refine lv_iconst (v := (-1)) hx hb dX6_reset_21 (by decide) ?_
      refine lv_iconst (v := nI 1) hx hb dX6_reset_22 (by decide) ?_
      refine lv_iconst (v := nI 0) hx hb dX6_reset_23 (by decide) ?_
      refine g_ci (va_runV (As := [.int (nI (rN)), .int (nI (aN)), .int ((-1)), .int (nI (1)), .int (nI (0))]) (rest := []) ⟨hx, hb, hml, hown, hts⟩ (c_X6_goes l D G ad hI J rN aN ((-1)) (nI (1)) (nI (0)) (show rN < 33 by omega) (show rN ≠ 27 by omega) hM) (cwV 5 hts gX6_reset_X6_goes rfl rfl rfl (by decide +kernel) ⟨Nat.le_of_ble_eq_true rfl, Nat.le_of_ble_eq_true rfl⟩) (g_preV hK hW 0 (0) (mM (by decide) (by decide)) rfl rfl) rfl rfl hl.1 rfl (lv_room (Nat.le_of_ble_eq_true rfl)) dX6_reset_24 ⟨Nat.le_refl _, Nat.le_refl _⟩) hS (fun x3 I3 H locs hp hW hS => ?_)
      obtain ⟨ex3, eI3⟩ := hp
      refine lv_istore_n (lv' := [(3, .int (x3)), (0, .ref (ad 0 (0))), (1, .int (nI (rN))), (2, .int (nI (aN)))]) hx hb dX6_reset_27 rfl hl (by decide) rfl (fun ls hl => ?_)
      refine lv_aload_n hx hb dX6_reset_28 rfl (lv_at hl 1 rfl) ?_
      refine lv_iload_n hx hb dX6_reset_29 rfl (lv_at hl 2 rfl) ?_
      refine g_cv (va_runV (As := [.int (nI (rN))]) (rest := []) ⟨hx, hb, hml, hown, hts⟩ (c_X6_isNew l D G ad hI I3 rN (show rN < 4 by omega)) (cwV 1 hts gX6_reset_X6_isNew rfl rfl rfl (by decide +kernel) ⟨Nat.le_of_ble_eq_true rfl, Nat.le_of_ble_eq_true rfl⟩) (g_preV hK hW 0 (0) (mM (by decide) (by decide)) rfl rfl) rfl rfl hl.1 rfl (lv_room (Nat.le_of_ble_eq_true rfl)) dX6_reset_30 ⟨Nat.le_refl _, Nat.le_refl _⟩) hS (fun I4 H locs hp hW hS => ?_)
      have eI4 : I4 = inS I3 rN := hp
      refine lv_iload_n hx hb dX6_reset_33 rfl (lv_at hl 0 rfl) ?_
      rw [hQ]
      exact g_iret (wd := wM G ad) hx hb hr rfl hlocks hW hS (by subst eI4 eI3 ex3; refine ⟨?_, ?_⟩ <;> rw [if_pos (by simp [k_rN, k_aN, show okN (nI 4) (nI 0) = true by decide +kernel])] <;> simp only [t_rN, t_aN] <;> rfl) dX6_reset_34
    · replace c12_1 := bI_0.mp c12_1
      try simp only [decide_eq_true_eq, decide_eq_false_iff_not] at c12_1
      refine lv_bipush (v := (-2)) hx hb dX6_reset_15 (by decide) ?_
      rw [hQ]
      exact g_iret (wd := wM G ad) hx hb hr rfl hlocks hW hS (by skip; refine ⟨?_, ?_⟩ <;> simp [k_rN, c12_1]) dX6_reset_17

set_option maxHeartbeats 4000000 in
set_option maxRecDepth 100000 in
theorem c_X6_has (l : Launch) (D : va_G) (G : Nat → ClassId) (ad : Nat → Nat → Nat) (hI : wI LM ad) (J : St) (r a b v : Int32) (hM : okM J) : Met l yX6_has wsX6_has ({ frames := 2, cells := 0, slots := 0, locals := 52 } : Room) (gPre D G LM ad [.ref (ad 0 (0)), .int (r), .int (a), .int (b), .int (v)] (wM G ad J)) (gQi D LM ad (wM G ad) (fun r9 u => r9 = (if (okN (nI 4) r && (okN (nI 3) a && okN (nI 4) b)) = true then goN J (tn r) (tn a) (nI (4 * tn a + tn b)) (nI 2) v else -2) ∧ u = (if (okN (nI 4) r && (okN (nI 3) a && okN (nI 4) b)) = true then goA J (tn r) (tn a) (nI (4 * tn a + tn b)) (nI 2) v else J))) 0 0 (wA LM ad) := by
  refine g_entry (C := RX6) (cc := cX6_has) (maxL := 5) (ret := (some .int)) rfl (by decide) rfl (Nat.le_of_ble_eq_true rfl) (fun p e s m args below meth c Q ls hQ hx hb hr hts hown hlocks hml hW hK hl => ?_)
  have hl : lv_has ls 5 [(0, .ref (ad 0 (0))), (1, .int (r)), (2, .int (a)), (3, .int (b)), (4, .int (v))] := hl
  have hS := va_S.rf (A := wA LM ad) (H0 := s.heap)
  refine lv_iload_n hx hb dX6_has_0 rfl (lv_at hl 1 rfl) ?_
  refine g_pi (va_runS (As := [.int (r)]) (rest := []) ⟨hx, hb, hml, hown, hts⟩ (c_X6_isReplica l r) (va_cwS 1 hts gX6_has_X6_isReplica rfl rfl rfl (by decide +kernel) ⟨Nat.le_of_ble_eq_true rfl, Nat.le_of_ble_eq_true rfl⟩) p_preS rfl rfl hl.1 rfl (lv_room (Nat.le_of_ble_eq_true rfl)) dX6_has_1 ⟨Nat.le_refl _, Nat.le_refl _⟩) hW hS (fun H locs hW hS => ?_)
  refine lv_if_eq (tgt := 15) hx hb dX6_has_4 (by decide) (fun c4_0 => ?_) (fun c4_0 => ?_)
  · replace c4_0 := bI_0.mp c4_0
    try simp only [decide_eq_true_eq, decide_eq_false_iff_not] at c4_0
    refine lv_bipush (v := (-2)) hx hb dX6_has_15 (by decide) ?_
    rw [hQ]
    exact g_iret (wd := wM G ad) hx hb hr rfl hlocks hW hS (by skip; refine ⟨?_, ?_⟩ <;> simp [c4_0]) dX6_has_17
  · replace c4_0 := bI_1.mp c4_0
    obtain ⟨rN, hrN, erN⟩ := okN_nI (k := 4) (by decide) c4_0
    subst erN
    have t_rN : tn (nI rN) = rN := tn_nI (by omega)
    have k_rN : okN (nI 4) (nI rN) = true := okN_of (by decide) hrN
    refine lv_iload_n hx hb dX6_has_7 rfl (lv_at hl 2 rfl) ?_
    refine lv_iload_n hx hb dX6_has_8 rfl (lv_at hl 3 rfl) ?_
    refine g_pi (va_runS (As := [.int (a), .int (b)]) (rest := []) ⟨hx, hb, hml, hown, hts⟩ (c_X6_isObject l a b) (va_cwS 2 hts gX6_has_X6_isObject rfl rfl rfl (by decide +kernel) ⟨Nat.le_of_ble_eq_true rfl, Nat.le_of_ble_eq_true rfl⟩) p_preS rfl rfl hl.1 rfl (lv_room (Nat.le_of_ble_eq_true rfl)) dX6_has_9 ⟨Nat.le_refl _, Nat.le_refl _⟩) hW hS (fun H locs hW hS => ?_)
    refine lv_if_ne (tgt := 18) hx hb dX6_has_12 (by decide) (fun c12_1 => ?_) (fun c12_1 => ?_)
    · replace c12_1 := bI_1.mp c12_1
      obtain ⟨aN, haN, eaN⟩ := okN_nI (k := 3) (by decide) (okAnd c12_1).1
      subst eaN
      have t_aN : tn (nI aN) = aN := tn_nI (by omega)
      have k_aN : okN (nI 3) (nI aN) = true := okN_of (by decide) haN
      obtain ⟨bN, hbN, ebN⟩ := okN_nI (k := 4) (by decide) (okAnd c12_1).2
      subst ebN
      have t_bN : tn (nI bN) = bN := tn_nI (by omega)
      have k_bN : okN (nI 4) (nI bN) = true := okN_of (by decide) hbN
      refine lv_aload_n hx hb dX6_has_18 rfl (lv_at hl 0 rfl) ?_
      refine lv_iload_n hx hb dX6_has_19 rfl (lv_at hl 1 rfl) ?_
      refine lv_iload_n hx hb dX6_has_20 rfl (lv_at hl 2 rfl) ?_
      refine lv_iconst (v := nI 4) hx hb dX6_has_21 (by decide) ?_
      refine lv_iload_n hx hb dX6_has_22 rfl (lv_at hl 2 rfl) ?_
      refine lv_imul hx hb dX6_has_23 (r_top (pk_mul _ _) ?_)
      refine lv_iload_n hx hb dX6_has_24 rfl (lv_at hl 3 rfl) ?_
      refine lv_iadd hx hb dX6_has_25 (r_top (nI_add _ _) ?_)
      refine lv_iconst (v := nI 2) hx hb dX6_has_26 (by decide) ?_
      refine lv_iload hx hb dX6_has_27 (lv_at hl 4 rfl) ?_
      refine g_ci (va_runV (As := [.int (nI (rN)), .int (nI (aN)), .int (nI ((4 * aN) + bN)), .int (nI (2)), .int (v)]) (rest := []) ⟨hx, hb, hml, hown, hts⟩ (c_X6_goes l D G ad hI J rN aN (nI ((4 * aN) + bN)) (nI (2)) v (show rN < 33 by omega) (show rN ≠ 27 by omega) hM) (cwV 5 hts gX6_has_X6_goes rfl rfl rfl (by decide +kernel) ⟨Nat.le_of_ble_eq_true rfl, Nat.le_of_ble_eq_true rfl⟩) (g_preV hK hW 0 (0) (mM (by decide) (by decide)) rfl rfl) rfl rfl hl.1 rfl (lv_room (Nat.le_of_ble_eq_true rfl)) dX6_has_29 ⟨Nat.le_refl _, Nat.le_refl _⟩) hS (fun x3 I3 H locs hp hW hS => ?_)
      obtain ⟨ex3, eI3⟩ := hp
      rw [hQ]
      exact g_iret (wd := wM G ad) hx hb hr rfl hlocks hW hS (by subst eI3 ex3; refine ⟨?_, ?_⟩ <;> rw [if_pos (by simp [k_rN, k_aN, k_bN])] <;> simp only [t_rN, t_aN, t_bN] <;> rfl) dX6_has_32
    · replace c12_1 := bI_0.mp c12_1
      try simp only [decide_eq_true_eq, decide_eq_false_iff_not] at c12_1
      refine lv_bipush (v := (-2)) hx hb dX6_has_15 (by decide) ?_
      rw [hQ]
      exact g_iret (wd := wM G ad) hx hb hr rfl hlocks hW hS (by skip; refine ⟨?_, ?_⟩ <;> simp [k_rN, c12_1]) dX6_has_17

set_option maxHeartbeats 4000000 in
set_option maxRecDepth 100000 in
theorem c_X6_kind (l : Launch) (D : va_G) (G : Nat → ClassId) (ad : Nat → Nat → Nat) (hI : wI LM ad) (J : St) (a b k : Int32) : Met l yX6_kind wsX6_kind ({ frames := 2, cells := 0, slots := 0, locals := 46 } : Room) (gPre D G LM ad [.ref (ad 0 (0)), .int (a), .int (b), .int (k)] (wM G ad J)) (gQi D LM ad (wM G ad) (fun r9 u => r9 = (if ((okN (nI 3) a && okN (nI 4) b) && okN (nI 6) k) = true then J 16 0 (4 * tn a + tn b) else -2) ∧ u = (if ((okN (nI 3) a && okN (nI 4) b) && okN (nI 6) k) = true then up3 J 16 0 (4 * tn a + tn b) k else J))) 0 0 (wA LM ad) := by
  refine g_entry (C := RX6) (cc := cX6_kind) (maxL := 5) (ret := (some .int)) rfl (by decide) rfl (Nat.le_of_ble_eq_true rfl) (fun p e s m args below meth c Q ls hQ hx hb hr hts hown hlocks hml hW hK hl => ?_)
  have hl : lv_has ls 5 [(0, .ref (ad 0 (0))), (1, .int (a)), (2, .int (b)), (3, .int (k))] := hl
  have hS := va_S.rf (A := wA LM ad) (H0 := s.heap)
  have hinX6 : ∀ w ∈ wsX60, w ∈ wsX6_kind := by decide +kernel
  have hf24 := hts (.fieldLink RX6 24 "JoinedStoresModel" "kinds" "[I") (by decide +kernel)
  refine lv_iload_n hx hb dX6_kind_0 rfl (lv_at hl 1 rfl) ?_
  refine lv_iload_n hx hb dX6_kind_1 rfl (lv_at hl 2 rfl) ?_
  refine g_pi (va_runS (As := [.int (a), .int (b)]) (rest := []) ⟨hx, hb, hml, hown, hts⟩ (c_X6_isObject l a b) (va_cwS 2 hts gX6_kind_X6_isObject rfl rfl rfl (by decide +kernel) ⟨Nat.le_of_ble_eq_true rfl, Nat.le_of_ble_eq_true rfl⟩) p_preS rfl rfl hl.1 rfl (lv_room (Nat.le_of_ble_eq_true rfl)) dX6_kind_2 ⟨Nat.le_refl _, Nat.le_refl _⟩) hW hS (fun H locs hW hS => ?_)
  refine lv_if_eq (tgt := 20) hx hb dX6_kind_5 (by decide) (fun c5_0 => ?_) (fun c5_0 => ?_)
  · replace c5_0 := bI_0.mp c5_0
    try simp only [decide_eq_true_eq, decide_eq_false_iff_not] at c5_0
    refine lv_bipush (v := (-2)) hx hb dX6_kind_20 (by decide) ?_
    rw [hQ]
    exact g_iret (wd := wM G ad) hx hb hr rfl hlocks hW hS (by skip; refine ⟨?_, ?_⟩ <;> simp [c5_0]) dX6_kind_22
  · replace c5_0 := bI_1.mp c5_0
    obtain ⟨aN, haN, eaN⟩ := okN_nI (k := 3) (by decide) (okAnd c5_0).1
    subst eaN
    have t_aN : tn (nI aN) = aN := tn_nI (by omega)
    have k_aN : okN (nI 3) (nI aN) = true := okN_of (by decide) haN
    obtain ⟨bN, hbN, ebN⟩ := okN_nI (k := 4) (by decide) (okAnd c5_0).2
    subst ebN
    have t_bN : tn (nI bN) = bN := tn_nI (by omega)
    have k_bN : okN (nI 4) (nI bN) = true := okN_of (by decide) hbN
    refine lv_iload_n hx hb dX6_kind_8 rfl (lv_at hl 3 rfl) ?_
    refine lv_i2l hx hb dX6_kind_9 rfl ?_
    refine lv_lconst (v := lN 0) hx hb dX6_kind_10 (by decide) ?_
    refine lv_ldc2 (v := (5)) hx hb hown (hts (.constantLong RX6 149 (5)) (by decide +kernel)) dX6_kind_11 ?_
    refine g_pi (va_runS (As := [.long (k.toInt64), .long (lN 0), .long ((5))]) (rest := []) ⟨hx, hb, hml, hown, hts⟩ (c_X6_inB l k.toInt64 (lN 0) ((5)) (okN (nI 6) k) (inL_N (k := 6) (by decide) (by decide) _)) (va_cwS 3 hts gX6_kind_X6_in rfl rfl rfl (by decide +kernel) ⟨Nat.le_of_ble_eq_true rfl, Nat.le_of_ble_eq_true rfl⟩) p_preS rfl rfl hl.1 rfl (lv_room (Nat.le_of_ble_eq_true rfl)) dX6_kind_14 ⟨Nat.le_refl _, Nat.le_refl _⟩) hW hS (fun H locs hW hS => ?_)
    refine lv_if_ne (tgt := 23) hx hb dX6_kind_17 (by decide) (fun c17_1 => ?_) (fun c17_1 => ?_)
    · replace c17_1 := bI_1.mp c17_1
      obtain ⟨kN, hkN, ekN⟩ := okN_nI (k := 6) (by decide) c17_1
      subst ekN
      have t_kN : tn (nI kN) = kN := tn_nI (by omega)
      have k_kN : okN (nI 6) (nI kN) = true := okN_of (by decide) hkN
      refine lv_aload_n hx hb dX6_kind_23 rfl (lv_at hl 0 rfl) ?_
      refine r_get hx hb hts hown hK hW 0 (0) 4 (mM (by decide) (by decide)) rfl rfl hinX6 (by decide) hf24 rfl rfl dX6_kind_24 ?_
      refine lv_iconst (v := nI 4) hx hb dX6_kind_27 (by decide) ?_
      refine lv_iload_n hx hb dX6_kind_28 rfl (lv_at hl 1 rfl) ?_
      refine lv_imul hx hb dX6_kind_29 (r_top (pk_mul _ _) ?_)
      refine lv_iload_n hx hb dX6_kind_30 rfl (lv_at hl 2 rfl) ?_
      refine lv_iadd hx hb dX6_kind_31 (r_top (nI_add _ _) ?_)
      refine rM_iald hx hb hK hW 16 (0) ((4 * aN) + bN) (by decide) (by decide) (by decide) (show (4 * aN) + bN < 12 by omega) rfl dX6_kind_32 (fun x3 ex3 => ?_)
      refine lv_istore (lv' := [(4, .int (x3)), (0, .ref (ad 0 (0))), (1, .int (nI (aN))), (2, .int (nI (bN))), (3, .int (nI (kN)))]) hx hb dX6_kind_33 hl (by decide) rfl (fun ls hl => ?_)
      refine lv_aload_n hx hb dX6_kind_35 rfl (lv_at hl 1 rfl) ?_
      refine r_get hx hb hts hown hK hW 0 (0) 4 (mM (by decide) (by decide)) rfl rfl hinX6 (by decide) hf24 rfl rfl dX6_kind_36 ?_
      refine lv_iconst (v := nI 4) hx hb dX6_kind_39 (by decide) ?_
      refine lv_iload_n hx hb dX6_kind_40 rfl (lv_at hl 2 rfl) ?_
      refine lv_imul hx hb dX6_kind_41 (r_top (pk_mul _ _) ?_)
      refine lv_iload_n hx hb dX6_kind_42 rfl (lv_at hl 3 rfl) ?_
      refine lv_iadd hx hb dX6_kind_43 (r_top (nI_add _ _) ?_)
      refine lv_iload_n hx hb dX6_kind_44 rfl (lv_at hl 4 rfl) ?_
      refine rM_iast hx hb hK hI hW hS 16 (0) ((4 * aN) + bN) (by decide) (by decide) (by decide) (show (4 * aN) + bN < 12 by omega) rfl dX6_kind_45 (fun I4 H locs eI4 hW hS => ?_)
      refine lv_iload hx hb dX6_kind_46 (lv_at hl 0 rfl) ?_
      rw [hQ]
      exact g_iret (wd := wM G ad) hx hb hr rfl hlocks hW hS (by subst eI4 ex3; refine ⟨?_, ?_⟩ <;> rw [if_pos (by simp [k_aN, k_bN, k_kN])] <;> simp only [t_aN, t_bN, t_kN]) dX6_kind_48
    · replace c17_1 := bI_0.mp c17_1
      try simp only [decide_eq_true_eq, decide_eq_false_iff_not] at c17_1
      refine lv_bipush (v := (-2)) hx hb dX6_kind_20 (by decide) ?_
      rw [hQ]
      exact g_iret (wd := wM G ad) hx hb hr rfl hlocks hW hS (by skip; refine ⟨?_, ?_⟩ <;> simp [k_aN, k_bN, c17_1]) dX6_kind_22

set_option maxHeartbeats 4000000 in
set_option maxRecDepth 100000 in
theorem c_X6_taken (l : Launch) (D : va_G) (G : Nat → ClassId) (ad : Nat → Nat → Nat) (hI : wI LM ad) (J : St) (a b k : Int32) (hKd : okK J) : Met l yX6_taken wsX6_taken ({ frames := 2, cells := 0, slots := 0, locals := 46 } : Room) (gPre D G LM ad [.ref (ad 0 (0)), .int (a), .int (b), .int (k)] (wM G ad J)) (gQi D LM ad (wM G ad) (fun r9 u => r9 = (if ((okN (nI 3) a && okN (nI 4) b) && okN (nI 6) k) = true then (if iu (kd J (4 * tn a + tn b)) (tn k) = true then nI (kd J (4 * tn a + tn b)) else -13) else -2) ∧ u = J)) 0 0 (wA LM ad) := by
  refine g_entry (C := RX6) (cc := cX6_taken) (maxL := 6) (ret := (some .int)) rfl (by decide) rfl (Nat.le_of_ble_eq_true rfl) (fun p e s m args below meth c Q ls hQ hx hb hr hts hown hlocks hml hW hK hl => ?_)
  have hl : lv_has ls 6 [(0, .ref (ad 0 (0))), (1, .int (a)), (2, .int (b)), (3, .int (k))] := hl
  have hS := va_S.rf (A := wA LM ad) (H0 := s.heap)
  have hinX6 : ∀ w ∈ wsX60, w ∈ wsX6_taken := by decide +kernel
  have hf24 := hts (.fieldLink RX6 24 "JoinedStoresModel" "kinds" "[I") (by decide +kernel)
  refine lv_iload_n hx hb dX6_taken_0 rfl (lv_at hl 1 rfl) ?_
  refine lv_iload_n hx hb dX6_taken_1 rfl (lv_at hl 2 rfl) ?_
  refine g_pi (va_runS (As := [.int (a), .int (b)]) (rest := []) ⟨hx, hb, hml, hown, hts⟩ (c_X6_isObject l a b) (va_cwS 2 hts gX6_taken_X6_isObject rfl rfl rfl (by decide +kernel) ⟨Nat.le_of_ble_eq_true rfl, Nat.le_of_ble_eq_true rfl⟩) p_preS rfl rfl hl.1 rfl (lv_room (Nat.le_of_ble_eq_true rfl)) dX6_taken_2 ⟨Nat.le_refl _, Nat.le_refl _⟩) hW hS (fun H locs hW hS => ?_)
  refine lv_if_eq (tgt := 20) hx hb dX6_taken_5 (by decide) (fun c5_0 => ?_) (fun c5_0 => ?_)
  · replace c5_0 := bI_0.mp c5_0
    try simp only [decide_eq_true_eq, decide_eq_false_iff_not] at c5_0
    refine lv_bipush (v := (-2)) hx hb dX6_taken_20 (by decide) ?_
    rw [hQ]
    exact g_iret (wd := wM G ad) hx hb hr rfl hlocks hW hS (by skip; refine ⟨?_, ?_⟩ <;> simp [c5_0]) dX6_taken_22
  · replace c5_0 := bI_1.mp c5_0
    obtain ⟨aN, haN, eaN⟩ := okN_nI (k := 3) (by decide) (okAnd c5_0).1
    subst eaN
    have t_aN : tn (nI aN) = aN := tn_nI (by omega)
    have k_aN : okN (nI 3) (nI aN) = true := okN_of (by decide) haN
    obtain ⟨bN, hbN, ebN⟩ := okN_nI (k := 4) (by decide) (okAnd c5_0).2
    subst ebN
    have t_bN : tn (nI bN) = bN := tn_nI (by omega)
    have k_bN : okN (nI 4) (nI bN) = true := okN_of (by decide) hbN
    refine lv_iload_n hx hb dX6_taken_8 rfl (lv_at hl 3 rfl) ?_
    refine lv_i2l hx hb dX6_taken_9 rfl ?_
    refine lv_lconst (v := lN 0) hx hb dX6_taken_10 (by decide) ?_
    refine lv_ldc2 (v := (5)) hx hb hown (hts (.constantLong RX6 149 (5)) (by decide +kernel)) dX6_taken_11 ?_
    refine g_pi (va_runS (As := [.long (k.toInt64), .long (lN 0), .long ((5))]) (rest := []) ⟨hx, hb, hml, hown, hts⟩ (c_X6_inB l k.toInt64 (lN 0) ((5)) (okN (nI 6) k) (inL_N (k := 6) (by decide) (by decide) _)) (va_cwS 3 hts gX6_taken_X6_in rfl rfl rfl (by decide +kernel) ⟨Nat.le_of_ble_eq_true rfl, Nat.le_of_ble_eq_true rfl⟩) p_preS rfl rfl hl.1 rfl (lv_room (Nat.le_of_ble_eq_true rfl)) dX6_taken_14 ⟨Nat.le_refl _, Nat.le_refl _⟩) hW hS (fun H locs hW hS => ?_)
    refine lv_if_ne (tgt := 23) hx hb dX6_taken_17 (by decide) (fun c17_1 => ?_) (fun c17_1 => ?_)
    · replace c17_1 := bI_1.mp c17_1
      obtain ⟨kN, hkN, ekN⟩ := okN_nI (k := 6) (by decide) c17_1
      subst ekN
      have t_kN : tn (nI kN) = kN := tn_nI (by omega)
      have k_kN : okN (nI 6) (nI kN) = true := okN_of (by decide) hkN
      refine lv_aload_n hx hb dX6_taken_23 rfl (lv_at hl 0 rfl) ?_
      refine r_get hx hb hts hown hK hW 0 (0) 4 (mM (by decide) (by decide)) rfl rfl hinX6 (by decide) hf24 rfl rfl dX6_taken_24 ?_
      refine lv_iconst (v := nI 4) hx hb dX6_taken_27 (by decide) ?_
      refine lv_iload_n hx hb dX6_taken_28 rfl (lv_at hl 1 rfl) ?_
      refine lv_imul hx hb dX6_taken_29 (r_top (pk_mul _ _) ?_)
      refine lv_iload_n hx hb dX6_taken_30 rfl (lv_at hl 2 rfl) ?_
      refine lv_iadd hx hb dX6_taken_31 (r_top (nI_add _ _) ?_)
      refine rM_iald hx hb hK hW 16 (0) ((4 * aN) + bN) (by decide) (by decide) (by decide) (show (4 * aN) + bN < 12 by omega) rfl dX6_taken_32 (fun x3 ex3 => ?_)
      have hk6 := (hKd (4 * aN + bN) (by omega)).2
      refine r_top (show x3 = nI (kd J (4 * aN + bN)) from (ex3.trans (hKd (4 * aN + bN) (by omega)).1)) ?_
      refine lv_istore (lv' := [(4, .int (nI (kd J (4 * aN + bN)))), (0, .ref (ad 0 (0))), (1, .int (nI (aN))), (2, .int (nI (bN))), (3, .int (nI (kN)))]) hx hb dX6_taken_33 hl (by decide) rfl (fun ls hl => ?_)
      refine lv_iload_n hx hb dX6_taken_35 rfl (lv_at hl 4 rfl) ?_
      refine lv_if_eq (tgt := 84) hx hb dX6_taken_36 (by decide) (fun c36_3 => ?_) (fun c36_3 => ?_)
      · replace c36_3 : kN = 0 := (nI_eq (show kN < 2147483648 by omega) (show 0 < 2147483648 by omega)).mp c36_3
        refine lv_iconst (v := nI 1) hx hb dX6_taken_84 (by decide) ?_
        refine lv_goto (tgt := 89) hx hb dX6_taken_85 (by decide) ?_
        refine lv_istore (lv' := [(5, .int (nI (1))), (4, .int (nI (kd J (4 * aN + bN)))), (0, .ref (ad 0 (0))), (1, .int (nI (aN))), (2, .int (nI (bN))), (3, .int (nI (kN)))]) hx hb dX6_taken_89 hl (by decide) rfl (fun ls hl => ?_)
        refine lv_iload hx hb dX6_taken_91 (lv_at hl 0 rfl) ?_
        refine lv_if_eq (tgt := 101) hx hb dX6_taken_93 (by decide) (fun h => absurd h (by decide)) (fun _ => ?_)
        refine lv_iload hx hb dX6_taken_96 (lv_at hl 1 rfl) ?_
        refine lv_goto (tgt := 103) hx hb dX6_taken_98 (by decide) ?_
        rw [hQ]
        exact g_iret (wd := wM G ad) hx hb hr rfl hlocks hW hS (by refine ⟨?_, rfl⟩; rw [if_pos (by simp [k_aN, k_bN, k_kN])]; simp only [t_aN, t_bN, t_kN, iu]; generalize kd J (4 * aN + bN) = kq at *; clear hQ; (simp [*] <;> omega)) dX6_taken_103
      · replace c36_3 : ¬ (kN = 0) := fun h => c36_3 ((nI_eq (show kN < 2147483648 by omega) (show 0 < 2147483648 by omega)).mpr h)
        refine lv_iload_n hx hb dX6_taken_39 rfl (lv_at hl 4 rfl) ?_
        refine lv_iload hx hb dX6_taken_40 (lv_at hl 0 rfl) ?_
        refine lv_icmp_eq (tgt := 84) hx hb dX6_taken_42 (by decide) (fun c42_5 => ?_) (fun c42_5 => ?_)
        · replace c42_5 : kN = kd J (4 * aN + bN) := (nI_eq (show kN < 2147483648 by omega) (show kd J (4 * aN + bN) < 2147483648 by omega)).mp c42_5
          refine lv_iconst (v := nI 1) hx hb dX6_taken_84 (by decide) ?_
          refine lv_goto (tgt := 89) hx hb dX6_taken_85 (by decide) ?_
          refine lv_istore (lv' := [(5, .int (nI (1))), (4, .int (nI (kd J (4 * aN + bN)))), (0, .ref (ad 0 (0))), (1, .int (nI (aN))), (2, .int (nI (bN))), (3, .int (nI (kN)))]) hx hb dX6_taken_89 hl (by decide) rfl (fun ls hl => ?_)
          refine lv_iload hx hb dX6_taken_91 (lv_at hl 0 rfl) ?_
          refine lv_if_eq (tgt := 101) hx hb dX6_taken_93 (by decide) (fun h => absurd h (by decide)) (fun _ => ?_)
          refine lv_iload hx hb dX6_taken_96 (lv_at hl 1 rfl) ?_
          refine lv_goto (tgt := 103) hx hb dX6_taken_98 (by decide) ?_
          rw [hQ]
          exact g_iret (wd := wM G ad) hx hb hr rfl hlocks hW hS (by refine ⟨?_, rfl⟩; rw [if_pos (by simp [k_aN, k_bN, k_kN])]; simp only [t_aN, t_bN, t_kN, iu]; generalize kd J (4 * aN + bN) = kq at *; clear hQ; (simp [*] <;> omega)) dX6_taken_103
        · replace c42_5 : ¬ (kN = kd J (4 * aN + bN)) := fun h => c42_5 ((nI_eq (show kN < 2147483648 by omega) (show kd J (4 * aN + bN) < 2147483648 by omega)).mpr h)
          refine lv_iload_n hx hb dX6_taken_45 rfl (lv_at hl 4 rfl) ?_
          refine lv_iconst (v := nI 1) hx hb dX6_taken_46 (by decide) ?_
          refine lv_icmp_ne (tgt := 62) hx hb dX6_taken_47 (by decide) (fun c47_7 => ?_) (fun c47_7 => ?_)
          · replace c47_7 : ¬ kN = 1 := fun h => c47_7 ((nI_eq (show kN < 2147483648 by omega) (show 1 < 2147483648 by omega)).mpr h)
            refine lv_iload_n hx hb dX6_taken_62 rfl (lv_at hl 4 rfl) ?_
            refine lv_iconst (v := nI 2) hx hb dX6_taken_63 (by decide) ?_
            refine lv_icmp_ne (tgt := 73) hx hb dX6_taken_64 (by decide) (fun c64_8 => ?_) (fun c64_8 => ?_)
            · replace c64_8 : ¬ kN = 2 := fun h => c64_8 ((nI_eq (show kN < 2147483648 by omega) (show 2 < 2147483648 by omega)).mpr h)
              refine lv_iload_n hx hb dX6_taken_73 rfl (lv_at hl 4 rfl) ?_
              refine lv_iconst (v := nI 3) hx hb dX6_taken_74 (by decide) ?_
              refine lv_icmp_ne (tgt := 88) hx hb dX6_taken_75 (by decide) (fun c75_9 => ?_) (fun c75_9 => ?_)
              · replace c75_9 : ¬ kN = 3 := fun h => c75_9 ((nI_eq (show kN < 2147483648 by omega) (show 3 < 2147483648 by omega)).mpr h)
                refine lv_iconst (v := nI 0) hx hb dX6_taken_88 (by decide) ?_
                refine lv_istore (lv' := [(5, .int (nI (0))), (4, .int (nI (kd J (4 * aN + bN)))), (0, .ref (ad 0 (0))), (1, .int (nI (aN))), (2, .int (nI (bN))), (3, .int (nI (kN)))]) hx hb dX6_taken_89 hl (by decide) rfl (fun ls hl => ?_)
                refine lv_iload hx hb dX6_taken_91 (lv_at hl 0 rfl) ?_
                refine lv_if_eq (tgt := 101) hx hb dX6_taken_93 (by decide) (fun _ => ?_) (fun h => absurd (by decide) h)
                refine lv_bipush (v := (-13)) hx hb dX6_taken_101 (by decide) ?_
                rw [hQ]
                exact g_iret (wd := wM G ad) hx hb hr rfl hlocks hW hS (by refine ⟨?_, rfl⟩; rw [if_pos (by simp [k_aN, k_bN, k_kN])]; simp only [t_aN, t_bN, t_kN, iu]; generalize kd J (4 * aN + bN) = kq at *; clear hQ; (simp [*] <;> omega)) dX6_taken_103
              · replace c75_9 : kN = 3 := (nI_eq (show kN < 2147483648 by omega) (show 3 < 2147483648 by omega)).mp c75_9
                refine lv_iload hx hb dX6_taken_78 (lv_at hl 0 rfl) ?_
                refine lv_iconst (v := nI 5) hx hb dX6_taken_80 (by decide) ?_
                refine lv_icmp_ne (tgt := 88) hx hb dX6_taken_81 (by decide) (fun c81_11 => ?_) (fun c81_11 => ?_)
                · replace c81_11 : ¬ kd J (4 * aN + bN) = 5 := fun h => c81_11 ((nI_eq (show kd J (4 * aN + bN) < 2147483648 by omega) (show 5 < 2147483648 by omega)).mpr h)
                  refine lv_iconst (v := nI 0) hx hb dX6_taken_88 (by decide) ?_
                  refine lv_istore (lv' := [(5, .int (nI (0))), (4, .int (nI (kd J (4 * aN + bN)))), (0, .ref (ad 0 (0))), (1, .int (nI (aN))), (2, .int (nI (bN))), (3, .int (nI (kN)))]) hx hb dX6_taken_89 hl (by decide) rfl (fun ls hl => ?_)
                  refine lv_iload hx hb dX6_taken_91 (lv_at hl 0 rfl) ?_
                  refine lv_if_eq (tgt := 101) hx hb dX6_taken_93 (by decide) (fun _ => ?_) (fun h => absurd (by decide) h)
                  refine lv_bipush (v := (-13)) hx hb dX6_taken_101 (by decide) ?_
                  rw [hQ]
                  exact g_iret (wd := wM G ad) hx hb hr rfl hlocks hW hS (by refine ⟨?_, rfl⟩; rw [if_pos (by simp [k_aN, k_bN, k_kN])]; simp only [t_aN, t_bN, t_kN, iu]; generalize kd J (4 * aN + bN) = kq at *; clear hQ; (simp [*] <;> omega)) dX6_taken_103
                · replace c81_11 : kd J (4 * aN + bN) = 5 := (nI_eq (show kd J (4 * aN + bN) < 2147483648 by omega) (show 5 < 2147483648 by omega)).mp c81_11
                  refine lv_iconst (v := nI 1) hx hb dX6_taken_84 (by decide) ?_
                  refine lv_goto (tgt := 89) hx hb dX6_taken_85 (by decide) ?_
                  refine lv_istore (lv' := [(5, .int (nI (1))), (4, .int (nI (kd J (4 * aN + bN)))), (0, .ref (ad 0 (0))), (1, .int (nI (aN))), (2, .int (nI (bN))), (3, .int (nI (kN)))]) hx hb dX6_taken_89 hl (by decide) rfl (fun ls hl => ?_)
                  refine lv_iload hx hb dX6_taken_91 (lv_at hl 0 rfl) ?_
                  refine lv_if_eq (tgt := 101) hx hb dX6_taken_93 (by decide) (fun h => absurd h (by decide)) (fun _ => ?_)
                  refine lv_iload hx hb dX6_taken_96 (lv_at hl 1 rfl) ?_
                  refine lv_goto (tgt := 103) hx hb dX6_taken_98 (by decide) ?_
                  rw [hQ]
                  exact g_iret (wd := wM G ad) hx hb hr rfl hlocks hW hS (by refine ⟨?_, rfl⟩; rw [if_pos (by simp [k_aN, k_bN, k_kN])]; simp only [t_aN, t_bN, t_kN, iu]; generalize kd J (4 * aN + bN) = kq at *; clear hQ; (simp [*] <;> omega)) dX6_taken_103
            · replace c64_8 : kN = 2 := (nI_eq (show kN < 2147483648 by omega) (show 2 < 2147483648 by omega)).mp c64_8
              refine lv_iload hx hb dX6_taken_67 (lv_at hl 0 rfl) ?_
              refine lv_iconst (v := nI 4) hx hb dX6_taken_69 (by decide) ?_
              refine lv_icmp_eq (tgt := 84) hx hb dX6_taken_70 (by decide) (fun c70_14 => ?_) (fun c70_14 => ?_)
              · replace c70_14 : kd J (4 * aN + bN) = 4 := (nI_eq (show kd J (4 * aN + bN) < 2147483648 by omega) (show 4 < 2147483648 by omega)).mp c70_14
                refine lv_iconst (v := nI 1) hx hb dX6_taken_84 (by decide) ?_
                refine lv_goto (tgt := 89) hx hb dX6_taken_85 (by decide) ?_
                refine lv_istore (lv' := [(5, .int (nI (1))), (4, .int (nI (kd J (4 * aN + bN)))), (0, .ref (ad 0 (0))), (1, .int (nI (aN))), (2, .int (nI (bN))), (3, .int (nI (kN)))]) hx hb dX6_taken_89 hl (by decide) rfl (fun ls hl => ?_)
                refine lv_iload hx hb dX6_taken_91 (lv_at hl 0 rfl) ?_
                refine lv_if_eq (tgt := 101) hx hb dX6_taken_93 (by decide) (fun h => absurd h (by decide)) (fun _ => ?_)
                refine lv_iload hx hb dX6_taken_96 (lv_at hl 1 rfl) ?_
                refine lv_goto (tgt := 103) hx hb dX6_taken_98 (by decide) ?_
                rw [hQ]
                exact g_iret (wd := wM G ad) hx hb hr rfl hlocks hW hS (by refine ⟨?_, rfl⟩; rw [if_pos (by simp [k_aN, k_bN, k_kN])]; simp only [t_aN, t_bN, t_kN, iu]; generalize kd J (4 * aN + bN) = kq at *; clear hQ; (simp [*] <;> omega)) dX6_taken_103
              · replace c70_14 : ¬ (kd J (4 * aN + bN) = 4) := fun h => c70_14 ((nI_eq (show kd J (4 * aN + bN) < 2147483648 by omega) (show 4 < 2147483648 by omega)).mpr h)
                refine lv_iload_n hx hb dX6_taken_73 rfl (lv_at hl 4 rfl) ?_
                refine lv_iconst (v := nI 3) hx hb dX6_taken_74 (by decide) ?_
                refine lv_icmp_ne (tgt := 88) hx hb dX6_taken_75 (by decide) (fun c75_16 => ?_) (fun c75_16 => ?_)
                · replace c75_16 : ¬ kN = 3 := fun h => c75_16 ((nI_eq (show kN < 2147483648 by omega) (show 3 < 2147483648 by omega)).mpr h)
                  refine lv_iconst (v := nI 0) hx hb dX6_taken_88 (by decide) ?_
                  refine lv_istore (lv' := [(5, .int (nI (0))), (4, .int (nI (kd J (4 * aN + bN)))), (0, .ref (ad 0 (0))), (1, .int (nI (aN))), (2, .int (nI (bN))), (3, .int (nI (kN)))]) hx hb dX6_taken_89 hl (by decide) rfl (fun ls hl => ?_)
                  refine lv_iload hx hb dX6_taken_91 (lv_at hl 0 rfl) ?_
                  refine lv_if_eq (tgt := 101) hx hb dX6_taken_93 (by decide) (fun _ => ?_) (fun h => absurd (by decide) h)
                  refine lv_bipush (v := (-13)) hx hb dX6_taken_101 (by decide) ?_
                  rw [hQ]
                  exact g_iret (wd := wM G ad) hx hb hr rfl hlocks hW hS (by refine ⟨?_, rfl⟩; rw [if_pos (by simp [k_aN, k_bN, k_kN])]; simp only [t_aN, t_bN, t_kN, iu]; generalize kd J (4 * aN + bN) = kq at *; clear hQ; (simp [*] <;> omega)) dX6_taken_103
                · replace c75_16 : kN = 3 := (nI_eq (show kN < 2147483648 by omega) (show 3 < 2147483648 by omega)).mp c75_16
                  refine lv_iload hx hb dX6_taken_78 (lv_at hl 0 rfl) ?_
                  refine lv_iconst (v := nI 5) hx hb dX6_taken_80 (by decide) ?_
                  refine lv_icmp_ne (tgt := 88) hx hb dX6_taken_81 (by decide) (fun c81_18 => ?_) (fun c81_18 => ?_)
                  · replace c81_18 : ¬ kd J (4 * aN + bN) = 5 := fun h => c81_18 ((nI_eq (show kd J (4 * aN + bN) < 2147483648 by omega) (show 5 < 2147483648 by omega)).mpr h)
                    refine lv_iconst (v := nI 0) hx hb dX6_taken_88 (by decide) ?_
                    refine lv_istore (lv' := [(5, .int (nI (0))), (4, .int (nI (kd J (4 * aN + bN)))), (0, .ref (ad 0 (0))), (1, .int (nI (aN))), (2, .int (nI (bN))), (3, .int (nI (kN)))]) hx hb dX6_taken_89 hl (by decide) rfl (fun ls hl => ?_)
                    refine lv_iload hx hb dX6_taken_91 (lv_at hl 0 rfl) ?_
                    refine lv_if_eq (tgt := 101) hx hb dX6_taken_93 (by decide) (fun _ => ?_) (fun h => absurd (by decide) h)
                    refine lv_bipush (v := (-13)) hx hb dX6_taken_101 (by decide) ?_
                    rw [hQ]
                    exact g_iret (wd := wM G ad) hx hb hr rfl hlocks hW hS (by refine ⟨?_, rfl⟩; rw [if_pos (by simp [k_aN, k_bN, k_kN])]; simp only [t_aN, t_bN, t_kN, iu]; generalize kd J (4 * aN + bN) = kq at *; clear hQ; (simp [*] <;> omega)) dX6_taken_103
                  · replace c81_18 : kd J (4 * aN + bN) = 5 := (nI_eq (show kd J (4 * aN + bN) < 2147483648 by omega) (show 5 < 2147483648 by omega)).mp c81_18
                    refine lv_iconst (v := nI 1) hx hb dX6_taken_84 (by decide) ?_
                    refine lv_goto (tgt := 89) hx hb dX6_taken_85 (by decide) ?_
                    refine lv_istore (lv' := [(5, .int (nI (1))), (4, .int (nI (kd J (4 * aN + bN)))), (0, .ref (ad 0 (0))), (1, .int (nI (aN))), (2, .int (nI (bN))), (3, .int (nI (kN)))]) hx hb dX6_taken_89 hl (by decide) rfl (fun ls hl => ?_)
                    refine lv_iload hx hb dX6_taken_91 (lv_at hl 0 rfl) ?_
                    refine lv_if_eq (tgt := 101) hx hb dX6_taken_93 (by decide) (fun h => absurd h (by decide)) (fun _ => ?_)
                    refine lv_iload hx hb dX6_taken_96 (lv_at hl 1 rfl) ?_
                    refine lv_goto (tgt := 103) hx hb dX6_taken_98 (by decide) ?_
                    rw [hQ]
                    exact g_iret (wd := wM G ad) hx hb hr rfl hlocks hW hS (by refine ⟨?_, rfl⟩; rw [if_pos (by simp [k_aN, k_bN, k_kN])]; simp only [t_aN, t_bN, t_kN, iu]; generalize kd J (4 * aN + bN) = kq at *; clear hQ; (simp [*] <;> omega)) dX6_taken_103
          · replace c47_7 : kN = 1 := (nI_eq (show kN < 2147483648 by omega) (show 1 < 2147483648 by omega)).mp c47_7
            refine lv_iload hx hb dX6_taken_50 (lv_at hl 0 rfl) ?_
            refine lv_iconst (v := nI 3) hx hb dX6_taken_52 (by decide) ?_
            refine lv_icmp_eq (tgt := 84) hx hb dX6_taken_53 (by decide) (fun c53_21 => ?_) (fun c53_21 => ?_)
            · replace c53_21 : kd J (4 * aN + bN) = 3 := (nI_eq (show kd J (4 * aN + bN) < 2147483648 by omega) (show 3 < 2147483648 by omega)).mp c53_21
              refine lv_iconst (v := nI 1) hx hb dX6_taken_84 (by decide) ?_
              refine lv_goto (tgt := 89) hx hb dX6_taken_85 (by decide) ?_
              refine lv_istore (lv' := [(5, .int (nI (1))), (4, .int (nI (kd J (4 * aN + bN)))), (0, .ref (ad 0 (0))), (1, .int (nI (aN))), (2, .int (nI (bN))), (3, .int (nI (kN)))]) hx hb dX6_taken_89 hl (by decide) rfl (fun ls hl => ?_)
              refine lv_iload hx hb dX6_taken_91 (lv_at hl 0 rfl) ?_
              refine lv_if_eq (tgt := 101) hx hb dX6_taken_93 (by decide) (fun h => absurd h (by decide)) (fun _ => ?_)
              refine lv_iload hx hb dX6_taken_96 (lv_at hl 1 rfl) ?_
              refine lv_goto (tgt := 103) hx hb dX6_taken_98 (by decide) ?_
              rw [hQ]
              exact g_iret (wd := wM G ad) hx hb hr rfl hlocks hW hS (by refine ⟨?_, rfl⟩; rw [if_pos (by simp [k_aN, k_bN, k_kN])]; simp only [t_aN, t_bN, t_kN, iu]; generalize kd J (4 * aN + bN) = kq at *; clear hQ; (simp [*] <;> omega)) dX6_taken_103
            · replace c53_21 : ¬ (kd J (4 * aN + bN) = 3) := fun h => c53_21 ((nI_eq (show kd J (4 * aN + bN) < 2147483648 by omega) (show 3 < 2147483648 by omega)).mpr h)
              refine lv_iload hx hb dX6_taken_56 (lv_at hl 0 rfl) ?_
              refine lv_iconst (v := nI 5) hx hb dX6_taken_58 (by decide) ?_
              refine lv_icmp_eq (tgt := 84) hx hb dX6_taken_59 (by decide) (fun c59_23 => ?_) (fun c59_23 => ?_)
              · replace c59_23 : kd J (4 * aN + bN) = 5 := (nI_eq (show kd J (4 * aN + bN) < 2147483648 by omega) (show 5 < 2147483648 by omega)).mp c59_23
                refine lv_iconst (v := nI 1) hx hb dX6_taken_84 (by decide) ?_
                refine lv_goto (tgt := 89) hx hb dX6_taken_85 (by decide) ?_
                refine lv_istore (lv' := [(5, .int (nI (1))), (4, .int (nI (kd J (4 * aN + bN)))), (0, .ref (ad 0 (0))), (1, .int (nI (aN))), (2, .int (nI (bN))), (3, .int (nI (kN)))]) hx hb dX6_taken_89 hl (by decide) rfl (fun ls hl => ?_)
                refine lv_iload hx hb dX6_taken_91 (lv_at hl 0 rfl) ?_
                refine lv_if_eq (tgt := 101) hx hb dX6_taken_93 (by decide) (fun h => absurd h (by decide)) (fun _ => ?_)
                refine lv_iload hx hb dX6_taken_96 (lv_at hl 1 rfl) ?_
                refine lv_goto (tgt := 103) hx hb dX6_taken_98 (by decide) ?_
                rw [hQ]
                exact g_iret (wd := wM G ad) hx hb hr rfl hlocks hW hS (by refine ⟨?_, rfl⟩; rw [if_pos (by simp [k_aN, k_bN, k_kN])]; simp only [t_aN, t_bN, t_kN, iu]; generalize kd J (4 * aN + bN) = kq at *; clear hQ; (simp [*] <;> omega)) dX6_taken_103
              · replace c59_23 : ¬ (kd J (4 * aN + bN) = 5) := fun h => c59_23 ((nI_eq (show kd J (4 * aN + bN) < 2147483648 by omega) (show 5 < 2147483648 by omega)).mpr h)
                refine lv_iload_n hx hb dX6_taken_62 rfl (lv_at hl 4 rfl) ?_
                refine lv_iconst (v := nI 2) hx hb dX6_taken_63 (by decide) ?_
                refine lv_icmp_ne (tgt := 73) hx hb dX6_taken_64 (by decide) (fun c64_25 => ?_) (fun c64_25 => ?_)
                · replace c64_25 : ¬ kN = 2 := fun h => c64_25 ((nI_eq (show kN < 2147483648 by omega) (show 2 < 2147483648 by omega)).mpr h)
                  refine lv_iload_n hx hb dX6_taken_73 rfl (lv_at hl 4 rfl) ?_
                  refine lv_iconst (v := nI 3) hx hb dX6_taken_74 (by decide) ?_
                  refine lv_icmp_ne (tgt := 88) hx hb dX6_taken_75 (by decide) (fun c75_26 => ?_) (fun c75_26 => ?_)
                  · replace c75_26 : ¬ kN = 3 := fun h => c75_26 ((nI_eq (show kN < 2147483648 by omega) (show 3 < 2147483648 by omega)).mpr h)
                    refine lv_iconst (v := nI 0) hx hb dX6_taken_88 (by decide) ?_
                    refine lv_istore (lv' := [(5, .int (nI (0))), (4, .int (nI (kd J (4 * aN + bN)))), (0, .ref (ad 0 (0))), (1, .int (nI (aN))), (2, .int (nI (bN))), (3, .int (nI (kN)))]) hx hb dX6_taken_89 hl (by decide) rfl (fun ls hl => ?_)
                    refine lv_iload hx hb dX6_taken_91 (lv_at hl 0 rfl) ?_
                    refine lv_if_eq (tgt := 101) hx hb dX6_taken_93 (by decide) (fun _ => ?_) (fun h => absurd (by decide) h)
                    refine lv_bipush (v := (-13)) hx hb dX6_taken_101 (by decide) ?_
                    rw [hQ]
                    exact g_iret (wd := wM G ad) hx hb hr rfl hlocks hW hS (by refine ⟨?_, rfl⟩; rw [if_pos (by simp [k_aN, k_bN, k_kN])]; simp only [t_aN, t_bN, t_kN, iu]; generalize kd J (4 * aN + bN) = kq at *; clear hQ; (simp [*] <;> omega)) dX6_taken_103
                  · replace c75_26 : kN = 3 := (nI_eq (show kN < 2147483648 by omega) (show 3 < 2147483648 by omega)).mp c75_26
                    refine lv_iload hx hb dX6_taken_78 (lv_at hl 0 rfl) ?_
                    refine lv_iconst (v := nI 5) hx hb dX6_taken_80 (by decide) ?_
                    refine lv_icmp_ne (tgt := 88) hx hb dX6_taken_81 (by decide) (fun c81_28 => ?_) (fun c81_28 => ?_)
                    · replace c81_28 : ¬ kd J (4 * aN + bN) = 5 := fun h => c81_28 ((nI_eq (show kd J (4 * aN + bN) < 2147483648 by omega) (show 5 < 2147483648 by omega)).mpr h)
                      refine lv_iconst (v := nI 0) hx hb dX6_taken_88 (by decide) ?_
                      refine lv_istore (lv' := [(5, .int (nI (0))), (4, .int (nI (kd J (4 * aN + bN)))), (0, .ref (ad 0 (0))), (1, .int (nI (aN))), (2, .int (nI (bN))), (3, .int (nI (kN)))]) hx hb dX6_taken_89 hl (by decide) rfl (fun ls hl => ?_)
                      refine lv_iload hx hb dX6_taken_91 (lv_at hl 0 rfl) ?_
                      refine lv_if_eq (tgt := 101) hx hb dX6_taken_93 (by decide) (fun _ => ?_) (fun h => absurd (by decide) h)
                      refine lv_bipush (v := (-13)) hx hb dX6_taken_101 (by decide) ?_
                      rw [hQ]
                      exact g_iret (wd := wM G ad) hx hb hr rfl hlocks hW hS (by refine ⟨?_, rfl⟩; rw [if_pos (by simp [k_aN, k_bN, k_kN])]; simp only [t_aN, t_bN, t_kN, iu]; generalize kd J (4 * aN + bN) = kq at *; clear hQ; (simp [*] <;> omega)) dX6_taken_103
                    · replace c81_28 : kd J (4 * aN + bN) = 5 := (nI_eq (show kd J (4 * aN + bN) < 2147483648 by omega) (show 5 < 2147483648 by omega)).mp c81_28
                      refine lv_iconst (v := nI 1) hx hb dX6_taken_84 (by decide) ?_
                      refine lv_goto (tgt := 89) hx hb dX6_taken_85 (by decide) ?_
                      refine lv_istore (lv' := [(5, .int (nI (1))), (4, .int (nI (kd J (4 * aN + bN)))), (0, .ref (ad 0 (0))), (1, .int (nI (aN))), (2, .int (nI (bN))), (3, .int (nI (kN)))]) hx hb dX6_taken_89 hl (by decide) rfl (fun ls hl => ?_)
                      refine lv_iload hx hb dX6_taken_91 (lv_at hl 0 rfl) ?_
                      refine lv_if_eq (tgt := 101) hx hb dX6_taken_93 (by decide) (fun h => absurd h (by decide)) (fun _ => ?_)
                      refine lv_iload hx hb dX6_taken_96 (lv_at hl 1 rfl) ?_
                      refine lv_goto (tgt := 103) hx hb dX6_taken_98 (by decide) ?_
                      rw [hQ]
                      exact g_iret (wd := wM G ad) hx hb hr rfl hlocks hW hS (by refine ⟨?_, rfl⟩; rw [if_pos (by simp [k_aN, k_bN, k_kN])]; simp only [t_aN, t_bN, t_kN, iu]; generalize kd J (4 * aN + bN) = kq at *; clear hQ; (simp [*] <;> omega)) dX6_taken_103
                · replace c64_25 : kN = 2 := (nI_eq (show kN < 2147483648 by omega) (show 2 < 2147483648 by omega)).mp c64_25
                  refine lv_iload hx hb dX6_taken_67 (lv_at hl 0 rfl) ?_
                  refine lv_iconst (v := nI 4) hx hb dX6_taken_69 (by decide) ?_
                  refine lv_icmp_eq (tgt := 84) hx hb dX6_taken_70 (by decide) (fun c70_31 => ?_) (fun c70_31 => ?_)
                  · replace c70_31 : kd J (4 * aN + bN) = 4 := (nI_eq (show kd J (4 * aN + bN) < 2147483648 by omega) (show 4 < 2147483648 by omega)).mp c70_31
                    refine lv_iconst (v := nI 1) hx hb dX6_taken_84 (by decide) ?_
                    refine lv_goto (tgt := 89) hx hb dX6_taken_85 (by decide) ?_
                    refine lv_istore (lv' := [(5, .int (nI (1))), (4, .int (nI (kd J (4 * aN + bN)))), (0, .ref (ad 0 (0))), (1, .int (nI (aN))), (2, .int (nI (bN))), (3, .int (nI (kN)))]) hx hb dX6_taken_89 hl (by decide) rfl (fun ls hl => ?_)
                    refine lv_iload hx hb dX6_taken_91 (lv_at hl 0 rfl) ?_
                    refine lv_if_eq (tgt := 101) hx hb dX6_taken_93 (by decide) (fun h => absurd h (by decide)) (fun _ => ?_)
                    refine lv_iload hx hb dX6_taken_96 (lv_at hl 1 rfl) ?_
                    refine lv_goto (tgt := 103) hx hb dX6_taken_98 (by decide) ?_
                    rw [hQ]
                    exact g_iret (wd := wM G ad) hx hb hr rfl hlocks hW hS (by refine ⟨?_, rfl⟩; rw [if_pos (by simp [k_aN, k_bN, k_kN])]; simp only [t_aN, t_bN, t_kN, iu]; generalize kd J (4 * aN + bN) = kq at *; clear hQ; (simp [*] <;> omega)) dX6_taken_103
                  · replace c70_31 : ¬ (kd J (4 * aN + bN) = 4) := fun h => c70_31 ((nI_eq (show kd J (4 * aN + bN) < 2147483648 by omega) (show 4 < 2147483648 by omega)).mpr h)
                    refine lv_iload_n hx hb dX6_taken_73 rfl (lv_at hl 4 rfl) ?_
                    refine lv_iconst (v := nI 3) hx hb dX6_taken_74 (by decide) ?_
                    refine lv_icmp_ne (tgt := 88) hx hb dX6_taken_75 (by decide) (fun c75_33 => ?_) (fun c75_33 => ?_)
                    · replace c75_33 : ¬ kN = 3 := fun h => c75_33 ((nI_eq (show kN < 2147483648 by omega) (show 3 < 2147483648 by omega)).mpr h)
                      refine lv_iconst (v := nI 0) hx hb dX6_taken_88 (by decide) ?_
                      refine lv_istore (lv' := [(5, .int (nI (0))), (4, .int (nI (kd J (4 * aN + bN)))), (0, .ref (ad 0 (0))), (1, .int (nI (aN))), (2, .int (nI (bN))), (3, .int (nI (kN)))]) hx hb dX6_taken_89 hl (by decide) rfl (fun ls hl => ?_)
                      refine lv_iload hx hb dX6_taken_91 (lv_at hl 0 rfl) ?_
                      refine lv_if_eq (tgt := 101) hx hb dX6_taken_93 (by decide) (fun _ => ?_) (fun h => absurd (by decide) h)
                      refine lv_bipush (v := (-13)) hx hb dX6_taken_101 (by decide) ?_
                      rw [hQ]
                      exact g_iret (wd := wM G ad) hx hb hr rfl hlocks hW hS (by refine ⟨?_, rfl⟩; rw [if_pos (by simp [k_aN, k_bN, k_kN])]; simp only [t_aN, t_bN, t_kN, iu]; generalize kd J (4 * aN + bN) = kq at *; clear hQ; (simp [*] <;> omega)) dX6_taken_103
                    · replace c75_33 : kN = 3 := (nI_eq (show kN < 2147483648 by omega) (show 3 < 2147483648 by omega)).mp c75_33
                      refine lv_iload hx hb dX6_taken_78 (lv_at hl 0 rfl) ?_
                      refine lv_iconst (v := nI 5) hx hb dX6_taken_80 (by decide) ?_
                      refine lv_icmp_ne (tgt := 88) hx hb dX6_taken_81 (by decide) (fun c81_35 => ?_) (fun c81_35 => ?_)
                      · replace c81_35 : ¬ kd J (4 * aN + bN) = 5 := fun h => c81_35 ((nI_eq (show kd J (4 * aN + bN) < 2147483648 by omega) (show 5 < 2147483648 by omega)).mpr h)
                        refine lv_iconst (v := nI 0) hx hb dX6_taken_88 (by decide) ?_
                        refine lv_istore (lv' := [(5, .int (nI (0))), (4, .int (nI (kd J (4 * aN + bN)))), (0, .ref (ad 0 (0))), (1, .int (nI (aN))), (2, .int (nI (bN))), (3, .int (nI (kN)))]) hx hb dX6_taken_89 hl (by decide) rfl (fun ls hl => ?_)
                        refine lv_iload hx hb dX6_taken_91 (lv_at hl 0 rfl) ?_
                        refine lv_if_eq (tgt := 101) hx hb dX6_taken_93 (by decide) (fun _ => ?_) (fun h => absurd (by decide) h)
                        refine lv_bipush (v := (-13)) hx hb dX6_taken_101 (by decide) ?_
                        rw [hQ]
                        exact g_iret (wd := wM G ad) hx hb hr rfl hlocks hW hS (by refine ⟨?_, rfl⟩; rw [if_pos (by simp [k_aN, k_bN, k_kN])]; simp only [t_aN, t_bN, t_kN, iu]; generalize kd J (4 * aN + bN) = kq at *; clear hQ; (simp [*] <;> omega)) dX6_taken_103
                      · replace c81_35 : kd J (4 * aN + bN) = 5 := (nI_eq (show kd J (4 * aN + bN) < 2147483648 by omega) (show 5 < 2147483648 by omega)).mp c81_35
                        refine lv_iconst (v := nI 1) hx hb dX6_taken_84 (by decide) ?_
                        refine lv_goto (tgt := 89) hx hb dX6_taken_85 (by decide) ?_
                        refine lv_istore (lv' := [(5, .int (nI (1))), (4, .int (nI (kd J (4 * aN + bN)))), (0, .ref (ad 0 (0))), (1, .int (nI (aN))), (2, .int (nI (bN))), (3, .int (nI (kN)))]) hx hb dX6_taken_89 hl (by decide) rfl (fun ls hl => ?_)
                        refine lv_iload hx hb dX6_taken_91 (lv_at hl 0 rfl) ?_
                        refine lv_if_eq (tgt := 101) hx hb dX6_taken_93 (by decide) (fun h => absurd h (by decide)) (fun _ => ?_)
                        refine lv_iload hx hb dX6_taken_96 (lv_at hl 1 rfl) ?_
                        refine lv_goto (tgt := 103) hx hb dX6_taken_98 (by decide) ?_
                        rw [hQ]
                        exact g_iret (wd := wM G ad) hx hb hr rfl hlocks hW hS (by refine ⟨?_, rfl⟩; rw [if_pos (by simp [k_aN, k_bN, k_kN])]; simp only [t_aN, t_bN, t_kN, iu]; generalize kd J (4 * aN + bN) = kq at *; clear hQ; (simp [*] <;> omega)) dX6_taken_103
    · replace c17_1 := bI_0.mp c17_1
      try simp only [decide_eq_true_eq, decide_eq_false_iff_not] at c17_1
      refine lv_bipush (v := (-2)) hx hb dX6_taken_20 (by decide) ?_
      rw [hQ]
      exact g_iret (wd := wM G ad) hx hb hr rfl hlocks hW hS (by skip; refine ⟨?_, ?_⟩ <;> simp [k_aN, k_bN, c17_1]) dX6_taken_22


set_option maxHeartbeats 4000000 in
set_option maxRecDepth 100000 in
theorem c_X6_worthOf (l : Launch) (D : va_G) (G : Nat → ClassId) (ad : Nat → Nat → Nat) (hI : wI LM ad) (J : St) (a o k6 : Nat) (ha : a < 33) (hk6 : k6 < 6) (hM : okM J) : Met l yX6_worthOf wsX6_worthOf ({ frames := 3, cells := 0, slots := 0, locals := 80 } : Room) (gPre D G LM ad [.ref (ad 0 (0)), .int (nI (a)), .int (nI (o)), .int (nI (k6))] (wM G ad J)) (gQl D LM ad (wM G ad) (fun r9 u => r9 = wth (V J) a o k6 ∧ u = J)) 0 0 (wA LM ad) := by
  refine g_entry (C := RX6) (cc := cX6_worthOf) (maxL := 14) (ret := (some .long)) rfl (by decide) rfl (Nat.le_of_ble_eq_true rfl) (fun p e s m args below meth c Q ls hQ hx hb hr hts hown hlocks hml hW hK hl => ?_)
  have hl : lv_has ls 14 [(0, .ref (ad 0 (0))), (1, .int (nI (a))), (2, .int (nI (o))), (3, .int (nI (k6)))] := hl
  have hS := va_S.rf (A := wA LM ad) (H0 := s.heap)
  have hinX6 : ∀ w ∈ wsX60, w ∈ wsX6_worthOf := by decide +kernel
  have hf9 := hts (.fieldLink RX6 9 "JoinedStoresModel" "made" "[I") (by decide +kernel)
  have hf15 := hts (.fieldLink RX6 15 "JoinedStoresModel" "values" "[[I") (by decide +kernel)
  have hf18 := hts (.fieldLink RX6 18 "JoinedStoresModel" "stamps" "[[I") (by decide +kernel)
  have hf21 := hts (.fieldLink RX6 21 "JoinedStoresModel" "objects" "[[I") (by decide +kernel)
  have hf30 := hts (.fieldLink RX6 30 "JoinedStoresModel" "alive" "[[I") (by decide +kernel)
  refine lv_iconst (v := nI 0) hx hb dX6_worthOf_0 (by decide) ?_
  refine lv_istore (lv' := [(4, .int (nI (0))), (0, .ref (ad 0 (0))), (1, .int (nI (a))), (2, .int (nI (o))), (3, .int (nI (k6)))]) hx hb dX6_worthOf_1 hl (by decide) rfl (fun ls hl => ?_)
  refine lv_lconst (v := lN 0) hx hb dX6_worthOf_3 (by decide) ?_
  refine lv_lstore (lv' := [(5, .long (lN 0)), (4, .int (nI (0))), (0, .ref (ad 0 (0))), (1, .int (nI (a))), (2, .int (nI (o))), (3, .int (nI (k6)))]) hx hb dX6_worthOf_4 hl (by decide) rfl (fun ls hl => ?_)
  refine lv_iconst (v := nI 0) hx hb dX6_worthOf_6 (by decide) ?_
  refine lv_istore (lv' := [(7, .int (nI (0))), (5, .long (lN 0)), (4, .int (nI (0))), (0, .ref (ad 0 (0))), (1, .int (nI (a))), (2, .int (nI (o))), (3, .int (nI (k6)))]) hx hb dX6_worthOf_7 hl (by decide) rfl (fun ls hl => ?_)
  refine lv_iconst (v := nI 0) hx hb dX6_worthOf_9 (by decide) ?_
  refine lv_istore (lv' := [(8, .int (nI (0))), (7, .int (nI (0))), (5, .long (lN 0)), (4, .int (nI (0))), (0, .ref (ad 0 (0))), (1, .int (nI (a))), (2, .int (nI (o))), (3, .int (nI (k6)))]) hx hb dX6_worthOf_10 hl (by decide) rfl (fun ls hl => ?_)
  refine lv_iconst (v := nI 0) hx hb dX6_worthOf_12 (by decide) ?_
  refine lv_istore (lv' := [(9, .int (nI (0))), (8, .int (nI (0))), (7, .int (nI (0))), (5, .long (lN 0)), (4, .int (nI (0))), (0, .ref (ad 0 (0))), (1, .int (nI (a))), (2, .int (nI (o))), (3, .int (nI (k6)))]) hx hb dX6_worthOf_13 hl (by decide) rfl (fun ls hl => ?_)
  refine lv_fconst0 hx hb dX6_worthOf_15 ?_
  refine lv_fstore (lv' := [(10, .float (FP.fconst0)), (9, .int (nI (0))), (8, .int (nI (0))), (7, .int (nI (0))), (5, .long (lN 0)), (4, .int (nI (0))), (0, .ref (ad 0 (0))), (1, .int (nI (a))), (2, .int (nI (o))), (3, .int (nI (k6)))]) hx hb dX6_worthOf_16 hl (by decide) rfl (fun ls hl => ?_)
  refine lv_iconst (v := nI 0) hx hb dX6_worthOf_18 (by decide) ?_
  refine lv_istore (lv' := [(11, .int (nI (0))), (10, .float (FP.fconst0)), (9, .int (nI (0))), (8, .int (nI (0))), (7, .int (nI (0))), (5, .long (lN 0)), (4, .int (nI (0))), (0, .ref (ad 0 (0))), (1, .int (nI (a))), (2, .int (nI (o))), (3, .int (nI (k6)))]) hx hb dX6_worthOf_19 hl (by decide) rfl (fun ls hl => ?_)
  have K21 : ∀ (n : Nat) (r : Nat) (z : Nat) (sm : Int64) (mo : Int32) (la : Int32) (sp : Int32) (fl : UInt32), (r ≤ 4) → (WI J (flt (V J) a o (als (V J) r)) z sm mo la sp fl) → 4 < r + n → ∀ (H : Heap) (locs : List Loc), va_P D vwCl (wS LM ad (wM G ad J)) H → va_S (wA LM ad) s.heap H locs → ∀ (ls : Array Slot), lv_has ls 14 [(11, .int (nI (r))), (10, .float (fl)), (9, .int (sp)), (8, .int (la)), (7, .int (mo)), (5, .long (sm)), (4, .int (nI (z))), (0, .ref (ad 0 (0))), (1, .int (nI (a))), (2, .int (nI (o))), (3, .int (nI (k6)))] → W p l e ({ frames := 3, cells := 0, slots := 0, locals := 80 } : Room) s m args below meth c H locs 0 0 Q (F0 m 21 ls []) := by
    intro n21
    induction n21 with
    | zero => intro r z sm mo la sp fl hr4 hw hfu; exact absurd hfu (by omega)
    | succ n21 ih21 =>
      intro r z sm mo la sp fl hr4 hw hfu H locs hW hS ls hl
      refine lv_iload hx hb dX6_worthOf_21 (lv_at hl 0 rfl) ?_
      refine lv_iconst (v := nI 4) hx hb dX6_worthOf_23 (by decide) ?_
      refine lv_icmp_ge (tgt := 169) hx hb dX6_worthOf_24 (by decide) (fun c24_0 => ?_) (fun c24_0 => ?_)
      · replace c24_0 : 4 ≤ r := (nI_leI (show 4 < 2147483648 by omega) (show r < 2147483648 by omega)).mp c24_0
        have hle : (flt (V J) a o (als (V J) r)).length ≤ 124 := Nat.le_trans (flt_len _ _ _ _) (by have q1 := als_len (I := V J) hM r hr4; omega)
        have hzz := hw.z
        refine lv_iload_n hx hb dX6_worthOf_169 rfl (lv_at hl 10 rfl) ?_
        refine lv_iconst (v := nI 2) hx hb dX6_worthOf_170 (by decide) ?_
        refine lv_icmp_ge (tgt := 180) hx hb dX6_worthOf_171 (by decide) (fun c171_1 => ?_) (fun c171_1 => ?_)
        · replace c171_1 : 2 ≤ k6 := (nI_leI (show 2 < 2147483648 by omega) (show k6 < 2147483648 by omega)).mp c171_1
          refine lv_iload_n hx hb dX6_worthOf_180 rfl (lv_at hl 10 rfl) ?_
          refine lv_iconst (v := nI 2) hx hb dX6_worthOf_181 (by decide) ?_
          refine lv_icmp_ne (tgt := 190) hx hb dX6_worthOf_182 (by decide) (fun c182_2 => ?_) (fun c182_2 => ?_)
          · replace c182_2 : ¬ k6 = 2 := fun h => c182_2 ((nI_eq (show k6 < 2147483648 by omega) (show 2 < 2147483648 by omega)).mpr h)
            refine lv_iload_n hx hb dX6_worthOf_190 rfl (lv_at hl 10 rfl) ?_
            refine lv_iconst (v := nI 3) hx hb dX6_worthOf_191 (by decide) ?_
            refine lv_icmp_ne (tgt := 201) hx hb dX6_worthOf_192 (by decide) (fun c192_3 => ?_) (fun c192_3 => ?_)
            · replace c192_3 : ¬ k6 = 3 := fun h => c192_3 ((nI_eq (show k6 < 2147483648 by omega) (show 3 < 2147483648 by omega)).mpr h)
              refine lv_iload_n hx hb dX6_worthOf_201 rfl (lv_at hl 10 rfl) ?_
              refine lv_iconst (v := nI 4) hx hb dX6_worthOf_202 (by decide) ?_
              refine lv_icmp_ne (tgt := 212) hx hb dX6_worthOf_203 (by decide) (fun c203_4 => ?_) (fun c203_4 => ?_)
              · replace c203_4 : ¬ k6 = 4 := fun h => c203_4 ((nI_eq (show k6 < 2147483648 by omega) (show 4 < 2147483648 by omega)).mpr h)
                refine lv_iload hx hb dX6_worthOf_212 (lv_at hl 6 rfl) ?_
                refine lv_if_ne (tgt := 221) hx hb dX6_worthOf_214 (by decide) (fun c214_5 => ?_) (fun c214_5 => ?_)
                · replace c214_5 : ¬ z = 0 := fun h => c214_5 ((nI_eq (show z < 2147483648 by omega) (show 0 < 2147483648 by omega)).mpr h)
                  refine lv_fload hx hb dX6_worthOf_221 (lv_at hl 1 rfl) ?_
                  refine lv_iload hx hb dX6_worthOf_223 (lv_at hl 6 rfl) ?_
                  refine lv_i2f hx hb dX6_worthOf_225 ?_
                  have hfo : okF (FP.fdiv fl (FP.i2f (nI (z)))) := by rw [hw.f, hw.z]; exact fmean_ok _ _ hle (by have := hw.z; omega)
                  refine lv_fdiv hx hb dX6_worthOf_226 (okF_nn hfo) ?_
                  refine g_pi (va_runS (As := [.float (FP.fdiv fl (FP.i2f (nI (z))))]) (rest := []) ⟨hx, hb, hml, hown, hts⟩ (c_Jxf58ca_floatToIntBits_5c35a l (FP.fdiv fl (FP.i2f (nI (z)))) hfo) (va_cwS 1 hts gX6_worthOf_Jxf58ca_floatToIntBits_5c35a rfl rfl rfl (by decide +kernel) ⟨Nat.le_of_ble_eq_true rfl, Nat.le_of_ble_eq_true rfl⟩) p_preS rfl rfl hl.1 rfl (lv_room (Nat.le_of_ble_eq_true rfl)) dX6_worthOf_227 ⟨Nat.le_refl _, Nat.le_refl _⟩) hW hS (fun H locs hW hS => ?_)
                  refine lv_i2l hx hb dX6_worthOf_230 rfl ?_
                  rw [hQ]
                  exact g_lret (wd := wM G ad) hx hb hr hlocks hW hS (by have e4 : r = 4 := (by omega); subst e4; refine ⟨?_, rfl⟩; have hz9 := hw.z; rw [wth, if_neg (by omega), if_neg (by omega), if_neg (by omega), if_pos (by omega), menR, if_neg (by show ¬ (flt (V J) a o (als (V J) 4)).length = 0; omega), hw.f, hw.z]; rfl) dX6_worthOf_231
                · replace c214_5 : z = 0 := (nI_eq (show z < 2147483648 by omega) (show 0 < 2147483648 by omega)).mp c214_5
                  refine lv_lconst (v := lN 0) hx hb dX6_worthOf_217 (by decide) ?_
                  refine lv_goto (tgt := 231) hx hb dX6_worthOf_218 (by decide) ?_
                  rw [hQ]
                  exact g_lret (wd := wM G ad) hx hb hr hlocks hW hS (by have e4 : r = 4 := (by omega); subst e4; refine ⟨?_, rfl⟩; have hz9 := hw.z; rw [wth, if_neg (by omega), if_neg (by omega), if_neg (by omega), if_pos (by omega), menR, if_pos (by show (flt (V J) a o (als (V J) 4)).length = 0; omega)]; decide +kernel) dX6_worthOf_231
              · replace c203_4 : k6 = 4 := (nI_eq (show k6 < 2147483648 by omega) (show 4 < 2147483648 by omega)).mp c203_4
                refine lv_iload hx hb dX6_worthOf_206 (lv_at hl 4 rfl) ?_
                refine lv_i2l hx hb dX6_worthOf_208 rfl ?_
                refine lv_goto (tgt := 231) hx hb dX6_worthOf_209 (by decide) ?_
                rw [hQ]
                exact g_lret (wd := wM G ad) hx hb hr hlocks hW hS (by have e4 : r = 4 := (by omega); subst e4; refine ⟨?_, rfl⟩; rw [wth, if_neg (by omega), if_neg (by omega), if_pos (by omega), hw.m]; rfl) dX6_worthOf_231
            · replace c192_3 : k6 = 3 := (nI_eq (show k6 < 2147483648 by omega) (show 3 < 2147483648 by omega)).mp c192_3
              refine lv_iload hx hb dX6_worthOf_195 (lv_at hl 3 rfl) ?_
              refine lv_i2l hx hb dX6_worthOf_197 rfl ?_
              refine lv_goto (tgt := 231) hx hb dX6_worthOf_198 (by decide) ?_
              rw [hQ]
              exact g_lret (wd := wM G ad) hx hb hr hlocks hW hS (by have e4 : r = 4 := (by omega); subst e4; refine ⟨?_, rfl⟩; rw [wth, if_neg (by omega), if_pos (by omega)]; exact congrArg (fun q9 => q9.2.toInt64) hw.l) dX6_worthOf_231
          · replace c182_2 : k6 = 2 := (nI_eq (show k6 < 2147483648 by omega) (show 2 < 2147483648 by omega)).mp c182_2
            refine lv_lload hx hb dX6_worthOf_185 (lv_at hl 5 rfl) ?_
            refine lv_goto (tgt := 231) hx hb dX6_worthOf_187 (by decide) ?_
            rw [hQ]
            exact g_lret (wd := wM G ad) hx hb hr hlocks hW hS (by have e4 : r = 4 := (by omega); subst e4; refine ⟨?_, rfl⟩; rw [wth, if_pos (by omega), hw.s]; rfl) dX6_worthOf_231
        · replace c171_1 : ¬ (2 ≤ k6) := fun h => c171_1 ((nI_leI (show 2 < 2147483648 by omega) (show k6 < 2147483648 by omega)).mpr h)
          refine lv_iload hx hb dX6_worthOf_174 (lv_at hl 6 rfl) ?_
          refine lv_i2l hx hb dX6_worthOf_176 rfl ?_
          refine lv_goto (tgt := 231) hx hb dX6_worthOf_177 (by decide) ?_
          rw [hQ]
          exact g_lret (wd := wM G ad) hx hb hr hlocks hW hS (by have e4 : r = 4 := (by omega); subst e4; refine ⟨?_, rfl⟩; rw [wth, if_neg (by omega), if_neg (by omega), if_neg (by omega), if_neg (by omega), hw.z]; rfl) dX6_worthOf_231
      · replace c24_0 : ¬ (4 ≤ r) := fun h => c24_0 ((nI_leI (show 4 < 2147483648 by omega) (show r < 2147483648 by omega)).mpr h)
        refine lv_iconst (v := nI 0) hx hb dX6_worthOf_27 (by decide) ?_
        refine lv_istore (lv' := [(12, .int (nI (0))), (11, .int (nI (r))), (10, .float (fl)), (9, .int (sp)), (8, .int (la)), (7, .int (mo)), (5, .long (sm)), (4, .int (nI (z))), (0, .ref (ad 0 (0))), (1, .int (nI (a))), (2, .int (nI (o))), (3, .int (nI (k6)))]) hx hb dX6_worthOf_28 hl (by decide) rfl (fun ls hl => ?_)
        have K30 : ∀ (n : Nat) (k : Nat) (z : Nat) (sm : Int64) (mo : Int32) (la : Int32) (sp : Int32) (fl : UInt32), (k ≤ mk J r) → (WI J (flt (V J) a o (als (V J) r ++ rowl k r)) z sm mo la sp fl) → (mk J r) < k + n → ∀ (H : Heap) (locs : List Loc), va_P D vwCl (wS LM ad (wM G ad J)) H → va_S (wA LM ad) s.heap H locs → ∀ (ls : Array Slot), lv_has ls 14 [(12, .int (nI (k))), (11, .int (nI (r))), (10, .float (fl)), (9, .int (sp)), (8, .int (la)), (7, .int (mo)), (5, .long (sm)), (4, .int (nI (z))), (0, .ref (ad 0 (0))), (1, .int (nI (a))), (2, .int (nI (o))), (3, .int (nI (k6)))] → W p l e ({ frames := 3, cells := 0, slots := 0, locals := 80 } : Room) s m args below meth c H locs 0 0 Q (F0 m 30 ls []) := by
          intro n30
          induction n30 with
          | zero => intro k z sm mo la sp fl hk hw hfu; exact absurd hfu (by omega)
          | succ n30 ih30 =>
            intro k z sm mo la sp fl hk hw hfu H locs hW hS ls hl
            refine lv_iload hx hb dX6_worthOf_30 (lv_at hl 0 rfl) ?_
            refine lv_aload_n hx hb dX6_worthOf_32 rfl (lv_at hl 8 rfl) ?_
            refine r_get hx hb hts hown hK hW 0 (0) 0 (mM (by decide) (by decide)) rfl rfl hinX6 (by decide) hf9 rfl rfl dX6_worthOf_33 ?_
            refine lv_iload hx hb dX6_worthOf_36 (lv_at hl 1 rfl) ?_
            refine rM_iald hx hb hK hW 12 (0) (r) (by decide) (by decide) (by decide) (show r < 4 by omega) rfl dX6_worthOf_38 (fun x7 ex7 => ?_)
            have hm_r := (hM r (by omega)).2
            refine r_top (show x7 = nI (mk J r) from (ex7.trans ((hM r (by omega)).1))) ?_
            refine lv_icmp_ge (tgt := 163) hx hb dX6_worthOf_39 (by decide) (fun c39_7 => ?_) (fun c39_7 => ?_)
            · replace c39_7 : mk J r ≤ k := (nI_leI (show mk J r < 2147483648 by omega) (show k < 2147483648 by omega)).mp c39_7
              refine lv_iinc (v := nI (r + 1)) (lv' := [(11, .int (nI (r + 1))), (12, .int (nI (k))), (10, .float (fl)), (9, .int (sp)), (8, .int (la)), (7, .int (mo)), (5, .long (sm)), (4, .int (nI (z))), (0, .ref (ad 0 (0))), (1, .int (nI (a))), (2, .int (nI (o))), (3, .int (nI (k6)))]) hx hb dX6_worthOf_163 hl (k := 1) rfl (nI_inc r 1) (by decide) rfl (fun ls hl => ?_)
              refine lv_goto (tgt := 21) hx hb dX6_worthOf_166 (by decide) ?_
              exact ih21 (r + 1) (z) (sm) (mo) (la) (sp) (fl) (by omega) (by have e9 : k = mk J r := (by omega); subst e9; exact hw) (by omega) _ _ hW hS _ (lv_sub hl [0, 2, 3, 4, 5, 6, 7, 8, 9, 10, 11] rfl)
            · replace c39_7 : ¬ (mk J r ≤ k) := fun h => c39_7 ((nI_leI (show mk J r < 2147483648 by omega) (show k < 2147483648 by omega)).mpr h)
              have hd1 : (r * 31 + k) / 31 = r := by omega
              have hd2 : (r * 31 + k) % 31 = k := by omega
              refine lv_aload_n hx hb dX6_worthOf_42 rfl (lv_at hl 8 rfl) ?_
              refine r_get hx hb hts hown hK hW 0 (0) 6 (mM (by decide) (by decide)) rfl rfl hinX6 (by decide) hf30 rfl rfl dX6_worthOf_43 ?_
              refine lv_iload_n hx hb dX6_worthOf_46 rfl (lv_at hl 9 rfl) ?_
              refine r_aaldI hx hb hK hW 1 4 (a) (mM (by decide) (by decide)) rfl (show a < 33 by omega) (by decide) rfl rfl dX6_worthOf_47 ?_
              refine lv_iload hx hb dX6_worthOf_48 (lv_at hl 1 rfl) ?_
              refine rM_iald hx hb hK hW 11 (a) (r) (by decide) (by decide) (show a < 33 by omega) (show r < 4 by omega) rfl dX6_worthOf_50 (fun x9 ex9 => ?_)
              refine lv_iload hx hb dX6_worthOf_51 (lv_at hl 0 rfl) ?_
              refine lv_ishr hx hb dX6_worthOf_53 (lv_topi (fun x10 ex10 => ?_))
              refine lv_iconst (v := nI 1) hx hb dX6_worthOf_54 (by decide) ?_
              refine lv_iand hx hb dX6_worthOf_55 (lv_topi (fun x11 ex11 => ?_))
              refine lv_if_eq (tgt := 157) hx hb dX6_worthOf_56 (by decide) (fun c56_11 => ?_) (fun c56_11 => ?_)
              · have hgn : ¬ gp (V J) a o (r * 31 + k) = true := by rw [gpV hd1 hd2, sb_0]; subst ex11 ex10 ex9 ex7; have c9 := b01.mp c56_11; simp [c9]
                refine lv_iinc (v := nI (k + 1)) (lv' := [(12, .int (nI (k + 1))), (11, .int (nI (r))), (10, .float (fl)), (9, .int (sp)), (8, .int (la)), (7, .int (mo)), (5, .long (sm)), (4, .int (nI (z))), (0, .ref (ad 0 (0))), (1, .int (nI (a))), (2, .int (nI (o))), (3, .int (nI (k6)))]) hx hb dX6_worthOf_157 hl (k := 0) rfl (nI_inc k 1) (by decide) rfl (fun ls hl => ?_)
                refine lv_goto (tgt := 30) hx hb dX6_worthOf_160 (by decide) ?_
                exact ih30 (k + 1) (z) (sm) (mo) (la) (sp) (fl) (by omega) (by rw [rowl_s, ← List.append_assoc, flt_snoc, if_neg hgn]; exact hw) (by omega) _ _ hW hS _ (lv_sub hl [0, 1, 2, 3, 4, 5, 6, 7, 8, 9, 10, 11] rfl)
              · refine lv_aload_n hx hb dX6_worthOf_59 rfl (lv_at hl 8 rfl) ?_
                refine r_get hx hb hts hown hK hW 0 (0) 3 (mM (by decide) (by decide)) rfl rfl hinX6 (by decide) hf21 rfl rfl dX6_worthOf_60 ?_
                refine lv_iload hx hb dX6_worthOf_63 (lv_at hl 1 rfl) ?_
                refine r_aaldI hx hb hK hW 1 2 (r) (mM (by decide) (by decide)) rfl (show r < 4 by omega) (by decide) rfl rfl dX6_worthOf_65 ?_
                refine lv_iload hx hb dX6_worthOf_66 (lv_at hl 0 rfl) ?_
                refine rM_iald hx hb hK hW 15 (r) (k) (by decide) (by decide) (show r < 4 by omega) (show k < 31 by omega) rfl dX6_worthOf_68 (fun x13 ex13 => ?_)
                refine lv_iload_n hx hb dX6_worthOf_69 rfl (lv_at hl 10 rfl) ?_
                refine lv_icmp_eq (tgt := 76) hx hb dX6_worthOf_70 (by decide) (fun c70_13 => ?_) (fun c70_13 => ?_)
                · have hgp : gp (V J) a o (r * 31 + k) = true := by rw [gpV hd1 hd2, sb_0]; have c9 := c70_13; have c8 := c56_11; subst ex13 ex11 ex10 ex9 ex7; rw [b01, Classical.not_not] at c8; simp [c9, c8]
                  have hlen : (flt (V J) a o (als (V J) r ++ rowl k r)).length < 124 := Nat.lt_of_le_of_lt (flt_len _ _ _ _) (by have q1 := als_len (I := V J) hM r hr4; simp only [List.length_append, rowl_len]; omega)
                  have hzz := hw.z
                  refine lv_aload_n hx hb dX6_worthOf_76 rfl (lv_at hl 8 rfl) ?_
                  refine r_get hx hb hts hown hK hW 0 (0) 1 (mM (by decide) (by decide)) rfl rfl hinX6 (by decide) hf15 rfl rfl dX6_worthOf_77 ?_
                  refine lv_iload hx hb dX6_worthOf_80 (lv_at hl 1 rfl) ?_
                  refine r_aaldI hx hb hK hW 1 0 (r) (mM (by decide) (by decide)) rfl (show r < 4 by omega) (by decide) rfl rfl dX6_worthOf_82 ?_
                  refine lv_iload hx hb dX6_worthOf_83 (lv_at hl 0 rfl) ?_
                  refine rM_iald hx hb hK hW 13 (r) (k) (by decide) (by decide) (show r < 4 by omega) (show k < 31 by omega) rfl dX6_worthOf_85 (fun x15 ex15 => ?_)
                  refine lv_istore (lv' := [(13, .int (x15)), (12, .int (nI (k))), (11, .int (nI (r))), (10, .float (fl)), (9, .int (sp)), (8, .int (la)), (7, .int (mo)), (5, .long (sm)), (4, .int (nI (z))), (0, .ref (ad 0 (0))), (1, .int (nI (a))), (2, .int (nI (o))), (3, .int (nI (k6)))]) hx hb dX6_worthOf_86 hl (by decide) rfl (fun ls hl => ?_)
                  refine lv_lload hx hb dX6_worthOf_88 (lv_at hl 7 rfl) ?_
                  refine lv_iload hx hb dX6_worthOf_90 (lv_at hl 0 rfl) ?_
                  refine lv_i2l hx hb dX6_worthOf_92 rfl ?_
                  refine lv_ladd hx hb dX6_worthOf_93 ?_
                  refine lv_lstore (lv' := [(5, .long (sm + x15.toInt64)), (13, .int (x15)), (12, .int (nI (k))), (11, .int (nI (r))), (10, .float (fl)), (9, .int (sp)), (8, .int (la)), (7, .int (mo)), (4, .int (nI (z))), (0, .ref (ad 0 (0))), (1, .int (nI (a))), (2, .int (nI (o))), (3, .int (nI (k6)))]) hx hb dX6_worthOf_94 hl (by decide) rfl (fun ls hl => ?_)
                  refine lv_fload hx hb dX6_worthOf_96 (lv_at hl 4 rfl) ?_
                  refine lv_iload hx hb dX6_worthOf_98 (lv_at hl 1 rfl) ?_
                  refine lv_i2f hx hb dX6_worthOf_100 ?_
                  refine lv_fadd hx hb dX6_worthOf_101 (by rw [hw.f]; exact fsum_nn _ _ _ hlen) ?_
                  refine lv_fstore (lv' := [(10, .float (FP.fadd fl (FP.i2f x15))), (5, .long (sm + x15.toInt64)), (13, .int (x15)), (12, .int (nI (k))), (11, .int (nI (r))), (9, .int (sp)), (8, .int (la)), (7, .int (mo)), (4, .int (nI (z))), (0, .ref (ad 0 (0))), (1, .int (nI (a))), (2, .int (nI (o))), (3, .int (nI (k6)))]) hx hb dX6_worthOf_102 hl (by decide) rfl (fun ls hl => ?_)
                  refine lv_iload hx hb dX6_worthOf_104 (lv_at hl 8 rfl) ?_
                  refine lv_if_ne (tgt := 114) hx hb dX6_worthOf_106 (by decide) (fun c106_15 => ?_) (fun c106_15 => ?_)
                  · replace c106_15 : ¬ z = 0 := fun h => c106_15 ((nI_eq (show z < 2147483648 by omega) (show 0 < 2147483648 by omega)).mpr h)
                    refine lv_iload hx hb dX6_worthOf_114 (lv_at hl 7 rfl) ?_
                    refine lv_iload hx hb dX6_worthOf_116 (lv_at hl 2 rfl) ?_
                    refine va_mmax hx hb (hml.trans hl.1.symm) hown (hts (.methodLink RX6 125 Lib.Math.max.name) (by decide +kernel)) (hts (.static Lib.Math.max.name) (by decide +kernel)) (hts (.initialized "java/lang/Math") (by decide +kernel)) (hts (.code Lib.Math.max.name Lib.Math.max.code 2 (some .int)) (by decide +kernel)) (by decide) (by decide) (Nat.zero_le _) (Nat.zero_le _) dX6_worthOf_118 (lv_topi (fun x17 ex17 => ?_))
                    refine lv_istore (lv' := [(7, .int (x17)), (10, .float (FP.fadd fl (FP.i2f x15))), (5, .long (sm + x15.toInt64)), (13, .int (x15)), (12, .int (nI (k))), (11, .int (nI (r))), (9, .int (sp)), (8, .int (la)), (4, .int (nI (z))), (0, .ref (ad 0 (0))), (1, .int (nI (a))), (2, .int (nI (o))), (3, .int (nI (k6)))]) hx hb dX6_worthOf_121 hl (by decide) rfl (fun ls hl => ?_)
                    refine lv_aload_n hx hb dX6_worthOf_123 rfl (lv_at hl 9 rfl) ?_
                    refine r_get hx hb hts hown hK hW 0 (0) 2 (mM (by decide) (by decide)) rfl rfl hinX6 (by decide) hf18 rfl rfl dX6_worthOf_124 ?_
                    refine lv_iload hx hb dX6_worthOf_127 (lv_at hl 5 rfl) ?_
                    refine r_aaldI hx hb hK hW 1 1 (r) (mM (by decide) (by decide)) rfl (show r < 4 by omega) (by decide) rfl rfl dX6_worthOf_129 ?_
                    refine lv_iload hx hb dX6_worthOf_130 (lv_at hl 4 rfl) ?_
                    refine rM_iald hx hb hK hW 14 (r) (k) (by decide) (by decide) (show r < 4 by omega) (show k < 31 by omega) rfl dX6_worthOf_132 (fun x18 ex18 => ?_)
                    refine lv_iload hx hb dX6_worthOf_133 (lv_at hl 6 rfl) ?_
                    refine lv_icmp_lt (tgt := 154) hx hb dX6_worthOf_135 (by decide) (fun c135_18 => ?_) (fun c135_18 => ?_)
                    · refine lv_iinc (v := nI (z + 1)) (lv' := [(4, .int (nI (z + 1))), (7, .int (x17)), (10, .float (FP.fadd fl (FP.i2f x15))), (5, .long (sm + x15.toInt64)), (13, .int (x15)), (12, .int (nI (k))), (11, .int (nI (r))), (9, .int (sp)), (8, .int (la)), (0, .ref (ad 0 (0))), (1, .int (nI (a))), (2, .int (nI (o))), (3, .int (nI (k6)))]) hx hb dX6_worthOf_154 hl (k := 8) rfl (nI_inc z 1) (by decide) rfl (fun ls hl => ?_)
                      refine lv_iinc (v := nI (k + 1)) (lv' := [(12, .int (nI (k + 1))), (4, .int (nI (z + 1))), (7, .int (x17)), (10, .float (FP.fadd fl (FP.i2f x15))), (5, .long (sm + x15.toInt64)), (13, .int (x15)), (11, .int (nI (r))), (9, .int (sp)), (8, .int (la)), (0, .ref (ad 0 (0))), (1, .int (nI (a))), (2, .int (nI (o))), (3, .int (nI (k6)))]) hx hb dX6_worthOf_157 hl (k := 5) rfl (nI_inc k 1) (by decide) rfl (fun ls hl => ?_)
                      refine lv_goto (tgt := 30) hx hb dX6_worthOf_160 (by decide) ?_
                      exact ih30 (k + 1) (z + 1) (sm + x15.toInt64) (x17) (la) (sp) (FP.fadd fl (FP.i2f x15)) (by omega) (by rw [rowl_s, ← List.append_assoc, flt_snoc, if_pos hgp]; exact WI_s hw (ex15.trans (V13 hd1 hd2)) (ex18.trans (V14 hd1 hd2)) (by rw [if_neg c106_15]; exact ex17) (by have c9 := c135_18; rw [if_neg (Int32.not_le.mpr c9)])) (by omega) _ _ hW hS _ (lv_sub hl [0, 6, 3, 7, 8, 2, 4, 1, 9, 10, 11, 12] rfl)
                    · refine lv_aload_n hx hb dX6_worthOf_138 rfl (lv_at hl 9 rfl) ?_
                      refine r_get hx hb hts hown hK hW 0 (0) 2 (mM (by decide) (by decide)) rfl rfl hinX6 (by decide) hf18 rfl rfl dX6_worthOf_139 ?_
                      refine lv_iload hx hb dX6_worthOf_142 (lv_at hl 5 rfl) ?_
                      refine r_aaldI hx hb hK hW 1 1 (r) (mM (by decide) (by decide)) rfl (show r < 4 by omega) (by decide) rfl rfl dX6_worthOf_144 ?_
                      refine lv_iload hx hb dX6_worthOf_145 (lv_at hl 4 rfl) ?_
                      refine rM_iald hx hb hK hW 14 (r) (k) (by decide) (by decide) (show r < 4 by omega) (show k < 31 by omega) rfl dX6_worthOf_147 (fun x20 ex20 => ?_)
                      refine lv_istore (lv' := [(9, .int (x20)), (7, .int (x17)), (10, .float (FP.fadd fl (FP.i2f x15))), (5, .long (sm + x15.toInt64)), (13, .int (x15)), (12, .int (nI (k))), (11, .int (nI (r))), (8, .int (la)), (4, .int (nI (z))), (0, .ref (ad 0 (0))), (1, .int (nI (a))), (2, .int (nI (o))), (3, .int (nI (k6)))]) hx hb dX6_worthOf_148 hl (by decide) rfl (fun ls hl => ?_)
                      refine lv_iload hx hb dX6_worthOf_150 (lv_at hl 4 rfl) ?_
                      refine lv_istore (lv' := [(8, .int (x15)), (9, .int (x20)), (7, .int (x17)), (10, .float (FP.fadd fl (FP.i2f x15))), (5, .long (sm + x15.toInt64)), (13, .int (x15)), (12, .int (nI (k))), (11, .int (nI (r))), (4, .int (nI (z))), (0, .ref (ad 0 (0))), (1, .int (nI (a))), (2, .int (nI (o))), (3, .int (nI (k6)))]) hx hb dX6_worthOf_152 hl (by decide) rfl (fun ls hl => ?_)
                      refine lv_iinc (v := nI (z + 1)) (lv' := [(4, .int (nI (z + 1))), (8, .int (x15)), (9, .int (x20)), (7, .int (x17)), (10, .float (FP.fadd fl (FP.i2f x15))), (5, .long (sm + x15.toInt64)), (13, .int (x15)), (12, .int (nI (k))), (11, .int (nI (r))), (0, .ref (ad 0 (0))), (1, .int (nI (a))), (2, .int (nI (o))), (3, .int (nI (k6)))]) hx hb dX6_worthOf_154 hl (k := 8) rfl (nI_inc z 1) (by decide) rfl (fun ls hl => ?_)
                      refine lv_iinc (v := nI (k + 1)) (lv' := [(12, .int (nI (k + 1))), (4, .int (nI (z + 1))), (8, .int (x15)), (9, .int (x20)), (7, .int (x17)), (10, .float (FP.fadd fl (FP.i2f x15))), (5, .long (sm + x15.toInt64)), (13, .int (x15)), (11, .int (nI (r))), (0, .ref (ad 0 (0))), (1, .int (nI (a))), (2, .int (nI (o))), (3, .int (nI (k6)))]) hx hb dX6_worthOf_157 hl (k := 7) rfl (nI_inc k 1) (by decide) rfl (fun ls hl => ?_)
                      refine lv_goto (tgt := 30) hx hb dX6_worthOf_160 (by decide) ?_
                      exact ih30 (k + 1) (z + 1) (sm + x15.toInt64) (x17) (x15) (x20) (FP.fadd fl (FP.i2f x15)) (by omega) (by rw [rowl_s, ← List.append_assoc, flt_snoc, if_pos hgp]; exact WI_s hw (ex15.trans (V13 hd1 hd2)) (ex18.trans (V14 hd1 hd2)) (by rw [if_neg c106_15]; exact ex17) (by have c9 := c135_18; rw [if_pos (by first | exact c9 | exact Int32.not_lt.mp c9), ex20, ex18])) (by omega) _ _ hW hS _ (lv_sub hl [0, 8, 5, 3, 2, 4, 6, 1, 9, 10, 11, 12] rfl)
                  · replace c106_15 : z = 0 := (nI_eq (show z < 2147483648 by omega) (show 0 < 2147483648 by omega)).mp c106_15
                    refine lv_iload hx hb dX6_worthOf_109 (lv_at hl 2 rfl) ?_
                    refine lv_goto (tgt := 121) hx hb dX6_worthOf_111 (by decide) ?_
                    refine lv_istore (lv' := [(7, .int (x15)), (10, .float (FP.fadd fl (FP.i2f x15))), (5, .long (sm + x15.toInt64)), (13, .int (x15)), (12, .int (nI (k))), (11, .int (nI (r))), (9, .int (sp)), (8, .int (la)), (4, .int (nI (z))), (0, .ref (ad 0 (0))), (1, .int (nI (a))), (2, .int (nI (o))), (3, .int (nI (k6)))]) hx hb dX6_worthOf_121 hl (by decide) rfl (fun ls hl => ?_)
                    refine lv_aload_n hx hb dX6_worthOf_123 rfl (lv_at hl 9 rfl) ?_
                    refine r_get hx hb hts hown hK hW 0 (0) 2 (mM (by decide) (by decide)) rfl rfl hinX6 (by decide) hf18 rfl rfl dX6_worthOf_124 ?_
                    refine lv_iload hx hb dX6_worthOf_127 (lv_at hl 5 rfl) ?_
                    refine r_aaldI hx hb hK hW 1 1 (r) (mM (by decide) (by decide)) rfl (show r < 4 by omega) (by decide) rfl rfl dX6_worthOf_129 ?_
                    refine lv_iload hx hb dX6_worthOf_130 (lv_at hl 4 rfl) ?_
                    refine rM_iald hx hb hK hW 14 (r) (k) (by decide) (by decide) (show r < 4 by omega) (show k < 31 by omega) rfl dX6_worthOf_132 (fun x21 ex21 => ?_)
                    refine lv_iload hx hb dX6_worthOf_133 (lv_at hl 6 rfl) ?_
                    refine lv_icmp_lt (tgt := 154) hx hb dX6_worthOf_135 (by decide) (fun c135_21 => ?_) (fun c135_21 => ?_)
                    · refine lv_iinc (v := nI (z + 1)) (lv' := [(4, .int (nI (z + 1))), (7, .int (x15)), (10, .float (FP.fadd fl (FP.i2f x15))), (5, .long (sm + x15.toInt64)), (13, .int (x15)), (12, .int (nI (k))), (11, .int (nI (r))), (9, .int (sp)), (8, .int (la)), (0, .ref (ad 0 (0))), (1, .int (nI (a))), (2, .int (nI (o))), (3, .int (nI (k6)))]) hx hb dX6_worthOf_154 hl (k := 8) rfl (nI_inc z 1) (by decide) rfl (fun ls hl => ?_)
                      refine lv_iinc (v := nI (k + 1)) (lv' := [(12, .int (nI (k + 1))), (4, .int (nI (z + 1))), (7, .int (x15)), (10, .float (FP.fadd fl (FP.i2f x15))), (5, .long (sm + x15.toInt64)), (13, .int (x15)), (11, .int (nI (r))), (9, .int (sp)), (8, .int (la)), (0, .ref (ad 0 (0))), (1, .int (nI (a))), (2, .int (nI (o))), (3, .int (nI (k6)))]) hx hb dX6_worthOf_157 hl (k := 5) rfl (nI_inc k 1) (by decide) rfl (fun ls hl => ?_)
                      refine lv_goto (tgt := 30) hx hb dX6_worthOf_160 (by decide) ?_
                      exact ih30 (k + 1) (z + 1) (sm + x15.toInt64) (x15) (la) (sp) (FP.fadd fl (FP.i2f x15)) (by omega) (by rw [rowl_s, ← List.append_assoc, flt_snoc, if_pos hgp]; exact WI_s hw (ex15.trans (V13 hd1 hd2)) (ex21.trans (V14 hd1 hd2)) (by rw [if_pos c106_15]) (by have c9 := c135_21; rw [if_neg (Int32.not_le.mpr c9)])) (by omega) _ _ hW hS _ (lv_sub hl [0, 6, 3, 7, 8, 2, 4, 1, 9, 10, 11, 12] rfl)
                    · refine lv_aload_n hx hb dX6_worthOf_138 rfl (lv_at hl 9 rfl) ?_
                      refine r_get hx hb hts hown hK hW 0 (0) 2 (mM (by decide) (by decide)) rfl rfl hinX6 (by decide) hf18 rfl rfl dX6_worthOf_139 ?_
                      refine lv_iload hx hb dX6_worthOf_142 (lv_at hl 5 rfl) ?_
                      refine r_aaldI hx hb hK hW 1 1 (r) (mM (by decide) (by decide)) rfl (show r < 4 by omega) (by decide) rfl rfl dX6_worthOf_144 ?_
                      refine lv_iload hx hb dX6_worthOf_145 (lv_at hl 4 rfl) ?_
                      refine rM_iald hx hb hK hW 14 (r) (k) (by decide) (by decide) (show r < 4 by omega) (show k < 31 by omega) rfl dX6_worthOf_147 (fun x23 ex23 => ?_)
                      refine lv_istore (lv' := [(9, .int (x23)), (7, .int (x15)), (10, .float (FP.fadd fl (FP.i2f x15))), (5, .long (sm + x15.toInt64)), (13, .int (x15)), (12, .int (nI (k))), (11, .int (nI (r))), (8, .int (la)), (4, .int (nI (z))), (0, .ref (ad 0 (0))), (1, .int (nI (a))), (2, .int (nI (o))), (3, .int (nI (k6)))]) hx hb dX6_worthOf_148 hl (by decide) rfl (fun ls hl => ?_)
                      refine lv_iload hx hb dX6_worthOf_150 (lv_at hl 4 rfl) ?_
                      refine lv_istore (lv' := [(8, .int (x15)), (9, .int (x23)), (7, .int (x15)), (10, .float (FP.fadd fl (FP.i2f x15))), (5, .long (sm + x15.toInt64)), (13, .int (x15)), (12, .int (nI (k))), (11, .int (nI (r))), (4, .int (nI (z))), (0, .ref (ad 0 (0))), (1, .int (nI (a))), (2, .int (nI (o))), (3, .int (nI (k6)))]) hx hb dX6_worthOf_152 hl (by decide) rfl (fun ls hl => ?_)
                      refine lv_iinc (v := nI (z + 1)) (lv' := [(4, .int (nI (z + 1))), (8, .int (x15)), (9, .int (x23)), (7, .int (x15)), (10, .float (FP.fadd fl (FP.i2f x15))), (5, .long (sm + x15.toInt64)), (13, .int (x15)), (12, .int (nI (k))), (11, .int (nI (r))), (0, .ref (ad 0 (0))), (1, .int (nI (a))), (2, .int (nI (o))), (3, .int (nI (k6)))]) hx hb dX6_worthOf_154 hl (k := 8) rfl (nI_inc z 1) (by decide) rfl (fun ls hl => ?_)
                      refine lv_iinc (v := nI (k + 1)) (lv' := [(12, .int (nI (k + 1))), (4, .int (nI (z + 1))), (8, .int (x15)), (9, .int (x23)), (7, .int (x15)), (10, .float (FP.fadd fl (FP.i2f x15))), (5, .long (sm + x15.toInt64)), (13, .int (x15)), (11, .int (nI (r))), (0, .ref (ad 0 (0))), (1, .int (nI (a))), (2, .int (nI (o))), (3, .int (nI (k6)))]) hx hb dX6_worthOf_157 hl (k := 7) rfl (nI_inc k 1) (by decide) rfl (fun ls hl => ?_)
                      refine lv_goto (tgt := 30) hx hb dX6_worthOf_160 (by decide) ?_
                      exact ih30 (k + 1) (z + 1) (sm + x15.toInt64) (x15) (x15) (x23) (FP.fadd fl (FP.i2f x15)) (by omega) (by rw [rowl_s, ← List.append_assoc, flt_snoc, if_pos hgp]; exact WI_s hw (ex15.trans (V13 hd1 hd2)) (ex21.trans (V14 hd1 hd2)) (by rw [if_pos c106_15]) (by have c9 := c135_21; rw [if_pos (by first | exact c9 | exact Int32.not_lt.mp c9), ex23, ex21])) (by omega) _ _ hW hS _ (lv_sub hl [0, 8, 5, 3, 2, 4, 6, 1, 9, 10, 11, 12] rfl)
                · have hgn : ¬ gp (V J) a o (r * 31 + k) = true := by rw [gpV hd1 hd2]; have c9 := c70_13; subst ex13 ex11 ex10 ex9 ex7; simp [c9]
                  refine lv_goto (tgt := 157) hx hb dX6_worthOf_73 (by decide) ?_
                  refine lv_iinc (v := nI (k + 1)) (lv' := [(12, .int (nI (k + 1))), (11, .int (nI (r))), (10, .float (fl)), (9, .int (sp)), (8, .int (la)), (7, .int (mo)), (5, .long (sm)), (4, .int (nI (z))), (0, .ref (ad 0 (0))), (1, .int (nI (a))), (2, .int (nI (o))), (3, .int (nI (k6)))]) hx hb dX6_worthOf_157 hl (k := 0) rfl (nI_inc k 1) (by decide) rfl (fun ls hl => ?_)
                  refine lv_goto (tgt := 30) hx hb dX6_worthOf_160 (by decide) ?_
                  exact ih30 (k + 1) (z) (sm) (mo) (la) (sp) (fl) (by omega) (by rw [rowl_s, ← List.append_assoc, flt_snoc, if_neg hgn]; exact hw) (by omega) _ _ hW hS _ (lv_sub hl [0, 1, 2, 3, 4, 5, 6, 7, 8, 9, 10, 11] rfl)
        exact K30 ((mk J r) + 1) (0) (z) (sm) (mo) (la) (sp) (fl) (Nat.zero_le _) (by rw [rowl_0, List.append_nil]; exact hw) (by omega) _ _ hW hS _ (lv_sub hl [0, 1, 2, 3, 4, 5, 6, 7, 8, 9, 10, 11] rfl)
  exact K21 (4 + 1) (0) (0) (lN 0) (nI (0)) (nI (0)) (nI (0)) (FP.fconst0) (by decide) (WI_0 J) (by omega) _ _ hW hS _ (lv_sub hl [0, 1, 2, 3, 4, 5, 6, 7, 8, 9, 10] rfl)
