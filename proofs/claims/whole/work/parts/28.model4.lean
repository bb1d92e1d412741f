/-! ===== the model, four ===== -/
set_option maxHeartbeats 4000000 in
set_option maxRecDepth 100000 in
theorem c_X6_worthNow (l : Launch) (D : va_G) (G : Nat → ClassId) (ad : Nat → Nat → Nat) (hI : wI LM ad) (J : St) (a o : Nat) (ha : a < 33) (ho : o < 12) (hM : okM J) (hKd : okK J) : Met l yX6_worthNow wsX6_worthNow ({ frames := 4, cells := 0, slots := 0, locals := 113 } : Room) (gPre D G LM ad [.ref (ad 0 (0)), .int (nI (a)), .int (nI (o))] (wM G ad J)) (gQl D LM ad (wM G ad) (fun r9 u => r9 = wth (V J) a o (kd J o) ∧ u = J)) 0 0 (wA LM ad) := by
  refine g_entry (C := RX6) (cc := cX6_worthNow) (maxL := 3) (ret := (some .long)) rfl (by decide) rfl (Nat.le_of_ble_eq_true rfl) (fun p e s m args below meth c Q ls hQ hx hb hr hts hown hlocks hml hW hK hl => ?_)
  have hl : lv_has ls 3 [(0, .ref (ad 0 (0))), (1, .int (nI (a))), (2, .int (nI (o)))] := hl
  have hS := va_S.rf (A := wA LM ad) (H0 := s.heap)
  have hinX6 : ∀ w ∈ wsX60, w ∈ wsX6_worthNow := by decide +kernel
  have hf24 := hts (.fieldLink RX6 24 "JoinedStoresModel" "kinds" "[I") (by decide +kernel)
  refine lv_aload_n hx hb dX6_worthNow_0 rfl (lv_at hl 0 rfl) ?_
  refine lv_iload_n hx hb dX6_worthNow_1 rfl (lv_at hl 1 rfl) ?_
  refine lv_iload_n hx hb dX6_worthNow_2 rfl (lv_at hl 2 rfl) ?_
  refine lv_aload_n hx hb dX6_worthNow_3 rfl (lv_at hl 0 rfl) ?_
  refine r_get hx hb hts hown hK hW 0 (0) 4 (mM (by decide) (by decide)) rfl rfl hinX6 (by decide) hf24 rfl rfl dX6_worthNow_4 ?_
  refine lv_iload_n hx hb dX6_worthNow_7 rfl (lv_at hl 2 rfl) ?_
  refine rM_iald hx hb hK hW 16 (0) (o) (by decide) (by decide) (by decide) (show o < 12 by omega) rfl dX6_worthNow_8 (fun x1 ex1 => ?_)
  have hk6 := (hKd o (by omega)).2
  refine r_top (show x1 = nI (kd J o) from (ex1.trans (hKd o (by omega)).1)) ?_
  refine g_cl (va_runV (As := [.int (nI (a)), .int (nI (o)), .int (nI (kd J o))]) (rest := []) ⟨hx, hb, hml, hown, hts⟩ (c_X6_worthOf l D G ad hI J a o (kd J o) (show a < 33 by omega) (show kd J o < 6 by omega) hM) (cwV 3 hts gX6_worthNow_X6_worthOf rfl rfl rfl (by decide +kernel) ⟨Nat.le_of_ble_eq_true rfl, Nat.le_of_ble_eq_true rfl⟩) (g_preV hK hW 0 (0) (mM (by decide) (by decide)) rfl rfl) rfl rfl hl.1 rfl (lv_room (Nat.le_of_ble_eq_true rfl)) dX6_worthNow_9 ⟨Nat.le_refl _, Nat.le_refl _⟩) hS (fun x2 I2 H locs hp hW hS => ?_)
  obtain ⟨ex2, eI2⟩ := hp
  rw [eI2] at hW
  clear eI2
  rw [hQ]
  exact g_lret (wd := wM G ad) hx hb hr hlocks hW hS (by subst ex2 ex1; exact ⟨rfl, rfl⟩) dX6_worthNow_12

set_option maxHeartbeats 4000000 in
set_option maxRecDepth 100000 in
theorem c_X6_worth (l : Launch) (D : va_G) (G : Nat → ClassId) (ad : Nat → Nat → Nat) (hI : wI LM ad) (J : St) (r a b : Int32) (hM : okM J) (hKd : okK J) : Met l yX6_worth wsX6_worth ({ frames := 5, cells := 0, slots := 0, locals := 135 } : Room) (gPre D G LM ad [.ref (ad 0 (0)), .int (r), .int (a), .int (b)] (wM G ad J)) (gQl D LM ad (wM G ad) (fun r9 u => r9 = (if (okN (nI 4) r && (okN (nI 3) a && okN (nI 4) b)) = true then wth (V J) (tn r) (4 * tn a + tn b) (kd J (4 * tn a + tn b)) else (-2 : Int32).toInt64 - 1000000000000) ∧ u = J)) 0 0 (wA LM ad) := by
  refine g_entry (C := RX6) (cc := cX6_worth) (maxL := 4) (ret := (some .long)) rfl (by decide) rfl (Nat.le_of_ble_eq_true rfl) (fun p e s m args below meth c Q ls hQ hx hb hr hts hown hlocks hml hW hK hl => ?_)
  have hl : lv_has ls 4 [(0, .ref (ad 0 (0))), (1, .int (r)), (2, .int (a)), (3, .int (b))] := hl
  have hS := va_S.rf (A := wA LM ad) (H0 := s.heap)
  refine lv_iload_n hx hb dX6_worth_0 rfl (lv_at hl 1 rfl) ?_
  refine g_pi (va_runS (As := [.int (r)]) (rest := []) ⟨hx, hb, hml, hown, hts⟩ (c_X6_isReplica l r) (va_cwS 1 hts gX6_worth_X6_isReplica rfl rfl rfl (by decide +kernel) ⟨Nat.le_of_ble_eq_true rfl, Nat.le_of_ble_eq_true rfl⟩) p_preS rfl rfl hl.1 rfl (lv_room (Nat.le_of_ble_eq_true rfl)) dX6_worth_1 ⟨Nat.le_refl _, Nat.le_refl _⟩) hW hS (fun H locs hW hS => ?_)
  refine lv_if_eq (tgt := 28) hx hb dX6_worth_4 (by decide) (fun c4_0 => ?_) (fun c4_0 => ?_)
  · replace c4_0 := bI_0.mp c4_0
    try simp only [decide_eq_true_eq, decide_eq_false_iff_not] at c4_0
    refine lv_bipush (v := (-2)) hx hb dX6_worth_28 (by decide) ?_
    refine g_pl (va_runS (As := [.int ((-2))]) (rest := []) ⟨hx, hb, hml, hown, hts⟩ (c_X6_asLong l ((-2))) (va_cwS 1 hts gX6_worth_X6_asLong rfl rfl rfl (by decide +kernel) ⟨Nat.le_of_ble_eq_true rfl, Nat.le_of_ble_eq_true rfl⟩) p_preS rfl rfl hl.1 rfl (lv_room (Nat.le_of_ble_eq_true rfl)) dX6_worth_30 ⟨Nat.le_refl _, Nat.le_refl _⟩) hW hS (fun H locs hW hS => ?_)
    rw [hQ]
    exact g_lret (wd := wM G ad) hx hb hr hlocks hW hS (by skip; refine ⟨?_, rfl⟩; simp [c4_0]) dX6_worth_33
  · replace c4_0 := bI_1.mp c4_0
    obtain ⟨rN, hrN, erN⟩ := okN_nI (k := 4) (by decide) c4_0
    subst erN
    have t_rN : tn (nI rN) = rN := tn_nI (by omega)
    have k_rN : okN (nI 4) (nI rN) = true := okN_of (by decide) hrN
    refine lv_iload_n hx hb dX6_worth_7 rfl (lv_at hl 2 rfl) ?_
    refine lv_iload_n hx hb dX6_worth_8 rfl (lv_at hl 3 rfl) ?_
    refine g_pi (va_runS (As := [.int (a), .int (b)]) (rest := []) ⟨hx, hb, hml, hown, hts⟩ (c_X6_isObject l a b) (va_cwS 2 hts gX6_worth_X6_isObject rfl rfl rfl (by decide +kernel) ⟨Nat.le_of_ble_eq_true rfl, Nat.le_of_ble_eq_true rfl⟩) p_preS rfl rfl hl.1 rfl (lv_room (Nat.le_of_ble_eq_true rfl)) dX6_worth_9 ⟨Nat.le_refl _, Nat.le_refl _⟩) hW hS (fun H locs hW hS => ?_)
    refine lv_if_eq (tgt := 28) hx hb dX6_worth_12 (by decide) (fun c12_1 => ?_) (fun c12_1 => ?_)
    · replace c12_1 := bI_0.mp c12_1
      try simp only [decide_eq_true_eq, decide_eq_false_iff_not] at c12_1
      refine lv_bipush (v := (-2)) hx hb dX6_worth_28 (by decide) ?_
      refine g_pl (va_runS (As := [.int ((-2))]) (rest := []) ⟨hx, hb, hml, hown, hts⟩ (c_X6_asLong l ((-2))) (va_cwS 1 hts gX6_worth_X6_asLong rfl rfl rfl (by decide +kernel) ⟨Nat.le_of_ble_eq_true rfl, Nat.le_of_ble_eq_true rfl⟩) p_preS rfl rfl hl.1 rfl (lv_room (Nat.le_of_ble_eq_true rfl)) dX6_worth_30 ⟨Nat.le_refl _, Nat.le_refl _⟩) hW hS (fun H locs hW hS => ?_)
      rw [hQ]
      exact g_lret (wd := wM G ad) hx hb hr hlocks hW hS (by skip; refine ⟨?_, rfl⟩; simp [k_rN, c12_1]) dX6_worth_33
    · replace c12_1 := bI_1.mp c12_1
      obtain ⟨aN, haN, eaN⟩ := okN_nI (k := 3) (by decide) (okAnd c12_1).1
      subst eaN
      have t_aN : tn (nI aN) = aN := tn_nI (by omega)
      have k_aN : okN (nI 3) (nI aN) = true := okN_of (by decide) haN
      obtain ⟨bN, hbN, ebN⟩ := okN_nI (k := 4) (by decide) (okAnd c12_1).2
      subst ebN
      have t_bN : tn (nI bN) = bN := tn_nI (by omega)
      have k_bN : okN (nI 4) (nI bN) = true := okN_of (by decide) hbN
      refine lv_aload_n hx hb dX6_worth_15 rfl (lv_at hl 0 rfl) ?_
      refine lv_iload_n hx hb dX6_worth_16 rfl (lv_at hl 1 rfl) ?_
      refine lv_iconst (v := nI 4) hx hb dX6_worth_17 (by decide) ?_
      refine lv_iload_n hx hb dX6_worth_18 rfl (lv_at hl 2 rfl) ?_
      refine lv_imul hx hb dX6_worth_19 (r_top (pk_mul _ _) ?_)
      refine lv_iload_n hx hb dX6_worth_20 rfl (lv_at hl 3 rfl) ?_
      refine lv_iadd hx hb dX6_worth_21 (r_top (nI_add _ _) ?_)
      refine g_cl (va_runV (As := [.int (nI (rN)), .int (nI ((4 * aN) + bN))]) (rest := []) ⟨hx, hb, hml, hown, hts⟩ (c_X6_worthNow l D G ad hI J rN ((4 * aN) + bN) (show rN < 33 by omega) (show (4 * aN) + bN < 12 by omega) hM hKd) (cwV 2 hts gX6_worth_X6_worthNow rfl rfl rfl (by decide +kernel) ⟨Nat.le_of_ble_eq_true rfl, Nat.le_of_ble_eq_true rfl⟩) (g_preV hK hW 0 (0) (mM (by decide) (by decide)) rfl rfl) rfl rfl hl.1 rfl (lv_room (Nat.le_of_ble_eq_true rfl)) dX6_worth_22 ⟨Nat.le_refl _, Nat.le_refl _⟩) hS (fun x3 I3 H locs hp hW hS => ?_)
      obtain ⟨ex3, eI3⟩ := hp
      rw [eI3] at hW
      clear eI3
      refine lv_goto (tgt := 33) hx hb dX6_worth_25 (by decide) ?_
      rw [hQ]
      exact g_lret (wd := wM G ad) hx hb hr hlocks hW hS (by subst ex3; refine ⟨?_, rfl⟩; rw [if_pos (by simp [k_rN, k_aN, k_bN])]; simp only [t_rN, t_aN, t_bN]) dX6_worth_33

set_option maxHeartbeats 4000000 in
set_option maxRecDepth 100000 in
theorem c_X6_stable (l : Launch) (D : va_G) (G : Nat → ClassId) (ad : Nat → Nat → Nat) (hI : wI LM ad) (J : St) (r x : Nat) (hr4 : r < 4) (hx4 : x < 4) : Met l yX6_stable wsX6_stable ({ frames := 0, cells := 0, slots := 0, locals := 0 } : Room) (gPre D G LM ad [.ref (ad 0 (0)), .int (nI (r)), .int (nI (x))] (wM G ad J)) (gQi D LM ad (wM G ad) (fun r9 u => r9 = smb J r x 4 ∧ u = J)) 0 0 (wA LM ad) := by
  refine g_entry (C := RX6) (cc := cX6_stable) (maxL := 5) (ret := (some .int)) rfl (by decide) rfl (Nat.le_of_ble_eq_true rfl) (fun p e s m args below meth c Q ls hQ hx hb hr hts hown hlocks hml hW hK hl => ?_)
  have hl : lv_has ls 5 [(0, .ref (ad 0 (0))), (1, .int (nI (r))), (2, .int (nI (x)))] := hl
  have hS := va_S.rf (A := wA LM ad) (H0 := s.heap)
  have hinX6 : ∀ w ∈ wsX60, w ∈ wsX6_stable := by decide +kernel
  have hf27 := hts (.fieldLink RX6 27 "JoinedStoresModel" "heard" "[[I") (by decide +kernel)
  have hf33 := hts (.fieldLink RX6 33 "JoinedStoresModel" "known" "[[I") (by decide +kernel)
  refine lv_aload_n hx hb dX6_stable_0 rfl (lv_at hl 0 rfl) ?_
  refine r_get hx hb hts hown hK hW 0 (0) 5 (mM (by decide) (by decide)) rfl rfl hinX6 (by decide) hf27 rfl rfl dX6_stable_1 ?_
  refine lv_iload_n hx hb dX6_stable_4 rfl (lv_at hl 1 rfl) ?_
  refine r_aaldI hx hb hK hW 1 3 (r) (mM (by decide) (by decide)) rfl (show r < 33 by omega) (by decide) rfl rfl dX6_stable_5 ?_
  refine lv_iload_n hx hb dX6_stable_6 rfl (lv_at hl 2 rfl) ?_
  refine rM_iald hx hb hK hW 10 (r) (x) (by decide) (by decide) (show r < 33 by omega) (show x < 4 by omega) rfl dX6_stable_7 (fun x1 ex1 => ?_)
  refine lv_istore_n (lv' := [(3, .int (x1)), (0, .ref (ad 0 (0))), (1, .int (nI (r))), (2, .int (nI (x)))]) hx hb dX6_stable_8 rfl hl (by decide) rfl (fun ls hl => ?_)
  refine lv_iconst (v := nI 0) hx hb dX6_stable_9 (by decide) ?_
  refine lv_istore (lv' := [(4, .int (nI (0))), (3, .int (x1)), (0, .ref (ad 0 (0))), (1, .int (nI (r))), (2, .int (nI (x)))]) hx hb dX6_stable_10 hl (by decide) rfl (fun ls hl => ?_)
  have K12 : ∀ (n : Nat) (i : Nat) (d : Int32), (i ≤ 4) → (d = smb J r x i) → 4 < i + n → ∀ (H : Heap) (locs : List Loc), va_P D vwCl (wS LM ad (wM G ad J)) H → va_S (wA LM ad) s.heap H locs → ∀ (ls : Array Slot), lv_has ls 5 [(4, .int (nI (i))), (3, .int (d)), (0, .ref (ad 0 (0))), (1, .int (nI (r))), (2, .int (nI (x)))] → W p l e ({ frames := 0, cells := 0, slots := 0, locals := 0 } : Room) s m args below meth c H locs 0 0 Q (F0 m 12 ls []) := by
    intro n12
    induction n12 with
    | zero => intro i d hi hd hfu; exact absurd hfu (by omega)
    | succ n12 ih12 =>
      intro i d hi hd hfu H locs hW hS ls hl
      refine lv_iload hx hb dX6_stable_12 (lv_at hl 0 rfl) ?_
      refine lv_iconst (v := nI 4) hx hb dX6_stable_14 (by decide) ?_
      refine lv_icmp_ge (tgt := 46) hx hb dX6_stable_15 (by decide) (fun c15_1 => ?_) (fun c15_1 => ?_)
      · replace c15_1 : 4 ≤ i := (nI_leI (show 4 < 2147483648 by omega) (show i < 2147483648 by omega)).mp c15_1
        refine lv_iload_n hx hb dX6_stable_46 rfl (lv_at hl 1 rfl) ?_
        rw [hQ]
        exact g_iret (wd := wM G ad) hx hb hr rfl hlocks hW hS (by have e4 : i = 4 := (by omega); subst e4; exact ⟨hd, rfl⟩) dX6_stable_47
      · replace c15_1 : ¬ (4 ≤ i) := fun h => c15_1 ((nI_leI (show 4 < 2147483648 by omega) (show i < 2147483648 by omega)).mpr h)
        refine lv_iload hx hb dX6_stable_18 (lv_at hl 0 rfl) ?_
        refine lv_iload_n hx hb dX6_stable_20 rfl (lv_at hl 3 rfl) ?_
        refine lv_icmp_eq (tgt := 40) hx hb dX6_stable_21 (by decide) (fun c21_2 => ?_) (fun c21_2 => ?_)
        · replace c21_2 : i = r := (nI_eq (show i < 2147483648 by omega) (show r < 2147483648 by omega)).mp c21_2
          refine lv_iinc (v := nI (i + 1)) (lv' := [(4, .int (nI (i + 1))), (3, .int (d)), (0, .ref (ad 0 (0))), (1, .int (nI (r))), (2, .int (nI (x)))]) hx hb dX6_stable_40 hl (k := 0) rfl (nI_inc i 1) (by decide) rfl (fun ls hl => ?_)
          refine lv_goto (tgt := 12) hx hb dX6_stable_43 (by decide) ?_
          exact ih12 (i + 1) (d) (by omega) (by rw [smb, if_pos c21_2]; exact hd) (by omega) _ _ hW hS _ (lv_sub hl [0, 1, 2, 3, 4] rfl)
        · replace c21_2 : ¬ (i = r) := fun h => c21_2 ((nI_eq (show i < 2147483648 by omega) (show r < 2147483648 by omega)).mpr h)
          refine lv_iload_n hx hb dX6_stable_24 rfl (lv_at hl 1 rfl) ?_
          refine lv_aload_n hx hb dX6_stable_25 rfl (lv_at hl 2 rfl) ?_
          refine r_get hx hb hts hown hK hW 0 (0) 7 (mM (by decide) (by decide)) rfl rfl hinX6 (by decide) hf33 rfl rfl dX6_stable_26 ?_
          refine lv_iconst (v := nI 4) hx hb dX6_stable_29 (by decide) ?_
          refine lv_iload_n hx hb dX6_stable_30 rfl (lv_at hl 3 rfl) ?_
          refine lv_imul hx hb dX6_stable_31 (r_top (pk_mul _ _) ?_)
          refine lv_iload hx hb dX6_stable_32 (lv_at hl 0 rfl) ?_
          refine lv_iadd hx hb dX6_stable_34 (r_top (nI_add _ _) ?_)
          refine r_aaldI hx hb hK hW 1 5 ((4 * r) + i) (mM (by decide) (by decide)) rfl (show (4 * r) + i < 16 by omega) (by decide) rfl rfl dX6_stable_35 ?_
          refine lv_iload_n hx hb dX6_stable_36 rfl (lv_at hl 4 rfl) ?_
          refine rM_iald hx hb hK hW 17 ((4 * r) + i) (x) (by decide) (by decide) (show (4 * r) + i < 16 by omega) (show x < 4 by omega) rfl dX6_stable_37 (fun x4 ex4 => ?_)
          refine lv_iand hx hb dX6_stable_38 (lv_topi (fun x5 ex5 => ?_))
          refine lv_istore_n (lv' := [(3, .int (x5)), (4, .int (nI (i))), (0, .ref (ad 0 (0))), (1, .int (nI (r))), (2, .int (nI (x)))]) hx hb dX6_stable_39 rfl hl (by decide) rfl (fun ls hl => ?_)
          refine lv_iinc (v := nI (i + 1)) (lv' := [(4, .int (nI (i + 1))), (3, .int (x5)), (0, .ref (ad 0 (0))), (1, .int (nI (r))), (2, .int (nI (x)))]) hx hb dX6_stable_40 hl (k := 1) rfl (nI_inc i 1) (by decide) rfl (fun ls hl => ?_)
          refine lv_goto (tgt := 12) hx hb dX6_stable_43 (by decide) ?_
          exact ih12 (i + 1) (x5) (by omega) (by rw [smb, if_neg c21_2, ← hd]; subst ex5 ex4; rfl) (by omega) _ _ hW hS _ (lv_sub hl [0, 1, 2, 3, 4] rfl)
  exact K12 (4 + 1) (0) (x1) (by decide) (by subst ex1; rfl) (by omega) _ _ hW hS _ (lv_sub hl [0, 1, 2, 3, 4] rfl)

set_option maxHeartbeats 4000000 in
set_option maxRecDepth 100000 in
theorem c_X6_tags (l : Launch) (D : va_G) (G : Nat → ClassId) (ad : Nat → Nat → Nat) (hI : wI LM ad) (J : St) (r x : Nat) (hr4 : r < 4) (hx4 : x < 4) : Met l yX6_tags wsX6_tags ({ frames := 1, cells := 0, slots := 0, locals := 24 } : Room) (gPre D G LM ad [.ref (ad 0 (0)), .int (nI (r)), .int (nI (x))] (wM G ad J)) (gQi D LM ad (wM G ad) (fun r9 u => r9 = tgM J r x ∧ u = J)) 0 0 (wA LM ad) := by
  refine g_entry (C := RX6) (cc := cX6_tags) (maxL := 3) (ret := (some .int)) rfl (by decide) rfl (Nat.le_of_ble_eq_true rfl) (fun p e s m args below meth c Q ls hQ hx hb hr hts hown hlocks hml hW hK hl => ?_)
  have hl : lv_has ls 3 [(0, .ref (ad 0 (0))), (1, .int (nI (r))), (2, .int (nI (x)))] := hl
  have hS := va_S.rf (A := wA LM ad) (H0 := s.heap)
  have hinX6 : ∀ w ∈ wsX60, w ∈ wsX6_tags := by decide +kernel
  have hf27 := hts (.fieldLink RX6 27 "JoinedStoresModel" "heard" "[[I") (by decide +kernel)
  have hf30 := hts (.fieldLink RX6 30 "JoinedStoresModel" "alive" "[[I") (by decide +kernel)
  refine lv_aload_n hx hb dX6_tags_0 rfl (lv_at hl 0 rfl) ?_
  refine r_get hx hb hts hown hK hW 0 (0) 5 (mM (by decide) (by decide)) rfl rfl hinX6 (by decide) hf27 rfl rfl dX6_tags_1 ?_
  refine lv_iload_n hx hb dX6_tags_4 rfl (lv_at hl 1 rfl) ?_
  refine r_aaldI hx hb hK hW 1 3 (r) (mM (by decide) (by decide)) rfl (show r < 33 by omega) (by decide) rfl rfl dX6_tags_5 ?_
  refine lv_iload_n hx hb dX6_tags_6 rfl (lv_at hl 2 rfl) ?_
  refine rM_iald hx hb hK hW 10 (r) (x) (by decide) (by decide) (show r < 33 by omega) (show x < 4 by omega) rfl dX6_tags_7 (fun x1 ex1 => ?_)
  refine lv_aload_n hx hb dX6_tags_8 rfl (lv_at hl 0 rfl) ?_
  refine r_get hx hb hts hown hK hW 0 (0) 6 (mM (by decide) (by decide)) rfl rfl hinX6 (by decide) hf30 rfl rfl dX6_tags_9 ?_
  refine lv_iload_n hx hb dX6_tags_12 rfl (lv_at hl 1 rfl) ?_
  refine r_aaldI hx hb hK hW 1 4 (r) (mM (by decide) (by decide)) rfl (show r < 33 by omega) (by decide) rfl rfl dX6_tags_13 ?_
  refine lv_iload_n hx hb dX6_tags_14 rfl (lv_at hl 2 rfl) ?_
  refine rM_iald hx hb hK hW 11 (r) (x) (by decide) (by decide) (show r < 33 by omega) (show x < 4 by omega) rfl dX6_tags_15 (fun x2 ex2 => ?_)
  refine lv_iconst (v := (-1)) hx hb dX6_tags_16 (by decide) ?_
  refine lv_ixor hx hb dX6_tags_17 (lv_topi (fun x3 ex3 => ?_))
  refine lv_iand hx hb dX6_tags_18 (lv_topi (fun x4 ex4 => ?_))
  refine lv_aload_n hx hb dX6_tags_19 rfl (lv_at hl 0 rfl) ?_
  refine lv_iload_n hx hb dX6_tags_20 rfl (lv_at hl 1 rfl) ?_
  refine lv_iload_n hx hb dX6_tags_21 rfl (lv_at hl 2 rfl) ?_
  refine g_ci (va_runV (As := [.int (nI (r)), .int (nI (x))]) (rest := [.int (x4)]) ⟨hx, hb, hml, hown, hts⟩ (c_X6_stable l D G ad hI J r x (show r < 4 by omega) (show x < 4 by omega)) (cwV 2 hts gX6_tags_X6_stable rfl rfl rfl (by decide +kernel) ⟨Nat.le_of_ble_eq_true rfl, Nat.le_of_ble_eq_true rfl⟩) (g_preV hK hW 0 (0) (mM (by decide) (by decide)) rfl rfl) rfl rfl hl.1 rfl (lv_room (Nat.le_of_ble_eq_true rfl)) dX6_tags_22 ⟨Nat.le_refl _, Nat.le_refl _⟩) hS (fun x5 I5 H locs hp hW hS => ?_)
  obtain ⟨ex5, eI5⟩ := hp
  rw [eI5] at hW
  clear eI5
  refine lv_iconst (v := (-1)) hx hb dX6_tags_25 (by decide) ?_
  refine lv_ixor hx hb dX6_tags_26 (lv_topi (fun x6 ex6 => ?_))
  refine lv_iand hx hb dX6_tags_27 (lv_topi (fun x7 ex7 => ?_))
  rw [hQ]
  exact g_iret (wd := wM G ad) hx hb hr rfl hlocks hW hS (by subst ex7 ex6 ex5 ex4 ex3 ex2 ex1; exact ⟨rfl, rfl⟩) dX6_tags_28

set_option maxHeartbeats 4000000 in
set_option maxRecDepth 100000 in
theorem c_X6_told (l : Launch) (D : va_G) (G : Nat → ClassId) (ad : Nat → Nat → Nat) (hI : wI LM ad) (J : St) (r o w : Int32) : Met l yX6_told wsX6_told ({ frames := 2, cells := 0, slots := 0, locals := 46 } : Room) (gPre D G LM ad [.ref (ad 0 (0)), .int (r), .int (o), .int (w)] (wM G ad J)) (gQi D LM ad (wM G ad) (fun r9 u => r9 = (if ((okN (nI 4) r && okN (nI 4) o) && (okN (nI 4) w || okR (nI 10) (nI 13) w)) = true then tldM J (tn r) (tn o) (tn w) else -2) ∧ u = J)) 0 0 (wA LM ad) := by
  refine g_entry (C := RX6) (cc := cX6_told) (maxL := 4) (ret := (some .int)) rfl (by decide) rfl (Nat.le_of_ble_eq_true rfl) (fun p e s m args below meth c Q ls hQ hx hb hr hts hown hlocks hml hW hK hl => ?_)
  have hl : lv_has ls 4 [(0, .ref (ad 0 (0))), (1, .int (r)), (2, .int (o)), (3, .int (w))] := hl
  have hS := va_S.rf (A := wA LM ad) (H0 := s.heap)
  have hinX6 : ∀ w ∈ wsX60, w ∈ wsX6_told := by decide +kernel
  have hf27 := hts (.fieldLink RX6 27 "JoinedStoresModel" "heard" "[[I") (by decide +kernel)
  have hf30 := hts (.fieldLink RX6 30 "JoinedStoresModel" "alive" "[[I") (by decide +kernel)
  have hf33 := hts (.fieldLink RX6 33 "JoinedStoresModel" "known" "[[I") (by decide +kernel)
  refine lv_iload_n hx hb dX6_told_0 rfl (lv_at hl 1 rfl) ?_
  refine g_pi (va_runS (As := [.int (r)]) (rest := []) ⟨hx, hb, hml, hown, hts⟩ (c_X6_isReplica l r) (va_cwS 1 hts gX6_told_X6_isReplica rfl rfl rfl (by decide +kernel) ⟨Nat.le_of_ble_eq_true rfl, Nat.le_of_ble_eq_true rfl⟩) p_preS rfl rfl hl.1 rfl (lv_room (Nat.le_of_ble_eq_true rfl)) dX6_told_1 ⟨Nat.le_refl _, Nat.le_refl _⟩) hW hS (fun H locs hW hS => ?_)
  refine lv_if_eq (tgt := 40) hx hb dX6_told_4 (by decide) (fun c4_0 => ?_) (fun c4_0 => ?_)
  · replace c4_0 := bI_0.mp c4_0
    try simp only [decide_eq_true_eq, decide_eq_false_iff_not] at c4_0
    refine lv_bipush (v := (-2)) hx hb dX6_told_40 (by decide) ?_
    rw [hQ]
    exact g_iret (wd := wM G ad) hx hb hr rfl hlocks hW hS (by skip; refine ⟨?_, rfl⟩; simp [c4_0]) dX6_told_42
  · replace c4_0 := bI_1.mp c4_0
    obtain ⟨rN, hrN, erN⟩ := okN_nI (k := 4) (by decide) c4_0
    subst erN
    have t_rN : tn (nI rN) = rN := tn_nI (by omega)
    have k_rN : okN (nI 4) (nI rN) = true := okN_of (by decide) hrN
    refine lv_iload_n hx hb dX6_told_7 rfl (lv_at hl 2 rfl) ?_
    refine g_pi (va_runS (As := [.int (o)]) (rest := []) ⟨hx, hb, hml, hown, hts⟩ (c_X6_isReplica l o) (va_cwS 1 hts gX6_told_X6_isReplica rfl rfl rfl (by decide +kernel) ⟨Nat.le_of_ble_eq_true rfl, Nat.le_of_ble_eq_true rfl⟩) p_preS rfl rfl hl.1 rfl (lv_room (Nat.le_of_ble_eq_true rfl)) dX6_told_8 ⟨Nat.le_refl _, Nat.le_refl _⟩) hW hS (fun H locs hW hS => ?_)
    refine lv_if_eq (tgt := 40) hx hb dX6_told_11 (by decide) (fun c11_1 => ?_) (fun c11_1 => ?_)
    · replace c11_1 := bI_0.mp c11_1
      try simp only [decide_eq_true_eq, decide_eq_false_iff_not] at c11_1
      refine lv_bipush (v := (-2)) hx hb dX6_told_40 (by decide) ?_
      rw [hQ]
      exact g_iret (wd := wM G ad) hx hb hr rfl hlocks hW hS (by skip; refine ⟨?_, rfl⟩; simp [k_rN, c11_1]) dX6_told_42
    · replace c11_1 := bI_1.mp c11_1
      obtain ⟨oN, hoN, eoN⟩ := okN_nI (k := 4) (by decide) c11_1
      subst eoN
      have t_oN : tn (nI oN) = oN := tn_nI (by omega)
      have k_oN : okN (nI 4) (nI oN) = true := okN_of (by decide) hoN
      refine lv_iload_n hx hb dX6_told_14 rfl (lv_at hl 3 rfl) ?_
      refine lv_i2l hx hb dX6_told_15 rfl ?_
      refine lv_lconst (v := lN 0) hx hb dX6_told_16 (by decide) ?_
      refine lv_ldc2 (v := (3)) hx hb hown (hts (.constantLong RX6 84 (3)) (by decide +kernel)) dX6_told_17 ?_
      refine g_pi (va_runS (As := [.long (w.toInt64), .long (lN 0), .long ((3))]) (rest := []) ⟨hx, hb, hml, hown, hts⟩ (c_X6_inB l w.toInt64 (lN 0) ((3)) (okN (nI 4) w) (inL_N (k := 4) (by decide) (by decide) _)) (va_cwS 3 hts gX6_told_X6_in rfl rfl rfl (by decide +kernel) ⟨Nat.le_of_ble_eq_true rfl, Nat.le_of_ble_eq_true rfl⟩) p_preS rfl rfl hl.1 rfl (lv_room (Nat.le_of_ble_eq_true rfl)) dX6_told_20 ⟨Nat.le_refl _, Nat.le_refl _⟩) hW hS (fun H locs hW hS => ?_)
      refine lv_if_ne (tgt := 43) hx hb dX6_told_23 (by decide) (fun c23_2 => ?_) (fun c23_2 => ?_)
      · replace c23_2 := bI_1.mp c23_2
        obtain ⟨wN, hwN, ewN⟩ := okN_nI (k := 4) (by decide) c23_2
        subst ewN
        have t_wN : tn (nI wN) = wN := tn_nI (by omega)
        have k_wN : okN (nI 4) (nI wN) = true := okN_of (by decide) hwN
        refine lv_iload_n hx hb dX6_told_43 rfl (lv_at hl 3 rfl) ?_
        refine lv_bipush (v := nI 10) hx hb dX6_told_44 (by decide) ?_
        refine lv_icmp_lt (tgt := 84) hx hb dX6_told_46 (by decide) (fun c46_3 => ?_) (fun c46_3 => ?_)
        · replace c46_3 : wN < 10 := (nI_ltI (show wN < 2147483648 by omega) (show 10 < 2147483648 by omega)).mp c46_3
          refine lv_iload_n hx hb dX6_told_84 rfl (lv_at hl 3 rfl) ?_
          refine lv_if_ne (tgt := 99) hx hb dX6_told_85 (by decide) (fun c85_4 => ?_) (fun c85_4 => ?_)
          · replace c85_4 : ¬ wN = 0 := fun h => c85_4 ((nI_eq (show wN < 2147483648 by omega) (show 0 < 2147483648 by omega)).mpr h)
            refine lv_iload_n hx hb dX6_told_99 rfl (lv_at hl 3 rfl) ?_
            refine lv_iconst (v := nI 1) hx hb dX6_told_100 (by decide) ?_
            refine lv_icmp_ne (tgt := 115) hx hb dX6_told_101 (by decide) (fun c101_5 => ?_) (fun c101_5 => ?_)
            · replace c101_5 : ¬ wN = 1 := fun h => c101_5 ((nI_eq (show wN < 2147483648 by omega) (show 1 < 2147483648 by omega)).mpr h)
              refine lv_iload_n hx hb dX6_told_115 rfl (lv_at hl 3 rfl) ?_
              refine lv_iconst (v := nI 2) hx hb dX6_told_116 (by decide) ?_
              refine lv_icmp_ne (tgt := 129) hx hb dX6_told_117 (by decide) (fun c117_6 => ?_) (fun c117_6 => ?_)
              · replace c117_6 : ¬ wN = 2 := fun h => c117_6 ((nI_eq (show wN < 2147483648 by omega) (show 2 < 2147483648 by omega)).mpr h)
                refine lv_aload_n hx hb dX6_told_129 rfl (lv_at hl 0 rfl) ?_
                refine lv_iload_n hx hb dX6_told_130 rfl (lv_at hl 1 rfl) ?_
                refine lv_iload_n hx hb dX6_told_131 rfl (lv_at hl 2 rfl) ?_
                refine g_ci (va_runV (As := [.int (nI (rN)), .int (nI (oN))]) (rest := []) ⟨hx, hb, hml, hown, hts⟩ (c_X6_tags l D G ad hI J rN oN (show rN < 4 by omega) (show oN < 4 by omega)) (cwV 2 hts gX6_told_X6_tags rfl rfl rfl (by decide +kernel) ⟨Nat.le_of_ble_eq_true rfl, Nat.le_of_ble_eq_true rfl⟩) (g_preV hK hW 0 (0) (mM (by decide) (by decide)) rfl rfl) rfl rfl hl.1 rfl (lv_room (Nat.le_of_ble_eq_true rfl)) dX6_told_132 ⟨Nat.le_refl _, Nat.le_refl _⟩) hS (fun x8 I8 H locs hp hW hS => ?_)
                obtain ⟨ex8, eI8⟩ := hp
                rw [eI8] at hW
                clear eI8
                rw [hQ]
                exact g_iret (wd := wM G ad) hx hb hr rfl hlocks hW hS (by first | (exfalso; omega) | (subst ex8; refine ⟨?_, rfl⟩; rw [if_pos (by simp [k_rN, k_oN, k_wN])]; simp only [t_rN, t_oN, t_wN, tldM]; (repeat' split) <;> first | rfl | (exfalso; omega))) dX6_told_135
              · replace c117_6 : wN = 2 := (nI_eq (show wN < 2147483648 by omega) (show 2 < 2147483648 by omega)).mp c117_6
                refine lv_aload_n hx hb dX6_told_120 rfl (lv_at hl 0 rfl) ?_
                refine lv_iload_n hx hb dX6_told_121 rfl (lv_at hl 1 rfl) ?_
                refine lv_iload_n hx hb dX6_told_122 rfl (lv_at hl 2 rfl) ?_
                refine g_ci (va_runV (As := [.int (nI (rN)), .int (nI (oN))]) (rest := []) ⟨hx, hb, hml, hown, hts⟩ (c_X6_stable l D G ad hI J rN oN (show rN < 4 by omega) (show oN < 4 by omega)) (cwV 2 hts gX6_told_X6_stable rfl rfl rfl (by decide +kernel) ⟨Nat.le_of_ble_eq_true rfl, Nat.le_of_ble_eq_true rfl⟩) (g_preV hK hW 0 (0) (mM (by decide) (by decide)) rfl rfl) rfl rfl hl.1 rfl (lv_room (Nat.le_of_ble_eq_true rfl)) dX6_told_123 ⟨Nat.le_refl _, Nat.le_refl _⟩) hS (fun x9 I9 H locs hp hW hS => ?_)
                obtain ⟨ex9, eI9⟩ := hp
                rw [eI9] at hW
                clear eI9
                refine lv_goto (tgt := 135) hx hb dX6_told_126 (by decide) ?_
                rw [hQ]
                exact g_iret (wd := wM G ad) hx hb hr rfl hlocks hW hS (by first | (exfalso; omega) | (subst ex9; refine ⟨?_, rfl⟩; rw [if_pos (by simp [k_rN, k_oN, k_wN])]; simp only [t_rN, t_oN, t_wN, tldM]; (repeat' split) <;> first | rfl | (exfalso; omega))) dX6_told_135
            · replace c101_5 : wN = 1 := (nI_eq (show wN < 2147483648 by omega) (show 1 < 2147483648 by omega)).mp c101_5
              refine lv_aload_n hx hb dX6_told_104 rfl (lv_at hl 0 rfl) ?_
              refine r_get hx hb hts hown hK hW 0 (0) 6 (mM (by decide) (by decide)) rfl rfl hinX6 (by decide) hf30 rfl rfl dX6_told_105 ?_
              refine lv_iload_n hx hb dX6_told_108 rfl (lv_at hl 1 rfl) ?_
              refine r_aaldI hx hb hK hW 1 4 (rN) (mM (by decide) (by decide)) rfl (show rN < 33 by omega) (by decide) rfl rfl dX6_told_109 ?_
              refine lv_iload_n hx hb dX6_told_110 rfl (lv_at hl 2 rfl) ?_
              refine rM_iald hx hb hK hW 11 (rN) (oN) (by decide) (by decide) (show rN < 33 by omega) (show oN < 4 by omega) rfl dX6_told_111 (fun x10 ex10 => ?_)
              refine lv_goto (tgt := 135) hx hb dX6_told_112 (by decide) ?_
              rw [hQ]
              exact g_iret (wd := wM G ad) hx hb hr rfl hlocks hW hS (by first | (exfalso; omega) | (subst ex10; refine ⟨?_, rfl⟩; rw [if_pos (by simp [k_rN, k_oN, k_wN])]; simp only [t_rN, t_oN, t_wN, tldM]; (repeat' split) <;> first | rfl | (exfalso; omega))) dX6_told_135
          · replace c85_4 : wN = 0 := (nI_eq (show wN < 2147483648 by omega) (show 0 < 2147483648 by omega)).mp c85_4
            refine lv_aload_n hx hb dX6_told_88 rfl (lv_at hl 0 rfl) ?_
            refine r_get hx hb hts hown hK hW 0 (0) 5 (mM (by decide) (by decide)) rfl rfl hinX6 (by decide) hf27 rfl rfl dX6_told_89 ?_
            refine lv_iload_n hx hb dX6_told_92 rfl (lv_at hl 1 rfl) ?_
            refine r_aaldI hx hb hK hW 1 3 (rN) (mM (by decide) (by decide)) rfl (show rN < 33 by omega) (by decide) rfl rfl dX6_told_93 ?_
            refine lv_iload_n hx hb dX6_told_94 rfl (lv_at hl 2 rfl) ?_
            refine rM_iald hx hb hK hW 10 (rN) (oN) (by decide) (by decide) (show rN < 33 by omega) (show oN < 4 by omega) rfl dX6_told_95 (fun x11 ex11 => ?_)
            refine lv_goto (tgt := 135) hx hb dX6_told_96 (by decide) ?_
            rw [hQ]
            exact g_iret (wd := wM G ad) hx hb hr rfl hlocks hW hS (by first | (exfalso; omega) | (subst ex11; refine ⟨?_, rfl⟩; rw [if_pos (by simp [k_rN, k_oN, k_wN])]; simp only [t_rN, t_oN, t_wN, tldM]; (repeat' split) <;> first | rfl | (exfalso; omega))) dX6_told_135
        · replace c46_3 : ¬ (wN < 10) := fun h => c46_3 ((nI_ltI (show wN < 2147483648 by omega) (show 10 < 2147483648 by omega)).mpr h)
          refine lv_iload_n hx hb dX6_told_49 rfl (lv_at hl 2 rfl) ?_
          refine lv_iload_n hx hb dX6_told_50 rfl (lv_at hl 1 rfl) ?_
          refine lv_icmp_ne (tgt := 68) hx hb dX6_told_51 (by decide) (fun c51_11 => ?_) (fun c51_11 => ?_)
          · replace c51_11 : ¬ oN = rN := fun h => c51_11 ((nI_eq (show oN < 2147483648 by omega) (show rN < 2147483648 by omega)).mpr h)
            refine lv_aload_n hx hb dX6_told_68 rfl (lv_at hl 0 rfl) ?_
            refine r_get hx hb hts hown hK hW 0 (0) 7 (mM (by decide) (by decide)) rfl rfl hinX6 (by decide) hf33 rfl rfl dX6_told_69 ?_
            refine lv_iconst (v := nI 4) hx hb dX6_told_72 (by decide) ?_
            refine lv_iload_n hx hb dX6_told_73 rfl (lv_at hl 1 rfl) ?_
            refine lv_imul hx hb dX6_told_74 (r_top (pk_mul _ _) ?_)
            refine lv_iload_n hx hb dX6_told_75 rfl (lv_at hl 2 rfl) ?_
            refine lv_iadd hx hb dX6_told_76 (r_top (nI_add _ _) ?_)
            refine r_aaldI hx hb hK hW 1 5 ((4 * rN) + oN) (mM (by decide) (by decide)) rfl (show (4 * rN) + oN < 16 by omega) (by decide) rfl rfl dX6_told_77 ?_
            refine lv_iload_n hx hb dX6_told_78 rfl (lv_at hl 3 rfl) ?_
            refine lv_bipush (v := nI 10) hx hb dX6_told_79 (by decide) ?_
            refine lv_isub hx hb dX6_told_81 (r_top (pk_sub (show 10 ≤ wN by omega)) ?_)
            refine rM_iald hx hb hK hW 17 ((4 * rN) + oN) (wN - 10) (by decide) (by decide) (show (4 * rN) + oN < 16 by omega) (show wN - 10 < 4 by omega) rfl dX6_told_82 (fun x13 ex13 => ?_)
            rw [hQ]
            exact g_iret (wd := wM G ad) hx hb hr rfl hlocks hW hS (by first | (exfalso; omega) | (subst ex13; refine ⟨?_, rfl⟩; rw [if_pos (by simp [k_rN, k_oN, k_wN])]; simp only [t_rN, t_oN, t_wN, tldM]; (repeat' split) <;> first | rfl | (exfalso; omega))) dX6_told_83
          · replace c51_11 : oN = rN := (nI_eq (show oN < 2147483648 by omega) (show rN < 2147483648 by omega)).mp c51_11
            refine lv_aload_n hx hb dX6_told_54 rfl (lv_at hl 0 rfl) ?_
            refine r_get hx hb hts hown hK hW 0 (0) 5 (mM (by decide) (by decide)) rfl rfl hinX6 (by decide) hf27 rfl rfl dX6_told_55 ?_
            refine lv_iload_n hx hb dX6_told_58 rfl (lv_at hl 1 rfl) ?_
            refine r_aaldI hx hb hK hW 1 3 (rN) (mM (by decide) (by decide)) rfl (show rN < 33 by omega) (by decide) rfl rfl dX6_told_59 ?_
            refine lv_iload_n hx hb dX6_told_60 rfl (lv_at hl 3 rfl) ?_
            refine lv_bipush (v := nI 10) hx hb dX6_told_61 (by decide) ?_
            refine lv_isub hx hb dX6_told_63 (r_top (pk_sub (show 10 ≤ wN by omega)) ?_)
            refine rM_iald hx hb hK hW 10 (rN) (wN - 10) (by decide) (by decide) (show rN < 33 by omega) (show wN - 10 < 4 by omega) rfl dX6_told_64 (fun x14 ex14 => ?_)
            refine lv_goto (tgt := 83) hx hb dX6_told_65 (by decide) ?_
            rw [hQ]
            exact g_iret (wd := wM G ad) hx hb hr rfl hlocks hW hS (by first | (exfalso; omega) | (subst ex14; refine ⟨?_, rfl⟩; rw [if_pos (by simp [k_rN, k_oN, k_wN])]; simp only [t_rN, t_oN, t_wN, tldM]; (repeat' split) <;> first | rfl | (exfalso; omega))) dX6_told_83
      · replace c23_2 := bI_0.mp c23_2
        try simp only [decide_eq_true_eq, decide_eq_false_iff_not] at c23_2
        refine lv_iload_n hx hb dX6_told_26 rfl (lv_at hl 3 rfl) ?_
        refine lv_i2l hx hb dX6_told_27 rfl ?_
        refine lv_ldc2 (v := (10)) hx hb hown (hts (.constantLong RX6 172 (10)) (by decide +kernel)) dX6_told_28 ?_
        refine lv_ldc2 (v := (13)) hx hb hown (hts (.constantLong RX6 174 (13)) (by decide +kernel)) dX6_told_31 ?_
        refine g_pi (va_runS (As := [.long (w.toInt64), .long ((10)), .long ((13))]) (rest := []) ⟨hx, hb, hml, hown, hts⟩ (c_X6_inB l w.toInt64 ((10)) ((13)) (okR (nI 10) (nI 13) w) (inL_R (by decide) (by decide) _)) (va_cwS 3 hts gX6_told_X6_in rfl rfl rfl (by decide +kernel) ⟨Nat.le_of_ble_eq_true rfl, Nat.le_of_ble_eq_true rfl⟩) p_preS rfl rfl hl.1 rfl (lv_room (Nat.le_of_ble_eq_true rfl)) dX6_told_34 ⟨Nat.le_refl _, Nat.le_refl _⟩) hW hS (fun H locs hW hS => ?_)
        refine lv_if_ne (tgt := 43) hx hb dX6_told_37 (by decide) (fun c37_14 => ?_) (fun c37_14 => ?_)
        · replace c37_14 := bI_1.mp c37_14
          try simp only [decide_eq_true_eq, decide_eq_false_iff_not] at c37_14
          obtain ⟨wN, hlw, hwN, ew⟩ := okR_nI (by decide) (by decide) c37_14
          subst ew
          have t_wN : tn (nI wN) = wN := tn_nI (by omega)
          have k_wN : okR (nI 10) (nI 13) (nI wN) = true := okR_nN (by decide) (by decide) hlw hwN
          refine lv_iload_n hx hb dX6_told_43 rfl (lv_at hl 3 rfl) ?_
          refine lv_bipush (v := nI 10) hx hb dX6_told_44 (by decide) ?_
          refine lv_icmp_lt (tgt := 84) hx hb dX6_told_46 (by decide) (fun c46_15 => ?_) (fun c46_15 => ?_)
          · replace c46_15 : wN < 10 := (nI_ltI (show wN < 2147483648 by omega) (show 10 < 2147483648 by omega)).mp c46_15
            refine lv_iload_n hx hb dX6_told_84 rfl (lv_at hl 3 rfl) ?_
            refine lv_if_ne (tgt := 99) hx hb dX6_told_85 (by decide) (fun c85_16 => ?_) (fun c85_16 => ?_)
            · replace c85_16 : ¬ wN = 0 := fun h => c85_16 ((nI_eq (show wN < 2147483648 by omega) (show 0 < 2147483648 by omega)).mpr h)
              refine lv_iload_n hx hb dX6_told_99 rfl (lv_at hl 3 rfl) ?_
              refine lv_iconst (v := nI 1) hx hb dX6_told_100 (by decide) ?_
              refine lv_icmp_ne (tgt := 115) hx hb dX6_told_101 (by decide) (fun c101_17 => ?_) (fun c101_17 => ?_)
              · replace c101_17 : ¬ wN = 1 := fun h => c101_17 ((nI_eq (show wN < 2147483648 by omega) (show 1 < 2147483648 by omega)).mpr h)
                refine lv_iload_n hx hb dX6_told_115 rfl (lv_at hl 3 rfl) ?_
                refine lv_iconst (v := nI 2) hx hb dX6_told_116 (by decide) ?_
                refine lv_icmp_ne (tgt := 129) hx hb dX6_told_117 (by decide) (fun c117_18 => ?_) (fun c117_18 => ?_)
                · replace c117_18 : ¬ wN = 2 := fun h => c117_18 ((nI_eq (show wN < 2147483648 by omega) (show 2 < 2147483648 by omega)).mpr h)
                  refine lv_aload_n hx hb dX6_told_129 rfl (lv_at hl 0 rfl) ?_
                  refine lv_iload_n hx hb dX6_told_130 rfl (lv_at hl 1 rfl) ?_
                  refine lv_iload_n hx hb dX6_told_131 rfl (lv_at hl 2 rfl) ?_
                  refine g_ci (va_runV (As := [.int (nI (rN)), .int (nI (oN))]) (rest := []) ⟨hx, hb, hml, hown, hts⟩ (c_X6_tags l D G ad hI J rN oN (show rN < 4 by omega) (show oN < 4 by omega)) (cwV 2 hts gX6_told_X6_tags rfl rfl rfl (by decide +kernel) ⟨Nat.le_of_ble_eq_true rfl, Nat.le_of_ble_eq_true rfl⟩) (g_preV hK hW 0 (0) (mM (by decide) (by decide)) rfl rfl) rfl rfl hl.1 rfl (lv_room (Nat.le_of_ble_eq_true rfl)) dX6_told_132 ⟨Nat.le_refl _, Nat.le_refl _⟩) hS (fun x20 I20 H locs hp hW hS => ?_)
                  obtain ⟨ex20, eI20⟩ := hp
                  rw [eI20] at hW
                  clear eI20
                  rw [hQ]
                  exact g_iret (wd := wM G ad) hx hb hr rfl hlocks hW hS (by first | (exfalso; omega) | (subst ex20; refine ⟨?_, rfl⟩; rw [if_pos (by simp [k_rN, k_oN, c23_2, k_wN])]; simp only [t_rN, t_oN, t_wN, tldM]; (repeat' split) <;> first | rfl | (exfalso; omega))) dX6_told_135
                · replace c117_18 : wN = 2 := (nI_eq (show wN < 2147483648 by omega) (show 2 < 2147483648 by omega)).mp c117_18
                  refine lv_aload_n hx hb dX6_told_120 rfl (lv_at hl 0 rfl) ?_
                  refine lv_iload_n hx hb dX6_told_121 rfl (lv_at hl 1 rfl) ?_
                  refine lv_iload_n hx hb dX6_told_122 rfl (lv_at hl 2 rfl) ?_
                  refine g_ci (va_runV (As := [.int (nI (rN)), .int (nI (oN))]) (rest := []) ⟨hx, hb, hml, hown, hts⟩ (c_X6_stable l D G ad hI J rN oN (show rN < 4 by omega) (show oN < 4 by omega)) (cwV 2 hts gX6_told_X6_stable rfl rfl rfl (by decide +kernel) ⟨Nat.le_of_ble_eq_true rfl, Nat.le_of_ble_eq_true rfl⟩) (g_preV hK hW 0 (0) (mM (by decide) (by decide)) rfl rfl) rfl rfl hl.1 rfl (lv_room (Nat.le_of_ble_eq_true rfl)) dX6_told_123 ⟨Nat.le_refl _, Nat.le_refl _⟩) hS (fun x21 I21 H locs hp hW hS => ?_)
                  obtain ⟨ex21, eI21⟩ := hp
                  rw [eI21] at hW
                  clear eI21
                  refine lv_goto (tgt := 135) hx hb dX6_told_126 (by decide) ?_
                  rw [hQ]
                  exact g_iret (wd := wM G ad) hx hb hr rfl hlocks hW hS (by first | (exfalso; omega) | (subst ex21; refine ⟨?_, rfl⟩; rw [if_pos (by simp [k_rN, k_oN, c23_2, k_wN])]; simp only [t_rN, t_oN, t_wN, tldM]; (repeat' split) <;> first | rfl | (exfalso; omega))) dX6_told_135
              · replace c101_17 : wN = 1 := (nI_eq (show wN < 2147483648 by omega) (show 1 < 2147483648 by omega)).mp c101_17
                refine lv_aload_n hx hb dX6_told_104 rfl (lv_at hl 0 rfl) ?_
                refine r_get hx hb hts hown hK hW 0 (0) 6 (mM (by decide) (by decide)) rfl rfl hinX6 (by decide) hf30 rfl rfl dX6_told_105 ?_
                refine lv_iload_n hx hb dX6_told_108 rfl (lv_at hl 1 rfl) ?_
                refine r_aaldI hx hb hK hW 1 4 (rN) (mM (by decide) (by decide)) rfl (show rN < 33 by omega) (by decide) rfl rfl dX6_told_109 ?_
                refine lv_iload_n hx hb dX6_told_110 rfl (lv_at hl 2 rfl) ?_
                refine rM_iald hx hb hK hW 11 (rN) (oN) (by decide) (by decide) (show rN < 33 by omega) (show oN < 4 by omega) rfl dX6_told_111 (fun x22 ex22 => ?_)
                refine lv_goto (tgt := 135) hx hb dX6_told_112 (by decide) ?_
                rw [hQ]
                exact g_iret (wd := wM G ad) hx hb hr rfl hlocks hW hS (by first | (exfalso; omega) | (subst ex22; refine ⟨?_, rfl⟩; rw [if_pos (by simp [k_rN, k_oN, c23_2, k_wN])]; simp only [t_rN, t_oN, t_wN, tldM]; (repeat' split) <;> first | rfl | (exfalso; omega))) dX6_told_135
            · replace c85_16 : wN = 0 := (nI_eq (show wN < 2147483648 by omega) (show 0 < 2147483648 by omega)).mp c85_16
              refine lv_aload_n hx hb dX6_told_88 rfl (lv_at hl 0 rfl) ?_
              refine r_get hx hb hts hown hK hW 0 (0) 5 (mM (by decide) (by decide)) rfl rfl hinX6 (by decide) hf27 rfl rfl dX6_told_89 ?_
              refine lv_iload_n hx hb dX6_told_92 rfl (lv_at hl 1 rfl) ?_
              refine r_aaldI hx hb hK hW 1 3 (rN) (mM (by decide) (by decide)) rfl (show rN < 33 by omega) (by decide) rfl rfl dX6_told_93 ?_
              refine lv_iload_n hx hb dX6_told_94 rfl (lv_at hl 2 rfl) ?_
              refine rM_iald hx hb hK hW 10 (rN) (oN) (by decide) (by decide) (show rN < 33 by omega) (show oN < 4 by omega) rfl dX6_told_95 (fun x23 ex23 => ?_)
              refine lv_goto (tgt := 135) hx hb dX6_told_96 (by decide) ?_
              rw [hQ]
              exact g_iret (wd := wM G ad) hx hb hr rfl hlocks hW hS (by first | (exfalso; omega) | (subst ex23; refine ⟨?_, rfl⟩; rw [if_pos (by simp [k_rN, k_oN, c23_2, k_wN])]; simp only [t_rN, t_oN, t_wN, tldM]; (repeat' split) <;> first | rfl | (exfalso; omega))) dX6_told_135
          · replace c46_15 : ¬ (wN < 10) := fun h => c46_15 ((nI_ltI (show wN < 2147483648 by omega) (show 10 < 2147483648 by omega)).mpr h)
            refine lv_iload_n hx hb dX6_told_49 rfl (lv_at hl 2 rfl) ?_
            refine lv_iload_n hx hb dX6_told_50 rfl (lv_at hl 1 rfl) ?_
            refine lv_icmp_ne (tgt := 68) hx hb dX6_told_51 (by decide) (fun c51_23 => ?_) (fun c51_23 => ?_)
            · replace c51_23 : ¬ oN = rN := fun h => c51_23 ((nI_eq (show oN < 2147483648 by omega) (show rN < 2147483648 by omega)).mpr h)
              refine lv_aload_n hx hb dX6_told_68 rfl (lv_at hl 0 rfl) ?_
              refine r_get hx hb hts hown hK hW 0 (0) 7 (mM (by decide) (by decide)) rfl rfl hinX6 (by decide) hf33 rfl rfl dX6_told_69 ?_
              refine lv_iconst (v := nI 4) hx hb dX6_told_72 (by decide) ?_
              refine lv_iload_n hx hb dX6_told_73 rfl (lv_at hl 1 rfl) ?_
              refine lv_imul hx hb dX6_told_74 (r_top (pk_mul _ _) ?_)
              refine lv_iload_n hx hb dX6_told_75 rfl (lv_at hl 2 rfl) ?_
              refine lv_iadd hx hb dX6_told_76 (r_top (nI_add _ _) ?_)
              refine r_aaldI hx hb hK hW 1 5 ((4 * rN) + oN) (mM (by decide) (by decide)) rfl (show (4 * rN) + oN < 16 by omega) (by decide) rfl rfl dX6_told_77 ?_
              refine lv_iload_n hx hb dX6_told_78 rfl (lv_at hl 3 rfl) ?_
              refine lv_bipush (v := nI 10) hx hb dX6_told_79 (by decide) ?_
              refine lv_isub hx hb dX6_told_81 (r_top (pk_sub (show 10 ≤ wN by omega)) ?_)
              refine rM_iald hx hb hK hW 17 ((4 * rN) + oN) (wN - 10) (by decide) (by decide) (show (4 * rN) + oN < 16 by omega) (show wN - 10 < 4 by omega) rfl dX6_told_82 (fun x25 ex25 => ?_)
              rw [hQ]
              exact g_iret (wd := wM G ad) hx hb hr rfl hlocks hW hS (by first | (exfalso; omega) | (subst ex25; refine ⟨?_, rfl⟩; rw [if_pos (by simp [k_rN, k_oN, c23_2, k_wN])]; simp only [t_rN, t_oN, t_wN, tldM]; (repeat' split) <;> first | rfl | (exfalso; omega))) dX6_told_83
            · replace c51_23 : oN = rN := (nI_eq (show oN < 2147483648 by omega) (show rN < 2147483648 by omega)).mp c51_23
              refine lv_aload_n hx hb dX6_told_54 rfl (lv_at hl 0 rfl) ?_
              refine r_get hx hb hts hown hK hW 0 (0) 5 (mM (by decide) (by decide)) rfl rfl hinX6 (by decide) hf27 rfl rfl dX6_told_55 ?_
              refine lv_iload_n hx hb dX6_told_58 rfl (lv_at hl 1 rfl) ?_
              refine r_aaldI hx hb hK hW 1 3 (rN) (mM (by decide) (by decide)) rfl (show rN < 33 by omega) (by decide) rfl rfl dX6_told_59 ?_
              refine lv_iload_n hx hb dX6_told_60 rfl (lv_at hl 3 rfl) ?_
              refine lv_bipush (v := nI 10) hx hb dX6_told_61 (by decide) ?_
              refine lv_isub hx hb dX6_told_63 (r_top (pk_sub (show 10 ≤ wN by omega)) ?_)
              refine rM_iald hx hb hK hW 10 (rN) (wN - 10) (by decide) (by decide) (show rN < 33 by omega) (show wN - 10 < 4 by omega) rfl dX6_told_64 (fun x26 ex26 => ?_)
              refine lv_goto (tgt := 83) hx hb dX6_told_65 (by decide) ?_
              rw [hQ]
              exact g_iret (wd := wM G ad) hx hb hr rfl hlocks hW hS (by first | (exfalso; omega) | (subst ex26; refine ⟨?_, rfl⟩; rw [if_pos (by simp [k_rN, k_oN, c23_2, k_wN])]; simp only [t_rN, t_oN, t_wN, tldM]; (repeat' split) <;> first | rfl | (exfalso; omega))) dX6_told_83
        · replace c37_14 := bI_0.mp c37_14
          try simp only [decide_eq_true_eq, decide_eq_false_iff_not] at c37_14
          refine lv_bipush (v := (-2)) hx hb dX6_told_40 (by decide) ?_
          rw [hQ]
          exact g_iret (wd := wM G ad) hx hb hr rfl hlocks hW hS (by skip; refine ⟨?_, rfl⟩; simp [k_rN, k_oN, c23_2, c37_14]) dX6_told_42

set_option maxHeartbeats 4000000 in
set_option maxRecDepth 100000 in
theorem c_X6_dot (l : Launch) (D : va_G) (G : Nat → ClassId) (ad : Nat → Nat → Nat) (hI : wI LM ad) (J : St) (r k w : Int32) (hM : okM J) : Met l yX6_dot wsX6_dot ({ frames := 2, cells := 0, slots := 0, locals := 45 } : Room) (gPre D G LM ad [.ref (ad 0 (0)), .int (r), .int (k), .int (w)] (wM G ad J)) (gQi D LM ad (wM G ad) (fun r9 u => r9 = (if okN (nI 3) w = true then (if (okN (nI 4) r && okN (nI (mk J (tn r))) k) = true then dtM J (tn r) (tn k) (tn w) else -12) else -2) ∧ u = J)) 0 0 (wA LM ad) := by
  refine g_entry (C := RX6) (cc := cX6_dot) (maxL := 5) (ret := (some .int)) rfl (by decide) rfl (Nat.le_of_ble_eq_true rfl) (fun p e s m args below meth c Q ls hQ hx hb hr hts hown hlocks hml hW hK hl => ?_)
  have hl : lv_has ls 5 [(0, .ref (ad 0 (0))), (1, .int (r)), (2, .int (k)), (3, .int (w))] := hl
  have hS := va_S.rf (A := wA LM ad) (H0 := s.heap)
  have hinX6 : ∀ w ∈ wsX60, w ∈ wsX6_dot := by decide +kernel
  have hf9 := hts (.fieldLink RX6 9 "JoinedStoresModel" "made" "[I") (by decide +kernel)
  have hf15 := hts (.fieldLink RX6 15 "JoinedStoresModel" "values" "[[I") (by decide +kernel)
  have hf18 := hts (.fieldLink RX6 18 "JoinedStoresModel" "stamps" "[[I") (by decide +kernel)
  have hf21 := hts (.fieldLink RX6 21 "JoinedStoresModel" "objects" "[[I") (by decide +kernel)
  refine lv_iload_n hx hb dX6_dot_0 rfl (lv_at hl 3 rfl) ?_
  refine lv_i2l hx hb dX6_dot_1 rfl ?_
  refine lv_lconst (v := lN 0) hx hb dX6_dot_2 (by decide) ?_
  refine lv_ldc2 (v := (2)) hx hb hown (hts (.constantLong RX6 90 (2)) (by decide +kernel)) dX6_dot_3 ?_
  refine g_pi (va_runS (As := [.long (w.toInt64), .long (lN 0), .long ((2))]) (rest := []) ⟨hx, hb, hml, hown, hts⟩ (c_X6_inB l w.toInt64 (lN 0) ((2)) (okN (nI 3) w) (inL_N (k := 3) (by decide) (by decide) _)) (va_cwS 3 hts gX6_dot_X6_in rfl rfl rfl (by decide +kernel) ⟨Nat.le_of_ble_eq_true rfl, Nat.le_of_ble_eq_true rfl⟩) p_preS rfl rfl hl.1 rfl (lv_room (Nat.le_of_ble_eq_true rfl)) dX6_dot_6 ⟨Nat.le_refl _, Nat.le_refl _⟩) hW hS (fun H locs hW hS => ?_)
  refine lv_if_ne (tgt := 15) hx hb dX6_dot_9 (by decide) (fun c9_0 => ?_) (fun c9_0 => ?_)
  · replace c9_0 := bI_1.mp c9_0
    obtain ⟨wN, hwN, ewN⟩ := okN_nI (k := 3) (by decide) c9_0
    subst ewN
    have t_wN : tn (nI wN) = wN := tn_nI (by omega)
    have k_wN : okN (nI 3) (nI wN) = true := okN_of (by decide) hwN
    refine lv_iload_n hx hb dX6_dot_15 rfl (lv_at hl 1 rfl) ?_
    refine g_pi (va_runS (As := [.int (r)]) (rest := []) ⟨hx, hb, hml, hown, hts⟩ (c_X6_isReplica l r) (va_cwS 1 hts gX6_dot_X6_isReplica rfl rfl rfl (by decide +kernel) ⟨Nat.le_of_ble_eq_true rfl, Nat.le_of_ble_eq_true rfl⟩) p_preS rfl rfl hl.1 rfl (lv_room (Nat.le_of_ble_eq_true rfl)) dX6_dot_16 ⟨Nat.le_refl _, Nat.le_refl _⟩) hW hS (fun H locs hW hS => ?_)
    refine lv_if_eq (tgt := 40) hx hb dX6_dot_19 (by decide) (fun c19_1 => ?_) (fun c19_1 => ?_)
    · replace c19_1 := bI_0.mp c19_1
      try simp only [decide_eq_true_eq, decide_eq_false_iff_not] at c19_1
      refine lv_bipush (v := (-12)) hx hb dX6_dot_40 (by decide) ?_
      rw [hQ]
      exact g_iret (wd := wM G ad) hx hb hr rfl hlocks hW hS (by skip; refine ⟨?_, rfl⟩; rw [if_pos (by simp [k_wN, c19_1]), if_neg (by simp [k_wN, c19_1, t_wN])]) dX6_dot_42
    · replace c19_1 := bI_1.mp c19_1
      obtain ⟨rN, hrN, erN⟩ := okN_nI (k := 4) (by decide) c19_1
      subst erN
      have t_rN : tn (nI rN) = rN := tn_nI (by omega)
      have k_rN : okN (nI 4) (nI rN) = true := okN_of (by decide) hrN
      refine lv_iload_n hx hb dX6_dot_22 rfl (lv_at hl 2 rfl) ?_
      refine lv_i2l hx hb dX6_dot_23 rfl ?_
      refine lv_lconst (v := lN 0) hx hb dX6_dot_24 (by decide) ?_
      refine lv_aload_n hx hb dX6_dot_25 rfl (lv_at hl 0 rfl) ?_
      refine r_get hx hb hts hown hK hW 0 (0) 0 (mM (by decide) (by decide)) rfl rfl hinX6 (by decide) hf9 rfl rfl dX6_dot_26 ?_
      refine lv_iload_n hx hb dX6_dot_29 rfl (lv_at hl 1 rfl) ?_
      refine rM_iald hx hb hK hW 12 (0) (rN) (by decide) (by decide) (by decide) (show rN < 4 by omega) rfl dX6_dot_30 (fun x3 ex3 => ?_)
      have hm31 := (hM rN (by omega)).2
      refine r_top (show x3 = nI (mk J rN) from (ex3.trans (hM rN (by omega)).1)) ?_
      refine lv_iconst (v := nI 1) hx hb dX6_dot_31 (by decide) ?_
      refine lv_isub hx hb dX6_dot_32 (lv_topi (fun x4 ex4 => ?_))
      refine lv_i2l hx hb dX6_dot_33 rfl ?_
      refine g_pi (va_runS (As := [.long (k.toInt64), .long (lN 0), .long (x4.toInt64)]) (rest := []) ⟨hx, hb, hml, hown, hts⟩ (c_X6_inB l k.toInt64 (lN 0) x4.toInt64 (okN (nI (mk J rN)) k) (inL_N (k := mk J rN) (by omega) (by rw [ex4]; exact dec_toInt64 (by omega)) _)) (va_cwS 3 hts gX6_dot_X6_in rfl rfl rfl (by decide +kernel) ⟨Nat.le_of_ble_eq_true rfl, Nat.le_of_ble_eq_true rfl⟩) p_preS rfl rfl hl.1 rfl (lv_room (Nat.le_of_ble_eq_true rfl)) dX6_dot_34 ⟨Nat.le_refl _, Nat.le_refl _⟩) hW hS (fun H locs hW hS => ?_)
      refine lv_if_ne (tgt := 43) hx hb dX6_dot_37 (by decide) (fun c37_4 => ?_) (fun c37_4 => ?_)
      · replace c37_4 := bI_1.mp c37_4
        obtain ⟨kN, hkN, ekN⟩ := okN_nI (k := mk J rN) (by first | omega | (have := hT.2; omega)) c37_4
        subst ekN
        have t_kN : tn (nI kN) = kN := tn_nI (by omega)
        have k_kN : okN (nI (mk J rN)) (nI kN) = true := okN_of (by first | omega | (have := hT.2; omega)) hkN
        refine lv_aload_n hx hb dX6_dot_43 rfl (lv_at hl 0 rfl) ?_
        refine r_get hx hb hts hown hK hW 0 (0) 3 (mM (by decide) (by decide)) rfl rfl hinX6 (by decide) hf21 rfl rfl dX6_dot_44 ?_
        refine lv_iload_n hx hb dX6_dot_47 rfl (lv_at hl 1 rfl) ?_
        refine r_aaldI hx hb hK hW 1 2 (rN) (mM (by decide) (by decide)) rfl (show rN < 4 by omega) (by decide) rfl rfl dX6_dot_48 ?_
        refine lv_iload_n hx hb dX6_dot_49 rfl (lv_at hl 2 rfl) ?_
        refine rM_iald hx hb hK hW 15 (rN) (kN) (by decide) (by decide) (show rN < 4 by omega) (show kN < 31 by omega) rfl dX6_dot_50 (fun x6 ex6 => ?_)
        refine lv_istore (lv' := [(4, .int (x6)), (0, .ref (ad 0 (0))), (1, .int (nI (rN))), (2, .int (nI (kN))), (3, .int (nI (wN)))]) hx hb dX6_dot_51 hl (by decide) rfl (fun ls hl => ?_)
        refine lv_iload_n hx hb dX6_dot_53 rfl (lv_at hl 4 rfl) ?_
        refine lv_if_ne (tgt := 68) hx hb dX6_dot_54 (by decide) (fun c54_6 => ?_) (fun c54_6 => ?_)
        · replace c54_6 : ¬ wN = 0 := fun h => c54_6 ((nI_eq (show wN < 2147483648 by omega) (show 0 < 2147483648 by omega)).mpr h)
          refine lv_iload_n hx hb dX6_dot_68 rfl (lv_at hl 4 rfl) ?_
          refine lv_iconst (v := nI 1) hx hb dX6_dot_69 (by decide) ?_
          refine lv_icmp_ne (tgt := 84) hx hb dX6_dot_70 (by decide) (fun c70_7 => ?_) (fun c70_7 => ?_)
          · replace c70_7 : ¬ wN = 1 := fun h => c70_7 ((nI_eq (show wN < 2147483648 by omega) (show 1 < 2147483648 by omega)).mpr h)
            refine lv_bipush (v := nI 10) hx hb dX6_dot_84 (by decide) ?_
            refine lv_iload hx hb dX6_dot_86 (lv_at hl 0 rfl) ?_
            refine lv_iconst (v := nI 4) hx hb dX6_dot_88 (by decide) ?_
            refine lv_idiv hx hb dX6_dot_89 (by decide) (lv_topi (fun x9 ex9 => ?_))
            refine lv_imul hx hb dX6_dot_90 (lv_topi (fun x10 ex10 => ?_))
            refine lv_iload hx hb dX6_dot_91 (lv_at hl 0 rfl) ?_
            refine lv_iconst (v := nI 4) hx hb dX6_dot_93 (by decide) ?_
            refine lv_irem hx hb dX6_dot_94 (by decide) (lv_topi (fun x11 ex11 => ?_))
            refine lv_iadd hx hb dX6_dot_95 (lv_topi (fun x12 ex12 => ?_))
            rw [hQ]
            exact g_iret (wd := wM G ad) hx hb hr rfl hlocks hW hS (by subst ex12 ex11 ex10 ex9 ex6 ex4 ex3; refine ⟨?_, rfl⟩; rw [if_pos (by simp [k_wN, k_rN, k_kN]), if_pos (by simp [k_wN, k_rN, k_kN, t_wN, t_rN, t_kN])]; simp only [t_wN, t_rN, t_kN, dtM]; (repeat' split) <;> first | rfl | (exfalso; omega)) dX6_dot_96
          · replace c70_7 : wN = 1 := (nI_eq (show wN < 2147483648 by omega) (show 1 < 2147483648 by omega)).mp c70_7
            refine lv_aload_n hx hb dX6_dot_73 rfl (lv_at hl 1 rfl) ?_
            refine r_get hx hb hts hown hK hW 0 (0) 2 (mM (by decide) (by decide)) rfl rfl hinX6 (by decide) hf18 rfl rfl dX6_dot_74 ?_
            refine lv_iload_n hx hb dX6_dot_77 rfl (lv_at hl 2 rfl) ?_
            refine r_aaldI hx hb hK hW 1 1 (rN) (mM (by decide) (by decide)) rfl (show rN < 4 by omega) (by decide) rfl rfl dX6_dot_78 ?_
            refine lv_iload_n hx hb dX6_dot_79 rfl (lv_at hl 3 rfl) ?_
            refine rM_iald hx hb hK hW 14 (rN) (kN) (by decide) (by decide) (show rN < 4 by omega) (show kN < 31 by omega) rfl dX6_dot_80 (fun x13 ex13 => ?_)
            refine lv_goto (tgt := 96) hx hb dX6_dot_81 (by decide) ?_
            rw [hQ]
            exact g_iret (wd := wM G ad) hx hb hr rfl hlocks hW hS (by subst ex13 ex6 ex4 ex3; refine ⟨?_, rfl⟩; rw [if_pos (by simp [k_wN, k_rN, k_kN]), if_pos (by simp [k_wN, k_rN, k_kN, t_wN, t_rN, t_kN])]; simp only [t_wN, t_rN, t_kN, dtM]; (repeat' split) <;> first | rfl | (exfalso; omega)) dX6_dot_96
        · replace c54_6 : wN = 0 := (nI_eq (show wN < 2147483648 by omega) (show 0 < 2147483648 by omega)).mp c54_6
          refine lv_aload_n hx hb dX6_dot_57 rfl (lv_at hl 1 rfl) ?_
          refine r_get hx hb hts hown hK hW 0 (0) 1 (mM (by decide) (by decide)) rfl rfl hinX6 (by decide) hf15 rfl rfl dX6_dot_58 ?_
          refine lv_iload_n hx hb dX6_dot_61 rfl (lv_at hl 2 rfl) ?_
          refine r_aaldI hx hb hK hW 1 0 (rN) (mM (by decide) (by decide)) rfl (show rN < 4 by omega) (by decide) rfl rfl dX6_dot_62 ?_
          refine lv_iload_n hx hb dX6_dot_63 rfl (lv_at hl 3 rfl) ?_
          refine rM_iald hx hb hK hW 13 (rN) (kN) (by decide) (by decide) (show rN < 4 by omega) (show kN < 31 by omega) rfl dX6_dot_64 (fun x14 ex14 => ?_)
          refine lv_goto (tgt := 96) hx hb dX6_dot_65 (by decide) ?_
          rw [hQ]
          exact g_iret (wd := wM G ad) hx hb hr rfl hlocks hW hS (by subst ex14 ex6 ex4 ex3; refine ⟨?_, rfl⟩; rw [if_pos (by simp [k_wN, k_rN, k_kN]), if_pos (by simp [k_wN, k_rN, k_kN, t_wN, t_rN, t_kN])]; simp only [t_wN, t_rN, t_kN, dtM]; (repeat' split) <;> first | rfl | (exfalso; omega)) dX6_dot_96
      · replace c37_4 := bI_0.mp c37_4
        try simp only [decide_eq_true_eq, decide_eq_false_iff_not] at c37_4
        refine lv_bipush (v := (-12)) hx hb dX6_dot_40 (by decide) ?_
        rw [hQ]
        exact g_iret (wd := wM G ad) hx hb hr rfl hlocks hW hS (by subst ex4 ex3; refine ⟨?_, rfl⟩; rw [if_pos (by simp [k_wN, k_rN, c37_4]), if_neg (by simp [k_wN, k_rN, c37_4, t_wN, t_rN])]) dX6_dot_42
  · replace c9_0 := bI_0.mp c9_0
    try simp only [decide_eq_true_eq, decide_eq_false_iff_not] at c9_0
    refine lv_bipush (v := (-2)) hx hb dX6_dot_12 (by decide) ?_
    rw [hQ]
    exact g_iret (wd := wM G ad) hx hb hr rfl hlocks hW hS (by skip; refine ⟨?_, rfl⟩; rw [if_neg (by simp [c9_0])]) dX6_dot_14

set_option maxHeartbeats 4000000 in
set_option maxRecDepth 100000 in
theorem c_X6_handOn (l : Launch) (D : va_G) (G : Nat → ClassId) (ad : Nat → Nat → Nat) (hI : wI LM ad) (J : St) (a b : Nat) (ha : a < 6) (hb6 : b < 6) : Met l yX6_handOn wsX6_handOn ({ frames := 2, cells := 0, slots := 0, locals := 86 } : Room) (gPre D G LM ad [.ref (ad 0 (0)), .int (nI (a)), .int (nI (b))] (wM G ad J)) (gQv D LM ad (wM G ad) (fun u => u = hnM J a b)) 0 0 (wA LM ad) := by
  refine g_entry (C := RX6) (cc := cX6_handOn) (maxL := 3) (ret := none) rfl (by decide) rfl (Nat.le_of_ble_eq_true rfl) (fun p e s m args below meth c Q ls hQ hx hb hr hts hown hlocks hml hW hK hl => ?_)
  have hl : lv_has ls 3 [(0, .ref (ad 0 (0))), (1, .int (nI (a))), (2, .int (nI (b)))] := hl
  have hS := va_S.rf (A := wA LM ad) (H0 := s.heap)
  have hinX6 : ∀ w ∈ wsX60, w ∈ wsX6_handOn := by decide +kernel
  have hf36 := hts (.fieldLink RX6 36 "JoinedStoresModel" "senders" "[I") (by decide +kernel)
  have hf39 := hts (.fieldLink RX6 39 "JoinedStoresModel" "receivers" "[I") (by decide +kernel)
  have hf42 := hts (.fieldLink RX6 42 "JoinedStoresModel" "had" "[[I") (by decide +kernel)
  refine lv_aload_n hx hb dX6_handOn_0 rfl (lv_at hl 0 rfl) ?_
  refine r_get hx hb hts hown hK hW 0 (0) 9 (mM (by decide) (by decide)) rfl rfl hinX6 (by decide) hf36 rfl rfl dX6_handOn_1 ?_
  refine lv_iload_n hx hb dX6_handOn_4 rfl (lv_at hl 2 rfl) ?_
  refine lv_aload_n hx hb dX6_handOn_5 rfl (lv_at hl 0 rfl) ?_
  refine r_get hx hb hts hown hK hW 0 (0) 9 (mM (by decide) (by decide)) rfl rfl hinX6 (by decide) hf36 rfl rfl dX6_handOn_6 ?_
  refine lv_iload_n hx hb dX6_handOn_9 rfl (lv_at hl 1 rfl) ?_
  refine rM_iald hx hb hK hW 21 (0) (a) (by decide) (by decide) (by decide) (show a < 6 by omega) rfl dX6_handOn_10 (fun x1 ex1 => ?_)
  refine rM_iast hx hb hK hI hW hS 21 (0) (b) (by decide) (by decide) (by decide) (show b < 6 by omega) rfl dX6_handOn_11 (fun I2 H locs eI2 hW hS => ?_)
  refine lv_aload_n hx hb dX6_handOn_12 rfl (lv_at hl 0 rfl) ?_
  refine r_get hx hb hts hown hK hW 0 (0) 10 (mM (by decide) (by decide)) rfl rfl hinX6 (by decide) hf39 rfl rfl dX6_handOn_13 ?_
  refine lv_iload_n hx hb dX6_handOn_16 rfl (lv_at hl 2 rfl) ?_
  refine lv_aload_n hx hb dX6_handOn_17 rfl (lv_at hl 0 rfl) ?_
  refine r_get hx hb hts hown hK hW 0 (0) 10 (mM (by decide) (by decide)) rfl rfl hinX6 (by decide) hf39 rfl rfl dX6_handOn_18 ?_
  refine lv_iload_n hx hb dX6_handOn_21 rfl (lv_at hl 1 rfl) ?_
  refine rM_iald hx hb hK hW 22 (0) (a) (by decide) (by decide) (by decide) (show a < 6 by omega) rfl dX6_handOn_22 (fun x3 ex3 => ?_)
  refine rM_iast hx hb hK hI hW hS 22 (0) (b) (by decide) (by decide) (by decide) (show b < 6 by omega) rfl dX6_handOn_23 (fun I4 H locs eI4 hW hS => ?_)
  refine lv_aload_n hx hb dX6_handOn_24 rfl (lv_at hl 0 rfl) ?_
  refine lv_bipush (v := nI 20) hx hb dX6_handOn_25 (by decide) ?_
  refine lv_iload_n hx hb dX6_handOn_27 rfl (lv_at hl 1 rfl) ?_
  refine lv_iadd hx hb dX6_handOn_28 (r_top (nI_add _ _) ?_)
  refine lv_bipush (v := nI 20) hx hb dX6_handOn_29 (by decide) ?_
  refine lv_iload_n hx hb dX6_handOn_31 rfl (lv_at hl 2 rfl) ?_
  refine lv_iadd hx hb dX6_handOn_32 (r_top (nI_add _ _) ?_)
  refine g_cv (va_runV (As := [.int (nI (20 + a)), .int (nI (20 + b))]) (rest := []) ⟨hx, hb, hml, hown, hts⟩ (c_X6_again l D G ad hI I4 (20 + a) (20 + b) (show 20 + a < 33 by omega) (show 20 + b < 33 by omega)) (cwV 2 hts gX6_handOn_X6_again rfl rfl rfl (by decide +kernel) ⟨Nat.le_of_ble_eq_true rfl, Nat.le_of_ble_eq_true rfl⟩) (g_preV hK hW 0 (0) (mM (by decide) (by decide)) rfl rfl) rfl rfl hl.1 rfl (lv_room (Nat.le_of_ble_eq_true rfl)) dX6_handOn_33 ⟨Nat.le_refl _, Nat.le_refl _⟩) hS (fun I5 H locs hp hW hS => ?_)
  have eI5 : I5 = cpy I4 (20 + b) (20 + a) := hp
  refine lv_aload_n hx hb dX6_handOn_36 rfl (lv_at hl 0 rfl) ?_
  refine r_get hx hb hts hown hK hW 0 (0) 11 (mM (by decide) (by decide)) rfl rfl hinX6 (by decide) hf42 rfl rfl dX6_handOn_37 ?_
  refine lv_iload_n hx hb dX6_handOn_40 rfl (lv_at hl 1 rfl) ?_
  refine r_aaldI hx hb hK hW 1 6 (a) (mM (by decide) (by decide)) rfl (show a < 6 by omega) (by decide) rfl rfl dX6_handOn_41 ?_
  refine lv_iconst (v := nI 0) hx hb dX6_handOn_42 (by decide) ?_
  refine lv_aload_n hx hb dX6_handOn_43 rfl (lv_at hl 0 rfl) ?_
  refine r_get hx hb hts hown hK hW 0 (0) 11 (mM (by decide) (by decide)) rfl rfl hinX6 (by decide) hf42 rfl rfl dX6_handOn_44 ?_
  refine lv_iload_n hx hb dX6_handOn_47 rfl (lv_at hl 2 rfl) ?_
  refine r_aaldI hx hb hK hW 1 6 (b) (mM (by decide) (by decide)) rfl (show b < 6 by omega) (by decide) rfl rfl dX6_handOn_48 ?_
  refine lv_iconst (v := nI 0) hx hb dX6_handOn_49 (by decide) ?_
  refine lv_iconst (v := nI 4) hx hb dX6_handOn_50 (by decide) ?_
  refine rM_copy hx hb (hml.trans hl.1.symm) hown (hts (.methodLink RX6 98 arraycopyName) (by decide +kernel)) (hts (.native arraycopyName) (by decide +kernel)) (hts (.static arraycopyName) (by decide +kernel)) (hts (.initialized "java/lang/System") (by decide +kernel)) hK hI hW hS 18 (a) 18 (b) (0) (0) (4) (by decide) (by decide) (show a < 6 by omega) (by decide) (by decide) (show b < 6 by omega) (by decide) (by decide) rfl rfl rfl (by decide) (by decide) dX6_handOn_51 (fun I6 H locs eI6 hW hS => ?_)
  rw [hQ]
  exact g_vret (wd := wM G ad) hx hb hr hlocks hW hS (by subst eI6 eI5 eI4 ex3 eI2 ex1; simp only [hnM, up3_f (show (22 : Nat) ≠ 21 by decide)]) dX6_handOn_54

set_option maxHeartbeats 4000000 in
set_option maxRecDepth 100000 in
theorem c_X6_goesAway (l : Launch) (D : va_G) (G : Nat → ClassId) (ad : Nat → Nat → Nat) (hI : wI LM ad) (J : St) (m1 : Nat) (hm1 : m1 < wt (V J)) (hT : okT (V J)) : Met l yX6_goesAway wsX6_goesAway ({ frames := 3, cells := 0, slots := 0, locals := 108 } : Room) (gPre D G LM ad [.ref (ad 0 (0)), .int (nI (m1))] (wM G ad J)) (gQv D LM ad (wM G ad) (fun u => u = gaS J m1)) 0 0 (wA LM ad) := by
  refine g_entry (C := RX6) (cc := cX6_goesAway) (maxL := 3) (ret := none) rfl (by decide) rfl (Nat.le_of_ble_eq_true rfl) (fun p e s m args below meth c Q ls hQ hx hb hr hts hown hlocks hml hW hK hl => ?_)
  have hl : lv_has ls 3 [(0, .ref (ad 0 (0))), (1, .int (nI (m1)))] := hl
  have hS := va_S.rf (A := wA LM ad) (H0 := s.heap)
  have hinX6 : ∀ w ∈ wsX60, w ∈ wsX6_goesAway := by decide +kernel
  have hf92 := hts (.fieldLink RX6 92 "JoinedStoresModel" "letters" "I") (by decide +kernel)
  have hw6 := hT.2
  refine lv_iload_n hx hb dX6_goesAway_0 rfl (lv_at hl 1 rfl) ?_
  refine lv_iconst (v := nI 1) hx hb dX6_goesAway_1 (by decide) ?_
  refine lv_iadd hx hb dX6_goesAway_2 (r_top (nI_add _ _) ?_)
  refine lv_istore_n (lv' := [(2, .int (nI (m1 + 1))), (0, .ref (ad 0 (0))), (1, .int (nI (m1)))]) hx hb dX6_goesAway_3 rfl hl (by decide) rfl (fun ls hl => ?_)
  have K4 : ∀ (n : Nat) (i : Nat), (i ≤ wt (V J) - (m1 + 1)) → (wt (V J) - (m1 + 1)) < i + n → ∀ (H : Heap) (locs : List Loc), va_P D vwCl (wS LM ad (wM G ad (gaP J m1 i))) H → va_S (wA LM ad) s.heap H locs → ∀ (ls : Array Slot), lv_has ls 3 [(2, .int (nI (m1 + 1 + i))), (0, .ref (ad 0 (0))), (1, .int (nI (m1)))] → W p l e ({ frames := 3, cells := 0, slots := 0, locals := 108 } : Room) s m args below meth c H locs 0 0 Q (F0 m 4 ls []) := by
    intro n4
    induction n4 with
    | zero => intro i hi hfu; exact absurd hfu (by omega)
    | succ n4 ih4 =>
      intro i hi hfu H locs hW hS ls hl
      refine lv_iload_n hx hb dX6_goesAway_4 rfl (lv_at hl 0 rfl) ?_
      refine lv_aload_n hx hb dX6_goesAway_5 rfl (lv_at hl 1 rfl) ?_
      refine r_get hx hb hts hown hK hW 0 (0) 8 (mM (by decide) (by decide)) rfl rfl hinX6 (by decide) hf92 rfl rfl dX6_goesAway_6 (lv_topi (fun x1 ex1 => ?_))
      refine r_top (show x1 = nI (wt (V J)) from (lt_o (ex1.trans (gaP_n (by decide) (by decide) (by decide) (by decide) (by decide) _)) hT)) ?_
      refine lv_icmp_ge (tgt := 26) hx hb dX6_goesAway_9 (by decide) (fun c9_1 => ?_) (fun c9_1 => ?_)
      · replace c9_1 : wt (V J) ≤ m1 + 1 + i := (nI_leI (show wt (V J) < 2147483648 by omega) (show m1 + 1 + i < 2147483648 by omega)).mp c9_1
        refine lv_aload_n hx hb dX6_goesAway_26 rfl (lv_at hl 1 rfl) ?_
        refine lv_dup hx hb dX6_goesAway_27 rfl ?_
        refine r_get hx hb hts hown hK hW 0 (0) 8 (mM (by decide) (by decide)) rfl rfl hinX6 (by decide) hf92 rfl rfl dX6_goesAway_28 (lv_topi (fun x3 ex3 => ?_))
        refine r_top (show x3 = nI (wt (V J)) from (lt_o (ex3.trans (gaP_n (by decide) (by decide) (by decide) (by decide) (by decide) _)) hT)) ?_
        refine lv_iconst (v := nI 1) hx hb dX6_goesAway_31 (by decide) ?_
        refine lv_isub hx hb dX6_goesAway_32 (r_top (pk_sub (show 1 ≤ wt (V J) by omega)) ?_)
        refine r_puti (wd := wM G ad) (ty := .int) hx hb hts hown hK hI hW hS 0 (0) 8 (mM (by decide) (by decide)) rfl rfl hinX6 (by decide) hf92 rfl tyX6 tyX6_ok nmX6 rfl (by decide +kernel) rfl rfl (Nat.le_of_ble_eq_true rfl) (by simp [wM, up3]) (fun f' i' hn => wM_up f' i' hn) dX6_goesAway_33 (fun I4 H locs eI4 hW hS => ?_)
        rw [hQ]
        exact g_vret (wd := wM G ad) hx hb hr hlocks hW hS (by have e4 : i = wt (V J) - (m1 + 1) := (by omega); subst e4; subst eI4 ex3 ex1; rfl) dX6_goesAway_36
      · replace c9_1 : ¬ (wt (V J) ≤ m1 + 1 + i) := fun h => c9_1 ((nI_leI (show wt (V J) < 2147483648 by omega) (show m1 + 1 + i < 2147483648 by omega)).mpr h)
        refine lv_aload_n hx hb dX6_goesAway_12 rfl (lv_at hl 1 rfl) ?_
        refine lv_iload_n hx hb dX6_goesAway_13 rfl (lv_at hl 0 rfl) ?_
        refine lv_iload_n hx hb dX6_goesAway_14 rfl (lv_at hl 0 rfl) ?_
        refine lv_iconst (v := nI 1) hx hb dX6_goesAway_15 (by decide) ?_
        refine lv_isub hx hb dX6_goesAway_16 (r_top (dec_nI m1 i) ?_)
        refine g_cv (va_runV (As := [.int (nI (m1 + 1 + i)), .int (nI (m1 + i))]) (rest := []) ⟨hx, hb, hml, hown, hts⟩ (c_X6_handOn l D G ad hI (gaP J m1 i) (m1 + 1 + i) (m1 + i) (show m1 + 1 + i < 6 by omega) (show m1 + i < 6 by omega)) (cwV 2 hts gX6_goesAway_X6_handOn rfl rfl rfl (by decide +kernel) ⟨Nat.le_of_ble_eq_true rfl, Nat.le_of_ble_eq_true rfl⟩) (g_preV hK hW 0 (0) (mM (by decide) (by decide)) rfl rfl) rfl rfl hl.1 rfl (lv_room (Nat.le_of_ble_eq_true rfl)) dX6_goesAway_17 ⟨Nat.le_refl _, Nat.le_refl _⟩) hS (fun I5 H locs hp hW hS => ?_)
        have eI5 : I5 = hnM (gaP J m1 i) (m1 + 1 + i) (m1 + i) := hp
        refine lv_iinc (v := nI (m1 + 1 + i + 1)) (lv' := [(2, .int (nI (m1 + 1 + i + 1))), (0, .ref (ad 0 (0))), (1, .int (nI (m1)))]) hx hb dX6_goesAway_20 hl (k := 0) rfl (nI_inc (m1 + 1 + i) 1) (by decide) rfl (fun ls hl => ?_)
        refine lv_goto (tgt := 4) hx hb dX6_goesAway_23 (by decide) ?_
        have e9 : I5 = gaP J m1 (i + 1) := by
          subst eI5 ex1
          rfl
        have hW9 := hW
        rw [e9] at hW9
        exact ih4 (i + 1) (by omega) (by omega) _ _ hW9 hS _ (lv_sub hl [0, 1, 2] rfl)
  have e9 : J = gaP J m1 0 := by
    rfl
  have hW9 := hW
  rw [e9] at hW9
  exact K4 ((wt (V J) - (m1 + 1)) + 1) (0) (Nat.zero_le _) (by omega) _ _ hW9 hS _ (lv_sub hl [0, 1, 2] rfl)

set_option maxHeartbeats 4000000 in
set_option maxRecDepth 100000 in
theorem c_X6_send (l : Launch) (D : va_G) (G : Nat → ClassId) (ad : Nat → Nat → Nat) (hI : wI LM ad) (J : St) (r o w : Int32) (hT : okT (V J)) : Met l yX6_send wsX6_send ({ frames := 2, cells := 0, slots := 0, locals := 86 } : Room) (gPre D G LM ad [.ref (ad 0 (0)), .int (r), .int (o), .int (w)] (wM G ad J)) (gQi D LM ad (wM G ad) (fun r9 u => r9 = (if ((okN (nI 4) r && okN (nI 4) o) && (!decide (tn r = tn o) && okN (nI 2) w)) = true then (if wt (V J) < 6 then nI (wt (V J)) else -4) else -2) ∧ u = (if ((okN (nI 4) r && okN (nI 4) o) && (!decide (tn r = tn o) && okN (nI 2) w) && decide (wt (V J) < 6)) = true then snM J (tn r) (tn o) (tn w) else J))) 0 0 (wA LM ad) := by
  refine g_entry (C := RX6) (cc := cX6_send) (maxL := 5) (ret := (some .int)) rfl (by decide) rfl (Nat.le_of_ble_eq_true rfl) (fun p e s m args below meth c Q ls hQ hx hb hr hts hown hlocks hml hW hK hl => ?_)
  have hl : lv_has ls 5 [(0, .ref (ad 0 (0))), (1, .int (r)), (2, .int (o)), (3, .int (w))] := hl
  have hS := va_S.rf (A := wA LM ad) (H0 := s.heap)
  have hinX6 : ∀ w ∈ wsX60, w ∈ wsX6_send := by decide +kernel
  have hf27 := hts (.fieldLink RX6 27 "JoinedStoresModel" "heard" "[[I") (by decide +kernel)
  have hf36 := hts (.fieldLink RX6 36 "JoinedStoresModel" "senders" "[I") (by decide +kernel)
  have hf39 := hts (.fieldLink RX6 39 "JoinedStoresModel" "receivers" "[I") (by decide +kernel)
  have hf42 := hts (.fieldLink RX6 42 "JoinedStoresModel" "had" "[[I") (by decide +kernel)
  have hf92 := hts (.fieldLink RX6 92 "JoinedStoresModel" "letters" "I") (by decide +kernel)
  refine lv_iload_n hx hb dX6_send_0 rfl (lv_at hl 1 rfl) ?_
  refine g_pi (va_runS (As := [.int (r)]) (rest := []) ⟨hx, hb, hml, hown, hts⟩ (c_X6_isReplica l r) (va_cwS 1 hts gX6_send_X6_isReplica rfl rfl rfl (by decide +kernel) ⟨Nat.le_of_ble_eq_true rfl, Nat.le_of_ble_eq_true rfl⟩) p_preS rfl rfl hl.1 rfl (lv_room (Nat.le_of_ble_eq_true rfl)) dX6_send_1 ⟨Nat.le_refl _, Nat.le_refl _⟩) hW hS (fun H locs hW hS => ?_)
  refine lv_if_eq (tgt := 29) hx hb dX6_send_4 (by decide) (fun c4_0 => ?_) (fun c4_0 => ?_)
  · replace c4_0 := bI_0.mp c4_0
    try simp only [decide_eq_true_eq, decide_eq_false_iff_not] at c4_0
    refine lv_bipush (v := (-2)) hx hb dX6_send_29 (by decide) ?_
    rw [hQ]
    exact g_iret (wd := wM G ad) hx hb hr rfl hlocks hW hS (by skip; refine ⟨?_, ?_⟩ <;> simp [c4_0]) dX6_send_31
  · replace c4_0 := bI_1.mp c4_0
    obtain ⟨rN, hrN, erN⟩ := okN_nI (k := 4) (by decide) c4_0
    subst erN
    have t_rN : tn (nI rN) = rN := tn_nI (by omega)
    have k_rN : okN (nI 4) (nI rN) = true := okN_of (by decide) hrN
    refine lv_iload_n hx hb dX6_send_7 rfl (lv_at hl 2 rfl) ?_
    refine g_pi (va_runS (As := [.int (o)]) (rest := []) ⟨hx, hb, hml, hown, hts⟩ (c_X6_isReplica l o) (va_cwS 1 hts gX6_send_X6_isReplica rfl rfl rfl (by decide +kernel) ⟨Nat.le_of_ble_eq_true rfl, Nat.le_of_ble_eq_true rfl⟩) p_preS rfl rfl hl.1 rfl (lv_room (Nat.le_of_ble_eq_true rfl)) dX6_send_8 ⟨Nat.le_refl _, Nat.le_refl _⟩) hW hS (fun H locs hW hS => ?_)
    refine lv_if_eq (tgt := 29) hx hb dX6_send_11 (by decide) (fun c11_1 => ?_) (fun c11_1 => ?_)
    · replace c11_1 := bI_0.mp c11_1
      try simp only [decide_eq_true_eq, decide_eq_false_iff_not] at c11_1
      refine lv_bipush (v := (-2)) hx hb dX6_send_29 (by decide) ?_
      rw [hQ]
      exact g_iret (wd := wM G ad) hx hb hr rfl hlocks hW hS (by skip; refine ⟨?_, ?_⟩ <;> simp [k_rN, c11_1, t_rN]) dX6_send_31
    · replace c11_1 := bI_1.mp c11_1
      obtain ⟨oN, hoN, eoN⟩ := okN_nI (k := 4) (by decide) c11_1
      subst eoN
      have t_oN : tn (nI oN) = oN := tn_nI (by omega)
      have k_oN : okN (nI 4) (nI oN) = true := okN_of (by decide) hoN
      refine lv_iload_n hx hb dX6_send_14 rfl (lv_at hl 1 rfl) ?_
      refine lv_iload_n hx hb dX6_send_15 rfl (lv_at hl 2 rfl) ?_
      refine lv_icmp_eq (tgt := 29) hx hb dX6_send_16 (by decide) (fun c16_2 => ?_) (fun c16_2 => ?_)
      · replace c16_2 : rN = oN := (nI_eq (show rN < 2147483648 by omega) (show oN < 2147483648 by omega)).mp c16_2
        have k15 : decide (rN = oN) = true := decide_eq_true c16_2
        refine lv_bipush (v := (-2)) hx hb dX6_send_29 (by decide) ?_
        rw [hQ]
        exact g_iret (wd := wM G ad) hx hb hr rfl hlocks hW hS (by skip; refine ⟨?_, ?_⟩ <;> simp [k_rN, k_oN, k15, t_rN, t_oN]) dX6_send_31
      · replace c16_2 : ¬ (rN = oN) := fun h => c16_2 ((nI_eq (show rN < 2147483648 by omega) (show oN < 2147483648 by omega)).mpr h)
        have k15 : decide (rN = oN) = false := decide_eq_false c16_2
        refine lv_iload_n hx hb dX6_send_19 rfl (lv_at hl 3 rfl) ?_
        refine lv_i2l hx hb dX6_send_20 rfl ?_
        refine lv_lconst (v := lN 0) hx hb dX6_send_21 (by decide) ?_
        refine lv_lconst (v := lN 1) hx hb dX6_send_22 (by decide) ?_
        refine g_pi (va_runS (As := [.long (w.toInt64), .long (lN 0), .long (lN 1)]) (rest := []) ⟨hx, hb, hml, hown, hts⟩ (c_X6_inB l w.toInt64 (lN 0) (lN 1) (okN (nI 2) w) (inL_N (k := 2) (by decide) (by decide) _)) (va_cwS 3 hts gX6_send_X6_in rfl rfl rfl (by decide +kernel) ⟨Nat.le_of_ble_eq_true rfl, Nat.le_of_ble_eq_true rfl⟩) p_preS rfl rfl hl.1 rfl (lv_room (Nat.le_of_ble_eq_true rfl)) dX6_send_23 ⟨Nat.le_refl _, Nat.le_refl _⟩) hW hS (fun H locs hW hS => ?_)
        refine lv_if_ne (tgt := 32) hx hb dX6_send_26 (by decide) (fun c26_3 => ?_) (fun c26_3 => ?_)
        · replace c26_3 := bI_1.mp c26_3
          obtain ⟨wN, hwN, ewN⟩ := okN_nI (k := 2) (by decide) c26_3
          subst ewN
          have t_wN : tn (nI wN) = wN := tn_nI (by omega)
          have k_wN : okN (nI 2) (nI wN) = true := okN_of (by decide) hwN
          refine lv_aload_n hx hb dX6_send_32 rfl (lv_at hl 0 rfl) ?_
          refine r_get hx hb hts hown hK hW 0 (0) 8 (mM (by decide) (by decide)) rfl rfl hinX6 (by decide) hf92 rfl rfl dX6_send_33 (lv_topi (fun x5 ex5 => ?_))
          have hw6 := hT.2
          refine r_top (show x5 = nI (wt (V J)) from (ex5.trans hT.1)) ?_
          refine lv_bipush (v := nI 6) hx hb dX6_send_36 (by decide) ?_
          refine lv_icmp_ne (tgt := 44) hx hb dX6_send_38 (by decide) (fun c38_5 => ?_) (fun c38_5 => ?_)
          · replace c38_5 : ¬ wt (V J) = 6 := fun h => c38_5 ((nI_eq (show wt (V J) < 2147483648 by omega) (show 6 < 2147483648 by omega)).mpr h)
            refine lv_aload_n hx hb dX6_send_44 rfl (lv_at hl 0 rfl) ?_
            refine r_get hx hb hts hown hK hW 0 (0) 9 (mM (by decide) (by decide)) rfl rfl hinX6 (by decide) hf36 rfl rfl dX6_send_45 ?_
            refine lv_aload_n hx hb dX6_send_48 rfl (lv_at hl 0 rfl) ?_
            refine r_get hx hb hts hown hK hW 0 (0) 8 (mM (by decide) (by decide)) rfl rfl hinX6 (by decide) hf92 rfl rfl dX6_send_49 (lv_topi (fun x7 ex7 => ?_))
            refine r_top (show x7 = nI (wt (V J)) from (lt_o (by subst ex7 ex5; simp [clr_n, cpy_n, jn_n, goA_n, inP_n, up3_f, up3_s, mtM_n, hnM_n, gaP_n, lnP_n, cp3_n]) hT)) ?_
            refine lv_iload_n hx hb dX6_send_52 rfl (lv_at hl 1 rfl) ?_
            refine rM_iast hx hb hK hI hW hS 21 (0) (wt (V J)) (by decide) (by decide) (by decide) (show wt (V J) < 6 by omega) rfl dX6_send_53 (fun I8 H locs eI8 hW hS => ?_)
            refine lv_aload_n hx hb dX6_send_54 rfl (lv_at hl 0 rfl) ?_
            refine r_get hx hb hts hown hK hW 0 (0) 10 (mM (by decide) (by decide)) rfl rfl hinX6 (by decide) hf39 rfl rfl dX6_send_55 ?_
            refine lv_aload_n hx hb dX6_send_58 rfl (lv_at hl 0 rfl) ?_
            refine r_get hx hb hts hown hK hW 0 (0) 8 (mM (by decide) (by decide)) rfl rfl hinX6 (by decide) hf92 rfl rfl dX6_send_59 (lv_topi (fun x9 ex9 => ?_))
            refine r_top (show x9 = nI (wt (V J)) from (lt_o (by subst ex9 eI8 ex7 ex5; simp [clr_n, cpy_n, jn_n, goA_n, inP_n, up3_f, up3_s, mtM_n, hnM_n, gaP_n, lnP_n, cp3_n]) hT)) ?_
            refine lv_iload_n hx hb dX6_send_62 rfl (lv_at hl 2 rfl) ?_
            refine rM_iast hx hb hK hI hW hS 22 (0) (wt (V J)) (by decide) (by decide) (by decide) (show wt (V J) < 6 by omega) rfl dX6_send_63 (fun I10 H locs eI10 hW hS => ?_)
            refine lv_iconst (v := nI 4) hx hb dX6_send_64 (by decide) ?_
            refine lv_iconst (v := nI 4) hx hb dX6_send_65 (by decide) ?_
            refine lv_iload_n hx hb dX6_send_66 rfl (lv_at hl 1 rfl) ?_
            refine lv_imul hx hb dX6_send_67 (r_top (pk_mul _ _) ?_)
            refine lv_iadd hx hb dX6_send_68 (r_top (nI_add _ _) ?_)
            refine lv_iload_n hx hb dX6_send_69 rfl (lv_at hl 2 rfl) ?_
            refine lv_iadd hx hb dX6_send_70 (r_top (nI_add _ _) ?_)
            refine lv_istore (lv' := [(4, .int (nI ((4 + (4 * rN)) + oN))), (0, .ref (ad 0 (0))), (1, .int (nI (rN))), (2, .int (nI (oN))), (3, .int (nI (wN)))]) hx hb dX6_send_71 hl (by decide) rfl (fun ls hl => ?_)
            refine lv_aload_n hx hb dX6_send_73 rfl (lv_at hl 1 rfl) ?_
            refine lv_iload_n hx hb dX6_send_74 rfl (lv_at hl 4 rfl) ?_
            refine lv_if_ne (tgt := 82) hx hb dX6_send_75 (by decide) (fun c75_10 => ?_) (fun c75_10 => ?_)
            · replace c75_10 : ¬ wN = 0 := fun h => c75_10 ((nI_eq (show wN < 2147483648 by omega) (show 0 < 2147483648 by omega)).mpr h)
              refine lv_iload hx hb dX6_send_82 (lv_at hl 0 rfl) ?_
              refine lv_bipush (v := nI 20) hx hb dX6_send_84 (by decide) ?_
              refine lv_aload_n hx hb dX6_send_86 rfl (lv_at hl 1 rfl) ?_
              refine r_get hx hb hts hown hK hW 0 (0) 8 (mM (by decide) (by decide)) rfl rfl hinX6 (by decide) hf92 rfl rfl dX6_send_87 (lv_topi (fun x12 ex12 => ?_))
              refine r_top (show x12 = nI (wt (V J)) from (lt_o (by subst ex12 eI10 ex9 eI8 ex7 ex5; simp [clr_n, cpy_n, jn_n, goA_n, inP_n, up3_f, up3_s, mtM_n, hnM_n, gaP_n, lnP_n, cp3_n]) hT)) ?_
              refine lv_iadd hx hb dX6_send_90 (r_top (nI_add _ _) ?_)
              refine g_cv (va_runV (As := [.int (nI ((4 + (4 * rN)) + oN)), .int (nI (20 + (wt (V J))))]) (rest := []) ⟨hx, hb, hml, hown, hts⟩ (c_X6_again l D G ad hI I10 ((4 + (4 * rN)) + oN) (20 + (wt (V J))) (show (4 + (4 * rN)) + oN < 33 by omega) (show 20 + (wt (V J)) < 33 by omega)) (cwV 2 hts gX6_send_X6_again rfl rfl rfl (by decide +kernel) ⟨Nat.le_of_ble_eq_true rfl, Nat.le_of_ble_eq_true rfl⟩) (g_preV hK hW 0 (0) (mM (by decide) (by decide)) rfl rfl) rfl rfl hl.1 rfl (lv_room (Nat.le_of_ble_eq_true rfl)) dX6_send_91 ⟨Nat.le_refl _, Nat.le_refl _⟩) hS (fun I13 H locs hp hW hS => ?_)
              have eI13 : I13 = cpy I10 (20 + (wt (V J))) ((4 + (4 * rN)) + oN) := hp
              refine lv_iload_n hx hb dX6_send_94 rfl (lv_at hl 4 rfl) ?_
              refine lv_iconst (v := nI 1) hx hb dX6_send_95 (by decide) ?_
              refine lv_icmp_ne (tgt := 105) hx hb dX6_send_96 (by decide) (fun c96_13 => ?_) (fun c96_13 => ?_)
              · replace c96_13 : ¬ wN = 1 := fun h => c96_13 ((nI_eq (show wN < 2147483648 by omega) (show 1 < 2147483648 by omega)).mpr h)
                refine lv_aload_n hx hb dX6_send_105 rfl (lv_at hl 1 rfl) ?_
                refine r_get hx hb hts hown hK hW 0 (0) 5 (mM (by decide) (by decide)) rfl rfl hinX6 (by decide) hf27 rfl rfl dX6_send_106 ?_
                refine lv_iload_n hx hb dX6_send_109 rfl (lv_at hl 2 rfl) ?_
                refine r_aaldI hx hb hK hW 1 3 (rN) (mM (by decide) (by decide)) rfl (show rN < 33 by omega) (by decide) rfl rfl dX6_send_110 ?_
                refine lv_iconst (v := nI 0) hx hb dX6_send_111 (by decide) ?_
                refine lv_aload_n hx hb dX6_send_112 rfl (lv_at hl 1 rfl) ?_
                refine r_get hx hb hts hown hK hW 0 (0) 11 (mM (by decide) (by decide)) rfl rfl hinX6 (by decide) hf42 rfl rfl dX6_send_113 ?_
                refine lv_aload_n hx hb dX6_send_116 rfl (lv_at hl 1 rfl) ?_
                refine r_get hx hb hts hown hK hW 0 (0) 8 (mM (by decide) (by decide)) rfl rfl hinX6 (by decide) hf92 rfl rfl dX6_send_117 (lv_topi (fun x15 ex15 => ?_))
                refine r_top (show x15 = nI (wt (V J)) from (lt_o (by subst ex15 eI13 ex12 eI10 ex9 eI8 ex7 ex5; simp [clr_n, cpy_n, jn_n, goA_n, inP_n, up3_f, up3_s, mtM_n, hnM_n, gaP_n, lnP_n, cp3_n]) hT)) ?_
                refine r_aaldI hx hb hK hW 1 6 (wt (V J)) (mM (by decide) (by decide)) rfl (show wt (V J) < 6 by omega) (by decide) rfl rfl dX6_send_120 ?_
                refine lv_iconst (v := nI 0) hx hb dX6_send_121 (by decide) ?_
                refine lv_iconst (v := nI 4) hx hb dX6_send_122 (by decide) ?_
                refine rM_copy hx hb (hml.trans hl.1.symm) hown (hts (.methodLink RX6 98 arraycopyName) (by decide +kernel)) (hts (.native arraycopyName) (by decide +kernel)) (hts (.static arraycopyName) (by decide +kernel)) (hts (.initialized "java/lang/System") (by decide +kernel)) hK hI hW hS 10 (rN) 18 (wt (V J)) (0) (0) (4) (by decide) (by decide) (show rN < 33 by omega) (by decide) (by decide) (show wt (V J) < 6 by omega) (by decide) (by decide) rfl rfl rfl (by decide) (by decide) dX6_send_123 (fun I16 H locs eI16 hW hS => ?_)
                refine lv_aload_n hx hb dX6_send_126 rfl (lv_at hl 1 rfl) ?_
                refine lv_dup hx hb dX6_send_127 rfl ?_
                refine r_get hx hb hts hown hK hW 0 (0) 8 (mM (by decide) (by decide)) rfl rfl hinX6 (by decide) hf92 rfl rfl dX6_send_128 (lv_topi (fun x17 ex17 => ?_))
                refine r_top (show x17 = nI (wt (V J)) from (lt_o (by subst ex17 eI16 ex15 eI13 ex12 eI10 ex9 eI8 ex7 ex5; simp [clr_n, cpy_n, jn_n, goA_n, inP_n, up3_f, up3_s, mtM_n, hnM_n, gaP_n, lnP_n, cp3_n]) hT)) ?_
                refine lv_iconst (v := nI 1) hx hb dX6_send_131 (by decide) ?_
                refine lv_iadd hx hb dX6_send_132 (r_top (nI_add _ _) ?_)
                refine r_puti (wd := wM G ad) (ty := .int) hx hb hts hown hK hI hW hS 0 (0) 8 (mM (by decide) (by decide)) rfl rfl hinX6 (by decide) hf92 rfl tyX6 tyX6_ok nmX6 rfl (by decide +kernel) rfl rfl (Nat.le_of_ble_eq_true rfl) (by simp [wM, up3]) (fun f' i' hn => wM_up f' i' hn) dX6_send_133 (fun I18 H locs eI18 hW hS => ?_)
                refine lv_aload_n hx hb dX6_send_136 rfl (lv_at hl 1 rfl) ?_
                refine r_get hx hb hts hown hK hW 0 (0) 8 (mM (by decide) (by decide)) rfl rfl hinX6 (by decide) hf92 rfl rfl dX6_send_137 (lv_topi (fun x19 ex19 => ?_))
                refine r_top (show x19 = nI (wt (V J) + 1) from (by subst ex19 eI18 ex17 eI16 ex15 eI13 ex12 eI10 ex9 eI8 ex7 ex5; simp [clr_n, cpy_n, jn_n, goA_n, inP_n, up3_f, up3_s, mtM_n, hnM_n, gaP_n, lnP_n, cp3_n])) ?_
                refine lv_iconst (v := nI 1) hx hb dX6_send_140 (by decide) ?_
                refine lv_isub hx hb dX6_send_141 (r_top (pk_sub (show 1 ≤ wt (V J) + 1 by omega)) ?_)
                rw [hQ]
                exact g_iret (wd := wM G ad) hx hb hr rfl hlocks hW hS (by first | (exfalso; omega) | (subst ex19 eI18 ex17 eI16 ex15 eI13 ex12 eI10 ex9 eI8 ex7 ex5; refine ⟨?_, ?_⟩; (rw [if_pos (by simp [k_rN, k_oN, k15, k_wN, t_rN, t_oN, t_wN]), if_pos (by omega)]; exact congrArg nI (by omega)); rw [if_pos (by simp [k_rN, k_oN, k15, k_wN, t_rN, t_oN, t_wN]; omega)]; simp only [t_rN, t_oN, t_wN, snM]; (repeat' split) <;> first | rfl | (exfalso; omega))) dX6_send_142
              · replace c96_13 : wN = 1 := (nI_eq (show wN < 2147483648 by omega) (show 1 < 2147483648 by omega)).mp c96_13
                refine lv_aload_n hx hb dX6_send_99 rfl (lv_at hl 1 rfl) ?_
                refine lv_iload hx hb dX6_send_100 (lv_at hl 0 rfl) ?_
                refine g_cv (va_runV (As := [.int (nI ((4 + (4 * rN)) + oN))]) (rest := []) ⟨hx, hb, hml, hown, hts⟩ (c_X6_clear l D G ad hI I13 ((4 + (4 * rN)) + oN) (show (4 + (4 * rN)) + oN < 33 by omega)) (cwV 1 hts gX6_send_X6_clear rfl rfl rfl (by decide +kernel) ⟨Nat.le_of_ble_eq_true rfl, Nat.le_of_ble_eq_true rfl⟩) (g_preV hK hW 0 (0) (mM (by decide) (by decide)) rfl rfl) rfl rfl hl.1 rfl (lv_room (Nat.le_of_ble_eq_true rfl)) dX6_send_102 ⟨Nat.le_refl _, Nat.le_refl _⟩) hS (fun I20 H locs hp hW hS => ?_)
                have eI20 : I20 = clr I13 ((4 + (4 * rN)) + oN) := hp
                refine lv_aload_n hx hb dX6_send_105 rfl (lv_at hl 1 rfl) ?_
                refine r_get hx hb hts hown hK hW 0 (0) 5 (mM (by decide) (by decide)) rfl rfl hinX6 (by decide) hf27 rfl rfl dX6_send_106 ?_
                refine lv_iload_n hx hb dX6_send_109 rfl (lv_at hl 2 rfl) ?_
                refine r_aaldI hx hb hK hW 1 3 (rN) (mM (by decide) (by decide)) rfl (show rN < 33 by omega) (by decide) rfl rfl dX6_send_110 ?_
                refine lv_iconst (v := nI 0) hx hb dX6_send_111 (by decide) ?_
                refine lv_aload_n hx hb dX6_send_112 rfl (lv_at hl 1 rfl) ?_
                refine r_get hx hb hts hown hK hW 0 (0) 11 (mM (by decide) (by decide)) rfl rfl hinX6 (by decide) hf42 rfl rfl dX6_send_113 ?_
                refine lv_aload_n hx hb dX6_send_116 rfl (lv_at hl 1 rfl) ?_
                refine r_get hx hb hts hown hK hW 0 (0) 8 (mM (by decide) (by decide)) rfl rfl hinX6 (by decide) hf92 rfl rfl dX6_send_117 (lv_topi (fun x21 ex21 => ?_))
                refine r_top (show x21 = nI (wt (V J)) from (lt_o (by subst ex21 eI20 eI13 ex12 eI10 ex9 eI8 ex7 ex5; simp [clr_n, cpy_n, jn_n, goA_n, inP_n, up3_f, up3_s, mtM_n, hnM_n, gaP_n, lnP_n, cp3_n]) hT)) ?_
                refine r_aaldI hx hb hK hW 1 6 (wt (V J)) (mM (by decide) (by decide)) rfl (show wt (V J) < 6 by omega) (by decide) rfl rfl dX6_send_120 ?_
                refine lv_iconst (v := nI 0) hx hb dX6_send_121 (by decide) ?_
                refine lv_iconst (v := nI 4) hx hb dX6_send_122 (by decide) ?_
                refine rM_copy hx hb (hml.trans hl.1.symm) hown (hts (.methodLink RX6 98 arraycopyName) (by decide +kernel)) (hts (.native arraycopyName) (by decide +kernel)) (hts (.static arraycopyName) (by decide +kernel)) (hts (.initialized "java/lang/System") (by decide +kernel)) hK hI hW hS 10 (rN) 18 (wt (V J)) (0) (0) (4) (by decide) (by decide) (show rN < 33 by omega) (by decide) (by decide) (show wt (V J) < 6 by omega) (by decide) (by decide) rfl rfl rfl (by decide) (by decide) dX6_send_123 (fun I22 H locs eI22 hW hS => ?_)
                refine lv_aload_n hx hb dX6_send_126 rfl (lv_at hl 1 rfl) ?_
                refine lv_dup hx hb dX6_send_127 rfl ?_
                refine r_get hx hb hts hown hK hW 0 (0) 8 (mM (by decide) (by decide)) rfl rfl hinX6 (by decide) hf92 rfl rfl dX6_send_128 (lv_topi (fun x23 ex23 => ?_))
                refine r_top (show x23 = nI (wt (V J)) from (lt_o (by subst ex23 eI22 ex21 eI20 eI13 ex12 eI10 ex9 eI8 ex7 ex5; simp [clr_n, cpy_n, jn_n, goA_n, inP_n, up3_f, up3_s, mtM_n, hnM_n, gaP_n, lnP_n, cp3_n]) hT)) ?_
                refine lv_iconst (v := nI 1) hx hb dX6_send_131 (by decide) ?_
                refine lv_iadd hx hb dX6_send_132 (r_top (nI_add _ _) ?_)
                refine r_puti (wd := wM G ad) (ty := .int) hx hb hts hown hK hI hW hS 0 (0) 8 (mM (by decide) (by decide)) rfl rfl hinX6 (by decide) hf92 rfl tyX6 tyX6_ok nmX6 rfl (by decide +kernel) rfl rfl (Nat.le_of_ble_eq_true rfl) (by simp [wM, up3]) (fun f' i' hn => wM_up f' i' hn) dX6_send_133 (fun I24 H locs eI24 hW hS => ?_)
                refine lv_aload_n hx hb dX6_send_136 rfl (lv_at hl 1 rfl) ?_
                refine r_get hx hb hts hown hK hW 0 (0) 8 (mM (by decide) (by decide)) rfl rfl hinX6 (by decide) hf92 rfl rfl dX6_send_137 (lv_topi (fun x25 ex25 => ?_))
                refine r_top (show x25 = nI (wt (V J) + 1) from (by subst ex25 eI24 ex23 eI22 ex21 eI20 eI13 ex12 eI10 ex9 eI8 ex7 ex5; simp [clr_n, cpy_n, jn_n, goA_n, inP_n, up3_f, up3_s, mtM_n, hnM_n, gaP_n, lnP_n, cp3_n])) ?_
                refine lv_iconst (v := nI 1) hx hb dX6_send_140 (by decide) ?_
                refine lv_isub hx hb dX6_send_141 (r_top (pk_sub (show 1 ≤ wt (V J) + 1 by omega)) ?_)
                rw [hQ]
                exact g_iret (wd := wM G ad) hx hb hr rfl hlocks hW hS (by first | (exfalso; omega) | (subst ex25 eI24 ex23 eI22 ex21 eI20 eI13 ex12 eI10 ex9 eI8 ex7 ex5; refine ⟨?_, ?_⟩; (rw [if_pos (by simp [k_rN, k_oN, k15, k_wN, t_rN, t_oN, t_wN]), if_pos (by omega)]; exact congrArg nI (by omega)); rw [if_pos (by simp [k_rN, k_oN, k15, k_wN, t_rN, t_oN, t_wN]; omega)]; simp only [t_rN, t_oN, t_wN, snM]; (repeat' split) <;> first | rfl | (exfalso; omega))) dX6_send_142
            · replace c75_10 : wN = 0 := (nI_eq (show wN < 2147483648 by omega) (show 0 < 2147483648 by omega)).mp c75_10
              refine lv_iload_n hx hb dX6_send_78 rfl (lv_at hl 2 rfl) ?_
              refine lv_goto (tgt := 84) hx hb dX6_send_79 (by decide) ?_
              refine lv_bipush (v := nI 20) hx hb dX6_send_84 (by decide) ?_
              refine lv_aload_n hx hb dX6_send_86 rfl (lv_at hl 1 rfl) ?_
              refine r_get hx hb hts hown hK hW 0 (0) 8 (mM (by decide) (by decide)) rfl rfl hinX6 (by decide) hf92 rfl rfl dX6_send_87 (lv_topi (fun x26 ex26 => ?_))
              refine r_top (show x26 = nI (wt (V J)) from (lt_o (by subst ex26 eI10 ex9 eI8 ex7 ex5; simp [clr_n, cpy_n, jn_n, goA_n, inP_n, up3_f, up3_s, mtM_n, hnM_n, gaP_n, lnP_n, cp3_n]) hT)) ?_
              refine lv_iadd hx hb dX6_send_90 (r_top (nI_add _ _) ?_)
              refine g_cv (va_runV (As := [.int (nI (rN)), .int (nI (20 + (wt (V J))))]) (rest := []) ⟨hx, hb, hml, hown, hts⟩ (c_X6_again l D G ad hI I10 rN (20 + (wt (V J))) (show rN < 33 by omega) (show 20 + (wt (V J)) < 33 by omega)) (cwV 2 hts gX6_send_X6_again rfl rfl rfl (by decide +kernel) ⟨Nat.le_of_ble_eq_true rfl, Nat.le_of_ble_eq_true rfl⟩) (g_preV hK hW 0 (0) (mM (by decide) (by decide)) rfl rfl) rfl rfl hl.1 rfl (lv_room (Nat.le_of_ble_eq_true rfl)) dX6_send_91 ⟨Nat.le_refl _, Nat.le_refl _⟩) hS (fun I27 H locs hp hW hS => ?_)
              have eI27 : I27 = cpy I10 (20 + (wt (V J))) rN := hp
              refine lv_iload_n hx hb dX6_send_94 rfl (lv_at hl 4 rfl) ?_
              refine lv_iconst (v := nI 1) hx hb dX6_send_95 (by decide) ?_
              refine lv_icmp_ne (tgt := 105) hx hb dX6_send_96 (by decide) (fun c96_27 => ?_) (fun c96_27 => ?_)
              · replace c96_27 : ¬ wN = 1 := fun h => c96_27 ((nI_eq (show wN < 2147483648 by omega) (show 1 < 2147483648 by omega)).mpr h)
                refine lv_aload_n hx hb dX6_send_105 rfl (lv_at hl 1 rfl) ?_
                refine r_get hx hb hts hown hK hW 0 (0) 5 (mM (by decide) (by decide)) rfl rfl hinX6 (by decide) hf27 rfl rfl dX6_send_106 ?_
                refine lv_iload_n hx hb dX6_send_109 rfl (lv_at hl 2 rfl) ?_
                refine r_aaldI hx hb hK hW 1 3 (rN) (mM (by decide) (by decide)) rfl (show rN < 33 by omega) (by decide) rfl rfl dX6_send_110 ?_
                refine lv_iconst (v := nI 0) hx hb dX6_send_111 (by decide) ?_
                refine lv_aload_n hx hb dX6_send_112 rfl (lv_at hl 1 rfl) ?_
                refine r_get hx hb hts hown hK hW 0 (0) 11 (mM (by decide) (by decide)) rfl rfl hinX6 (by decide) hf42 rfl rfl dX6_send_113 ?_
                refine lv_aload_n hx hb dX6_send_116 rfl (lv_at hl 1 rfl) ?_
                refine r_get hx hb hts hown hK hW 0 (0) 8 (mM (by decide) (by decide)) rfl rfl hinX6 (by decide) hf92 rfl rfl dX6_send_117 (lv_topi (fun x29 ex29 => ?_))
                refine r_top (show x29 = nI (wt (V J)) from (lt_o (by subst ex29 eI27 ex26 eI10 ex9 eI8 ex7 ex5; simp [clr_n, cpy_n, jn_n, goA_n, inP_n, up3_f, up3_s, mtM_n, hnM_n, gaP_n, lnP_n, cp3_n]) hT)) ?_
                refine r_aaldI hx hb hK hW 1 6 (wt (V J)) (mM (by decide) (by decide)) rfl (show wt (V J) < 6 by omega) (by decide) rfl rfl dX6_send_120 ?_
                refine lv_iconst (v := nI 0) hx hb dX6_send_121 (by decide) ?_
                refine lv_iconst (v := nI 4) hx hb dX6_send_122 (by decide) ?_
                refine rM_copy hx hb (hml.trans hl.1.symm) hown (hts (.methodLink RX6 98 arraycopyName) (by decide +kernel)) (hts (.native arraycopyName) (by decide +kernel)) (hts (.static arraycopyName) (by decide +kernel)) (hts (.initialized "java/lang/System") (by decide +kernel)) hK hI hW hS 10 (rN) 18 (wt (V J)) (0) (0) (4) (by decide) (by decide) (show rN < 33 by omega) (by decide) (by decide) (show wt (V J) < 6 by omega) (by decide) (by decide) rfl rfl rfl (by decide) (by decide) dX6_send_123 (fun I30 H locs eI30 hW hS => ?_)
                refine lv_aload_n hx hb dX6_send_126 rfl (lv_at hl 1 rfl) ?_
                refine lv_dup hx hb dX6_send_127 rfl ?_
                refine r_get hx hb hts hown hK hW 0 (0) 8 (mM (by decide) (by decide)) rfl rfl hinX6 (by decide) hf92 rfl rfl dX6_send_128 (lv_topi (fun x31 ex31 => ?_))
                refine r_top (show x31 = nI (wt (V J)) from (lt_o (by subst ex31 eI30 ex29 eI27 ex26 eI10 ex9 eI8 ex7 ex5; simp [clr_n, cpy_n, jn_n, goA_n, inP_n, up3_f, up3_s, mtM_n, hnM_n, gaP_n, lnP_n, cp3_n]) hT)) ?_
                refine lv_iconst (v := nI 1) hx hb dX6_send_131 (by decide) ?_
                refine lv_iadd hx hb dX6_send_132 (r_top (nI_add _ _) ?_)
                refine r_puti (wd := wM G ad) (ty := .int) hx hb hts hown hK hI hW hS 0 (0) 8 (mM (by decide) (by decide)) rfl rfl hinX6 (by decide) hf92 rfl tyX6 tyX6_ok nmX6 rfl (by decide +kernel) rfl rfl (Nat.le_of_ble_eq_true rfl) (by simp [wM, up3]) (fun f' i' hn => wM_up f' i' hn) dX6_send_133 (fun I32 H locs eI32 hW hS => ?_)
                refine lv_aload_n hx hb dX6_send_136 rfl (lv_at hl 1 rfl) ?_
                refine r_get hx hb hts hown hK hW 0 (0) 8 (mM (by decide) (by decide)) rfl rfl hinX6 (by decide) hf92 rfl rfl dX6_send_137 (lv_topi (fun x33 ex33 => ?_))
                refine r_top (show x33 = nI (wt (V J) + 1) from (by subst ex33 eI32 ex31 eI30 ex29 eI27 ex26 eI10 ex9 eI8 ex7 ex5; simp [clr_n, cpy_n, jn_n, goA_n, inP_n, up3_f, up3_s, mtM_n, hnM_n, gaP_n, lnP_n, cp3_n])) ?_
                refine lv_iconst (v := nI 1) hx hb dX6_send_140 (by decide) ?_
                refine lv_isub hx hb dX6_send_141 (r_top (pk_sub (show 1 ≤ wt (V J) + 1 by omega)) ?_)
                rw [hQ]
                exact g_iret (wd := wM G ad) hx hb hr rfl hlocks hW hS (by first | (exfalso; omega) | (subst ex33 eI32 ex31 eI30 ex29 eI27 ex26 eI10 ex9 eI8 ex7 ex5; refine ⟨?_, ?_⟩; (rw [if_pos (by simp [k_rN, k_oN, k15, k_wN, t_rN, t_oN, t_wN]), if_pos (by omega)]; exact congrArg nI (by omega)); rw [if_pos (by simp [k_rN, k_oN, k15, k_wN, t_rN, t_oN, t_wN]; omega)]; simp only [t_rN, t_oN, t_wN, snM]; (repeat' split) <;> first | rfl | (exfalso; omega))) dX6_send_142
              · replace c96_27 : wN = 1 := (nI_eq (show wN < 2147483648 by omega) (show 1 < 2147483648 by omega)).mp c96_27
                refine lv_aload_n hx hb dX6_send_99 rfl (lv_at hl 1 rfl) ?_
                refine lv_iload hx hb dX6_send_100 (lv_at hl 0 rfl) ?_
                refine g_cv (va_runV (As := [.int (nI ((4 + (4 * rN)) + oN))]) (rest := []) ⟨hx, hb, hml, hown, hts⟩ (c_X6_clear l D G ad hI I27 ((4 + (4 * rN)) + oN) (show (4 + (4 * rN)) + oN < 33 by omega)) (cwV 1 hts gX6_send_X6_clear rfl rfl rfl (by decide +kernel) ⟨Nat.le_of_ble_eq_true rfl, Nat.le_of_ble_eq_true rfl⟩) (g_preV hK hW 0 (0) (mM (by decide) (by decide)) rfl rfl) rfl rfl hl.1 rfl (lv_room (Nat.le_of_ble_eq_true rfl)) dX6_send_102 ⟨Nat.le_refl _, Nat.le_refl _⟩) hS (fun I34 H locs hp hW hS => ?_)
                have eI34 : I34 = clr I27 ((4 + (4 * rN)) + oN) := hp
                refine lv_aload_n hx hb dX6_send_105 rfl (lv_at hl 1 rfl) ?_
                refine r_get hx hb hts hown hK hW 0 (0) 5 (mM (by decide) (by decide)) rfl rfl hinX6 (by decide) hf27 rfl rfl dX6_send_106 ?_
                refine lv_iload_n hx hb dX6_send_109 rfl (lv_at hl 2 rfl) ?_
                refine r_aaldI hx hb hK hW 1 3 (rN) (mM (by decide) (by decide)) rfl (show rN < 33 by omega) (by decide) rfl rfl dX6_send_110 ?_
                refine lv_iconst (v := nI 0) hx hb dX6_send_111 (by decide) ?_
                refine lv_aload_n hx hb dX6_send_112 rfl (lv_at hl 1 rfl) ?_
                refine r_get hx hb hts hown hK hW 0 (0) 11 (mM (by decide) (by decide)) rfl rfl hinX6 (by decide) hf42 rfl rfl dX6_send_113 ?_
                refine lv_aload_n hx hb dX6_send_116 rfl (lv_at hl 1 rfl) ?_
                refine r_get hx hb hts hown hK hW 0 (0) 8 (mM (by decide) (by decide)) rfl rfl hinX6 (by decide) hf92 rfl rfl dX6_send_117 (lv_topi (fun x35 ex35 => ?_))
                refine r_top (show x35 = nI (wt (V J)) from (lt_o (by subst ex35 eI34 eI27 ex26 eI10 ex9 eI8 ex7 ex5; simp [clr_n, cpy_n, jn_n, goA_n, inP_n, up3_f, up3_s, mtM_n, hnM_n, gaP_n, lnP_n, cp3_n]) hT)) ?_
                refine r_aaldI hx hb hK hW 1 6 (wt (V J)) (mM (by decide) (by decide)) rfl (show wt (V J) < 6 by omega) (by decide) rfl rfl dX6_send_120 ?_
                refine lv_iconst (v := nI 0) hx hb dX6_send_121 (by decide) ?_
                refine lv_iconst (v := nI 4) hx hb dX6_send_122 (by decide) ?_
                refine rM_copy hx hb (hml.trans hl.1.symm) hown (hts (.methodLink RX6 98 arraycopyName) (by decide +kernel)) (hts (.native arraycopyName) (by decide +kernel)) (hts (.static arraycopyName) (by decide +kernel)) (hts (.initialized "java/lang/System") (by decide +kernel)) hK hI hW hS 10 (rN) 18 (wt (V J)) (0) (0) (4) (by decide) (by decide) (show rN < 33 by omega) (by decide) (by decide) (show wt (V J) < 6 by omega) (by decide) (by decide) rfl rfl rfl (by decide) (by decide) dX6_send_123 (fun I36 H locs eI36 hW hS => ?_)
                refine lv_aload_n hx hb dX6_send_126 rfl (lv_at hl 1 rfl) ?_
                refine lv_dup hx hb dX6_send_127 rfl ?_
                refine r_get hx hb hts hown hK hW 0 (0) 8 (mM (by decide) (by decide)) rfl rfl hinX6 (by decide) hf92 rfl rfl dX6_send_128 (lv_topi (fun x37 ex37 => ?_))
                refine r_top (show x37 = nI (wt (V J)) from (lt_o (by subst ex37 eI36 ex35 eI34 eI27 ex26 eI10 ex9 eI8 ex7 ex5; simp [clr_n, cpy_n, jn_n, goA_n, inP_n, up3_f, up3_s, mtM_n, hnM_n, gaP_n, lnP_n, cp3_n]) hT)) ?_
                refine lv_iconst (v := nI 1) hx hb dX6_send_131 (by decide) ?_
                refine lv_iadd hx hb dX6_send_132 (r_top (nI_add _ _) ?_)
                refine r_puti (wd := wM G ad) (ty := .int) hx hb hts hown hK hI hW hS 0 (0) 8 (mM (by decide) (by decide)) rfl rfl hinX6 (by decide) hf92 rfl tyX6 tyX6_ok nmX6 rfl (by decide +kernel) rfl rfl (Nat.le_of_ble_eq_true rfl) (by simp [wM, up3]) (fun f' i' hn => wM_up f' i' hn) dX6_send_133 (fun I38 H locs eI38 hW hS => ?_)
                refine lv_aload_n hx hb dX6_send_136 rfl (lv_at hl 1 rfl) ?_
                refine r_get hx hb hts hown hK hW 0 (0) 8 (mM (by decide) (by decide)) rfl rfl hinX6 (by decide) hf92 rfl rfl dX6_send_137 (lv_topi (fun x39 ex39 => ?_))
                refine r_top (show x39 = nI (wt (V J) + 1) from (by subst ex39 eI38 ex37 eI36 ex35 eI34 eI27 ex26 eI10 ex9 eI8 ex7 ex5; simp [clr_n, cpy_n, jn_n, goA_n, inP_n, up3_f, up3_s, mtM_n, hnM_n, gaP_n, lnP_n, cp3_n])) ?_
                refine lv_iconst (v := nI 1) hx hb dX6_send_140 (by decide) ?_
                refine lv_isub hx hb dX6_send_141 (r_top (pk_sub (show 1 ≤ wt (V J) + 1 by omega)) ?_)
                rw [hQ]
                exact g_iret (wd := wM G ad) hx hb hr rfl hlocks hW hS (by first | (exfalso; omega) | (subst ex39 eI38 ex37 eI36 ex35 eI34 eI27 ex26 eI10 ex9 eI8 ex7 ex5; refine ⟨?_, ?_⟩; (rw [if_pos (by simp [k_rN, k_oN, k15, k_wN, t_rN, t_oN, t_wN]), if_pos (by omega)]; exact congrArg nI (by omega)); rw [if_pos (by simp [k_rN, k_oN, k15, k_wN, t_rN, t_oN, t_wN]; omega)]; simp only [t_rN, t_oN, t_wN, snM]; (repeat' split) <;> first | rfl | (exfalso; omega))) dX6_send_142
          · replace c38_5 : wt (V J) = 6 := (nI_eq (show wt (V J) < 2147483648 by omega) (show 6 < 2147483648 by omega)).mp c38_5
            refine lv_bipush (v := (-4)) hx hb dX6_send_41 (by decide) ?_
            rw [hQ]
            exact g_iret (wd := wM G ad) hx hb hr rfl hlocks hW hS (by subst ex5; refine ⟨?_, ?_⟩ <;> simp [k_rN, k_oN, k15, k_wN, t_rN, t_oN, t_wN, c16_2, c38_5]) dX6_send_43
        · replace c26_3 := bI_0.mp c26_3
          try simp only [decide_eq_true_eq, decide_eq_false_iff_not] at c26_3
          refine lv_bipush (v := (-2)) hx hb dX6_send_29 (by decide) ?_
          rw [hQ]
          exact g_iret (wd := wM G ad) hx hb hr rfl hlocks hW hS (by skip; refine ⟨?_, ?_⟩ <;> simp [k_rN, k_oN, k15, c26_3, t_rN, t_oN]) dX6_send_31

set_option maxHeartbeats 4000000 in
set_option maxRecDepth 100000 in
theorem c_X6_lose (l : Launch) (D : va_G) (G : Nat → ClassId) (ad : Nat → Nat → Nat) (hI : wI LM ad) (J : St) (m0 : Int32) (hT : okT (V J)) : Met l yX6_lose wsX6_lose ({ frames := 4, cells := 0, slots := 0, locals := 130 } : Room) (gPre D G LM ad [.ref (ad 0 (0)), .int (m0)] (wM G ad J)) (gQi D LM ad (wM G ad) (fun r9 u => r9 = (if (okN (nI (wt (V J))) m0) = true then nI 1 else -2) ∧ u = (if (okN (nI (wt (V J))) m0) = true then gaS J (tn m0) else J))) 0 0 (wA LM ad) := by
  refine g_entry (C := RX6) (cc := cX6_lose) (maxL := 2) (ret := (some .int)) rfl (by decide) rfl (Nat.le_of_ble_eq_true rfl) (fun p e s m args below meth c Q ls hQ hx hb hr hts hown hlocks hml hW hK hl => ?_)
  have hl : lv_has ls 2 [(0, .ref (ad 0 (0))), (1, .int (m0))] := hl
  have hS := va_S.rf (A := wA LM ad) (H0 := s.heap)
  refine lv_aload_n hx hb dX6_lose_0 rfl (lv_at hl 0 rfl) ?_
  refine lv_iload_n hx hb dX6_lose_1 rfl (lv_at hl 1 rfl) ?_
  refine g_ci (va_runV (As := [.int (m0)]) (rest := []) ⟨hx, hb, hml, hown, hts⟩ (c_X6_isLetter l D G ad hI J m0 hT) (cwV 1 hts gX6_lose_X6_isLetter rfl rfl rfl (by decide +kernel) ⟨Nat.le_of_ble_eq_true rfl, Nat.le_of_ble_eq_true rfl⟩) (g_preV hK hW 0 (0) (mM (by decide) (by decide)) rfl rfl) rfl rfl hl.1 rfl (lv_room (Nat.le_of_ble_eq_true rfl)) dX6_lose_2 ⟨Nat.le_refl _, Nat.le_refl _⟩) hS (fun x1 I1 H locs hp hW hS => ?_)
  obtain ⟨ex1, eI1⟩ := hp
  rw [eI1] at hW
  clear eI1
  refine lv_if_ne (tgt := 11) hx hb dX6_lose_5 (by decide) (fun c5_1 => ?_) (fun c5_1 => ?_)
  · rw [ex1] at c5_1
    replace c5_1 := bI_1.mp c5_1
    obtain ⟨m0N, hm0N, em0N⟩ := okN_nI (k := wt (V J)) (by first | omega | (have := hT.2; omega)) c5_1
    subst em0N
    have hw6_m0N := hT.2
    have t_m0N : tn (nI m0N) = m0N := tn_nI (by omega)
    have k_m0N : okN (nI (wt (V J))) (nI m0N) = true := okN_of (by first | omega | (have := hT.2; omega)) hm0N
    refine lv_aload_n hx hb dX6_lose_11 rfl (lv_at hl 0 rfl) ?_
    refine lv_iload_n hx hb dX6_lose_12 rfl (lv_at hl 1 rfl) ?_
    refine g_cv (va_runV (As := [.int (nI (m0N))]) (rest := []) ⟨hx, hb, hml, hown, hts⟩ (c_X6_goesAway l D G ad hI J m0N (show m0N < wt (V J) by omega) hT) (cwV 1 hts gX6_lose_X6_goesAway rfl rfl rfl (by decide +kernel) ⟨Nat.le_of_ble_eq_true rfl, Nat.le_of_ble_eq_true rfl⟩) (g_preV hK hW 0 (0) (mM (by decide) (by decide)) rfl rfl) rfl rfl hl.1 rfl (lv_room (Nat.le_of_ble_eq_true rfl)) dX6_lose_13 ⟨Nat.le_refl _, Nat.le_refl _⟩) hS (fun I3 H locs hp hW hS => ?_)
    have eI3 : I3 = gaS J m0N := hp
    refine lv_iconst (v := nI 1) hx hb dX6_lose_16 (by decide) ?_
    rw [hQ]
    exact g_iret (wd := wM G ad) hx hb hr rfl hlocks hW hS (by subst eI3 ex1; refine ⟨?_, ?_⟩ <;> rw [if_pos (by simp [k_m0N])]; simp only [t_m0N]) dX6_lose_17
  · rw [ex1] at c5_1
    replace c5_1 := bI_0.mp c5_1
    try simp only [decide_eq_true_eq, decide_eq_false_iff_not] at c5_1
    refine lv_bipush (v := (-2)) hx hb dX6_lose_8 (by decide) ?_
    rw [hQ]
    exact g_iret (wd := wM G ad) hx hb hr rfl hlocks hW hS (by subst ex1; refine ⟨?_, ?_⟩ <;> simp [c5_1]) dX6_lose_10

set_option maxHeartbeats 4000000 in
set_option maxRecDepth 100000 in
theorem c_X6_twice (l : Launch) (D : va_G) (G : Nat → ClassId) (ad : Nat → Nat → Nat) (hI : wI LM ad) (J : St) (m0 : Int32) (hT : okT (V J)) : Met l yX6_twice wsX6_twice ({ frames := 3, cells := 0, slots := 0, locals := 108 } : Room) (gPre D G LM ad [.ref (ad 0 (0)), .int (m0)] (wM G ad J)) (gQi D LM ad (wM G ad) (fun r9 u => r9 = (if (okN (nI (wt (V J))) m0) = true then (if wt (V J) < 6 then nI (wt (V J)) else -4) else -2) ∧ u = (if (okN (nI (wt (V J))) m0 && decide (wt (V J) < 6)) = true then twM J (tn m0) else J))) 0 0 (wA LM ad) := by
  refine g_entry (C := RX6) (cc := cX6_twice) (maxL := 2) (ret := (some .int)) rfl (by decide) rfl (Nat.le_of_ble_eq_true rfl) (fun p e s m args below meth c Q ls hQ hx hb hr hts hown hlocks hml hW hK hl => ?_)
  have hl : lv_has ls 2 [(0, .ref (ad 0 (0))), (1, .int (m0))] := hl
  have hS := va_S.rf (A := wA LM ad) (H0 := s.heap)
  have hinX6 : ∀ w ∈ wsX60, w ∈ wsX6_twice := by decide +kernel
  have hf92 := hts (.fieldLink RX6 92 "JoinedStoresModel" "letters" "I") (by decide +kernel)
  refine lv_aload_n hx hb dX6_twice_0 rfl (lv_at hl 0 rfl) ?_
  refine lv_iload_n hx hb dX6_twice_1 rfl (lv_at hl 1 rfl) ?_
  refine g_ci (va_runV (As := [.int (m0)]) (rest := []) ⟨hx, hb, hml, hown, hts⟩ (c_X6_isLetter l D G ad hI J m0 hT) (cwV 1 hts gX6_twice_X6_isLetter rfl rfl rfl (by decide +kernel) ⟨Nat.le_of_ble_eq_true rfl, Nat.le_of_ble_eq_true rfl⟩) (g_preV hK hW 0 (0) (mM (by decide) (by decide)) rfl rfl) rfl rfl hl.1 rfl (lv_room (Nat.le_of_ble_eq_true rfl)) dX6_twice_2 ⟨Nat.le_refl _, Nat.le_refl _⟩) hS (fun x1 I1 H locs hp hW hS => ?_)
  obtain ⟨ex1, eI1⟩ := hp
  rw [eI1] at hW
  clear eI1
  refine lv_if_ne (tgt := 11) hx hb dX6_twice_5 (by decide) (fun c5_1 => ?_) (fun c5_1 => ?_)
  · rw [ex1] at c5_1
    replace c5_1 := bI_1.mp c5_1
    obtain ⟨m0N, hm0N, em0N⟩ := okN_nI (k := wt (V J)) (by first | omega | (have := hT.2; omega)) c5_1
    subst em0N
    have hw6_m0N := hT.2
    have t_m0N : tn (nI m0N) = m0N := tn_nI (by omega)
    have k_m0N : okN (nI (wt (V J))) (nI m0N) = true := okN_of (by first | omega | (have := hT.2; omega)) hm0N
    refine lv_aload_n hx hb dX6_twice_11 rfl (lv_at hl 0 rfl) ?_
    refine r_get hx hb hts hown hK hW 0 (0) 8 (mM (by decide) (by decide)) rfl rfl hinX6 (by decide) hf92 rfl rfl dX6_twice_12 (lv_topi (fun x3 ex3 => ?_))
    refine r_top (show x3 = nI (wt (V J)) from (lt_o (by subst ex3 ex1; simp [clr_n, cpy_n, jn_n, goA_n, inP_n, up3_f, up3_s, mtM_n, hnM_n, gaP_n, lnP_n, cp3_n]) hT)) ?_
    refine lv_bipush (v := nI 6) hx hb dX6_twice_15 (by decide) ?_
    refine lv_icmp_ne (tgt := 23) hx hb dX6_twice_17 (by decide) (fun c17_3 => ?_) (fun c17_3 => ?_)
    · replace c17_3 : ¬ wt (V J) = 6 := fun h => c17_3 ((nI_eq (show wt (V J) < 2147483648 by omega) (show 6 < 2147483648 by omega)).mpr h)
      refine lv_aload_n hx hb dX6_twice_23 rfl (lv_at hl 0 rfl) ?_
      refine lv_iload_n hx hb dX6_twice_24 rfl (lv_at hl 1 rfl) ?_
      refine lv_aload_n hx hb dX6_twice_25 rfl (lv_at hl 0 rfl) ?_
      refine r_get hx hb hts hown hK hW 0 (0) 8 (mM (by decide) (by decide)) rfl rfl hinX6 (by decide) hf92 rfl rfl dX6_twice_26 (lv_topi (fun x5 ex5 => ?_))
      refine r_top (show x5 = nI (wt (V J)) from (lt_o (by subst ex5 ex3 ex1; simp [clr_n, cpy_n, jn_n, goA_n, inP_n, up3_f, up3_s, mtM_n, hnM_n, gaP_n, lnP_n, cp3_n]) hT)) ?_
      refine g_cv (va_runV (As := [.int (nI (m0N)), .int (nI (wt (V J)))]) (rest := []) ⟨hx, hb, hml, hown, hts⟩ (c_X6_handOn l D G ad hI J m0N (wt (V J)) (show m0N < 6 by omega) (show wt (V J) < 6 by omega)) (cwV 2 hts gX6_twice_X6_handOn rfl rfl rfl (by decide +kernel) ⟨Nat.le_of_ble_eq_true rfl, Nat.le_of_ble_eq_true rfl⟩) (g_preV hK hW 0 (0) (mM (by decide) (by decide)) rfl rfl) rfl rfl hl.1 rfl (lv_room (Nat.le_of_ble_eq_true rfl)) dX6_twice_29 ⟨Nat.le_refl _, Nat.le_refl _⟩) hS (fun I6 H locs hp hW hS => ?_)
      have eI6 : I6 = hnM J m0N (wt (V J)) := hp
      refine lv_aload_n hx hb dX6_twice_32 rfl (lv_at hl 0 rfl) ?_
      refine lv_dup hx hb dX6_twice_33 rfl ?_
      refine r_get hx hb hts hown hK hW 0 (0) 8 (mM (by decide) (by decide)) rfl rfl hinX6 (by decide) hf92 rfl rfl dX6_twice_34 (lv_topi (fun x7 ex7 => ?_))
      refine r_top (show x7 = nI (wt (V J)) from (lt_o (by subst ex7 eI6 ex5 ex3 ex1; simp [clr_n, cpy_n, jn_n, goA_n, inP_n, up3_f, up3_s, mtM_n, hnM_n, gaP_n, lnP_n, cp3_n]) hT)) ?_
      refine lv_iconst (v := nI 1) hx hb dX6_twice_37 (by decide) ?_
      refine lv_iadd hx hb dX6_twice_38 (r_top (nI_add _ _) ?_)
      refine r_puti (wd := wM G ad) (ty := .int) hx hb hts hown hK hI hW hS 0 (0) 8 (mM (by decide) (by decide)) rfl rfl hinX6 (by decide) hf92 rfl tyX6 tyX6_ok nmX6 rfl (by decide +kernel) rfl rfl (Nat.le_of_ble_eq_true rfl) (by simp [wM, up3]) (fun f' i' hn => wM_up f' i' hn) dX6_twice_39 (fun I8 H locs eI8 hW hS => ?_)
      refine lv_aload_n hx hb dX6_twice_42 rfl (lv_at hl 0 rfl) ?_
      refine r_get hx hb hts hown hK hW 0 (0) 8 (mM (by decide) (by decide)) rfl rfl hinX6 (by decide) hf92 rfl rfl dX6_twice_43 (lv_topi (fun x9 ex9 => ?_))
      refine r_top (show x9 = nI (wt (V J) + 1) from (by subst ex9 eI8 ex7 eI6 ex5 ex3 ex1; simp [clr_n, cpy_n, jn_n, goA_n, inP_n, up3_f, up3_s, mtM_n, hnM_n, gaP_n, lnP_n, cp3_n])) ?_
      refine lv_iconst (v := nI 1) hx hb dX6_twice_46 (by decide) ?_
      refine lv_isub hx hb dX6_twice_47 (r_top (pk_sub (show 1 ≤ wt (V J) + 1 by omega)) ?_)
      rw [hQ]
      exact g_iret (wd := wM G ad) hx hb hr rfl hlocks hW hS (by subst ex9 eI8 ex7 eI6 ex5 ex3 ex1; refine ⟨?_, ?_⟩; (rw [if_pos (by simp [k_m0N, t_m0N]), if_pos (by omega)]; exact congrArg nI (by omega)); rw [if_pos (by simp [k_m0N, t_m0N]; omega)]; simp only [t_m0N]; rfl) dX6_twice_48
    · replace c17_3 : wt (V J) = 6 := (nI_eq (show wt (V J) < 2147483648 by omega) (show 6 < 2147483648 by omega)).mp c17_3
      refine lv_bipush (v := (-4)) hx hb dX6_twice_20 (by decide) ?_
      rw [hQ]
      exact g_iret (wd := wM G ad) hx hb hr rfl hlocks hW hS (by subst ex3 ex1; refine ⟨?_, ?_⟩; (rw [if_pos (by simp [k_m0N, t_m0N]), if_neg (by omega)]); rw [if_neg (by simp [k_m0N, t_m0N]; omega)]) dX6_twice_22
  · rw [ex1] at c5_1
    replace c5_1 := bI_0.mp c5_1
    try simp only [decide_eq_true_eq, decide_eq_false_iff_not] at c5_1
    refine lv_bipush (v := (-2)) hx hb dX6_twice_8 (by decide) ?_
    rw [hQ]
    exact g_iret (wd := wM G ad) hx hb hr rfl hlocks hW hS (by subst ex1; refine ⟨?_, ?_⟩ <;> simp [c5_1]) dX6_twice_10

set_option maxHeartbeats 4000000 in
set_option maxRecDepth 100000 in
theorem c_X6_letter (l : Launch) (D : va_G) (G : Nat → ClassId) (ad : Nat → Nat → Nat) (hI : wI LM ad) (J : St) (m0 w : Int32) (hT : okT (V J)) : Met l yX6_letter wsX6_letter ({ frames := 2, cells := 0, slots := 0, locals := 46 } : Room) (gPre D G LM ad [.ref (ad 0 (0)), .int (m0), .int (w)] (wM G ad J)) (gQi D LM ad (wM G ad) (fun r9 u => r9 = (if (okN (nI (wt (V J))) m0 && okN (nI 4) w) = true then ltM J (tn m0) (tn w) else -2) ∧ u = J)) 0 0 (wA LM ad) := by
  refine g_entry (C := RX6) (cc := cX6_letter) (maxL := 3) (ret := (some .int)) rfl (by decide) rfl (Nat.le_of_ble_eq_true rfl) (fun p e s m args below meth c Q ls hQ hx hb hr hts hown hlocks hml hW hK hl => ?_)
  have hl : lv_has ls 3 [(0, .ref (ad 0 (0))), (1, .int (m0)), (2, .int (w))] := hl
  have hS := va_S.rf (A := wA LM ad) (H0 := s.heap)
  have hinX6 : ∀ w ∈ wsX60, w ∈ wsX6_letter := by decide +kernel
  have hf27 := hts (.fieldLink RX6 27 "JoinedStoresModel" "heard" "[[I") (by decide +kernel)
  have hf30 := hts (.fieldLink RX6 30 "JoinedStoresModel" "alive" "[[I") (by decide +kernel)
  have hf36 := hts (.fieldLink RX6 36 "JoinedStoresModel" "senders" "[I") (by decide +kernel)
  have hf39 := hts (.fieldLink RX6 39 "JoinedStoresModel" "receivers" "[I") (by decide +kernel)
  refine lv_aload_n hx hb dX6_letter_0 rfl (lv_at hl 0 rfl) ?_
  refine lv_iload_n hx hb dX6_letter_1 rfl (lv_at hl 1 rfl) ?_
  refine g_ci (va_runV (As := [.int (m0)]) (rest := []) ⟨hx, hb, hml, hown, hts⟩ (c_X6_isLetter l D G ad hI J m0 hT) (cwV 1 hts gX6_letter_X6_isLetter rfl rfl rfl (by decide +kernel) ⟨Nat.le_of_ble_eq_true rfl, Nat.le_of_ble_eq_true rfl⟩) (g_preV hK hW 0 (0) (mM (by decide) (by decide)) rfl rfl) rfl rfl hl.1 rfl (lv_room (Nat.le_of_ble_eq_true rfl)) dX6_letter_2 ⟨Nat.le_refl _, Nat.le_refl _⟩) hS (fun x1 I1 H locs hp hW hS => ?_)
  obtain ⟨ex1, eI1⟩ := hp
  rw [eI1] at hW
  clear eI1
  refine lv_if_eq (tgt := 20) hx hb dX6_letter_5 (by decide) (fun c5_1 => ?_) (fun c5_1 => ?_)
  · rw [ex1] at c5_1
    replace c5_1 := bI_0.mp c5_1
    try simp only [decide_eq_true_eq, decide_eq_false_iff_not] at c5_1
    refine lv_bipush (v := (-2)) hx hb dX6_letter_20 (by decide) ?_
    rw [hQ]
    exact g_iret (wd := wM G ad) hx hb hr rfl hlocks hW hS (by subst ex1; refine ⟨?_, rfl⟩; simp [c5_1]) dX6_letter_22
  · rw [ex1] at c5_1
    replace c5_1 := bI_1.mp c5_1
    obtain ⟨m0N, hm0N, em0N⟩ := okN_nI (k := wt (V J)) (by first | omega | (have := hT.2; omega)) c5_1
    subst em0N
    have hw6_m0N := hT.2
    have t_m0N : tn (nI m0N) = m0N := tn_nI (by omega)
    have k_m0N : okN (nI (wt (V J))) (nI m0N) = true := okN_of (by first | omega | (have := hT.2; omega)) hm0N
    refine lv_iload_n hx hb dX6_letter_8 rfl (lv_at hl 2 rfl) ?_
    refine lv_i2l hx hb dX6_letter_9 rfl ?_
    refine lv_lconst (v := lN 0) hx hb dX6_letter_10 (by decide) ?_
    refine lv_ldc2 (v := (3)) hx hb hown (hts (.constantLong RX6 84 (3)) (by decide +kernel)) dX6_letter_11 ?_
    refine g_pi (va_runS (As := [.long (w.toInt64), .long (lN 0), .long ((3))]) (rest := []) ⟨hx, hb, hml, hown, hts⟩ (c_X6_inB l w.toInt64 (lN 0) ((3)) (okN (nI 4) w) (inL_N (k := 4) (by decide) (by decide) _)) (va_cwS 3 hts gX6_letter_X6_in rfl rfl rfl (by decide +kernel) ⟨Nat.le_of_ble_eq_true rfl, Nat.le_of_ble_eq_true rfl⟩) p_preS rfl rfl hl.1 rfl (lv_room (Nat.le_of_ble_eq_true rfl)) dX6_letter_14 ⟨Nat.le_refl _, Nat.le_refl _⟩) hW hS (fun H locs hW hS => ?_)
    refine lv_if_ne (tgt := 23) hx hb dX6_letter_17 (by decide) (fun c17_2 => ?_) (fun c17_2 => ?_)
    · replace c17_2 := bI_1.mp c17_2
      obtain ⟨wN, hwN, ewN⟩ := okN_nI (k := 4) (by decide) c17_2
      subst ewN
      have t_wN : tn (nI wN) = wN := tn_nI (by omega)
      have k_wN : okN (nI 4) (nI wN) = true := okN_of (by decide) hwN
      refine lv_iload_n hx hb dX6_letter_23 rfl (lv_at hl 2 rfl) ?_
      refine lv_if_ne (tgt := 36) hx hb dX6_letter_24 (by decide) (fun c24_3 => ?_) (fun c24_3 => ?_)
      · replace c24_3 : ¬ wN = 0 := fun h => c24_3 ((nI_eq (show wN < 2147483648 by omega) (show 0 < 2147483648 by omega)).mpr h)
        refine lv_iload_n hx hb dX6_letter_36 rfl (lv_at hl 2 rfl) ?_
        refine lv_iconst (v := nI 1) hx hb dX6_letter_37 (by decide) ?_
        refine lv_icmp_ne (tgt := 50) hx hb dX6_letter_38 (by decide) (fun c38_4 => ?_) (fun c38_4 => ?_)
        · replace c38_4 : ¬ wN = 1 := fun h => c38_4 ((nI_eq (show wN < 2147483648 by omega) (show 1 < 2147483648 by omega)).mpr h)
          refine lv_aload_n hx hb dX6_letter_50 rfl (lv_at hl 0 rfl) ?_
          refine lv_iload_n hx hb dX6_letter_51 rfl (lv_at hl 2 rfl) ?_
          refine lv_iconst (v := nI 2) hx hb dX6_letter_52 (by decide) ?_
          refine lv_icmp_ne (tgt := 68) hx hb dX6_letter_53 (by decide) (fun c53_5 => ?_) (fun c53_5 => ?_)
          · replace c53_5 : ¬ wN = 2 := fun h => c53_5 ((nI_eq (show wN < 2147483648 by omega) (show 2 < 2147483648 by omega)).mpr h)
            refine lv_aload_n hx hb dX6_letter_68 rfl (lv_at hl 0 rfl) ?_
            refine r_get hx hb hts hown hK hW 0 (0) 6 (mM (by decide) (by decide)) rfl rfl hinX6 (by decide) hf30 rfl rfl dX6_letter_69 ?_
            refine lv_bipush (v := nI 20) hx hb dX6_letter_72 (by decide) ?_
            refine lv_iload_n hx hb dX6_letter_74 rfl (lv_at hl 1 rfl) ?_
            refine lv_iadd hx hb dX6_letter_75 (r_top (nI_add _ _) ?_)
            refine r_aaldI hx hb hK hW 1 4 (20 + m0N) (mM (by decide) (by decide)) rfl (show 20 + m0N < 33 by omega) (by decide) rfl rfl dX6_letter_76 ?_
            refine g_ci (va_runV (As := [.ref (ad 11 (20 + m0N))]) (rest := []) ⟨hx, hb, hml, hown, hts⟩ (c_X6_bitsOf_11 l D G ad hI J (20 + m0N) (show 20 + m0N < 33 by omega)) (cwV 1 hts gX6_letter_X6_bitsOf rfl rfl rfl (by decide +kernel) ⟨Nat.le_of_ble_eq_true rfl, Nat.le_of_ble_eq_true rfl⟩) (g_preV hK hW 0 (0) (mM (by decide) (by decide)) rfl rfl) rfl rfl hl.1 rfl (lv_room (Nat.le_of_ble_eq_true rfl)) dX6_letter_77 ⟨Nat.le_refl _, Nat.le_refl _⟩) hS (fun x7 I7 H locs hp hW hS => ?_)
            obtain ⟨ex7, eI7⟩ := hp
            rw [eI7] at hW
            clear eI7
            rw [hQ]
            exact g_iret (wd := wM G ad) hx hb hr rfl hlocks hW hS (by subst ex7 ex1; refine ⟨?_, rfl⟩; rw [if_pos (by simp [k_m0N, k_wN])]; simp only [t_m0N, t_wN, ltM]; (repeat' split) <;> first | rfl | (exfalso; omega)) dX6_letter_80
          · replace c53_5 : wN = 2 := (nI_eq (show wN < 2147483648 by omega) (show 2 < 2147483648 by omega)).mp c53_5
            refine lv_aload_n hx hb dX6_letter_56 rfl (lv_at hl 0 rfl) ?_
            refine r_get hx hb hts hown hK hW 0 (0) 5 (mM (by decide) (by decide)) rfl rfl hinX6 (by decide) hf27 rfl rfl dX6_letter_57 ?_
            refine lv_bipush (v := nI 20) hx hb dX6_letter_60 (by decide) ?_
            refine lv_iload_n hx hb dX6_letter_62 rfl (lv_at hl 1 rfl) ?_
            refine lv_iadd hx hb dX6_letter_63 (r_top (nI_add _ _) ?_)
            refine r_aaldI hx hb hK hW 1 3 (20 + m0N) (mM (by decide) (by decide)) rfl (show 20 + m0N < 33 by omega) (by decide) rfl rfl dX6_letter_64 ?_
            refine lv_goto (tgt := 77) hx hb dX6_letter_65 (by decide) ?_
            refine g_ci (va_runV (As := [.ref (ad 10 (20 + m0N))]) (rest := []) ⟨hx, hb, hml, hown, hts⟩ (c_X6_bitsOf_10 l D G ad hI J (20 + m0N) (show 20 + m0N < 33 by omega)) (cwV 1 hts gX6_letter_X6_bitsOf rfl rfl rfl (by decide +kernel) ⟨Nat.le_of_ble_eq_true rfl, Nat.le_of_ble_eq_true rfl⟩) (g_preV hK hW 0 (0) (mM (by decide) (by decide)) rfl rfl) rfl rfl hl.1 rfl (lv_room (Nat.le_of_ble_eq_true rfl)) dX6_letter_77 ⟨Nat.le_refl _, Nat.le_refl _⟩) hS (fun x8 I8 H locs hp hW hS => ?_)
            obtain ⟨ex8, eI8⟩ := hp
            rw [eI8] at hW
            clear eI8
            rw [hQ]
            exact g_iret (wd := wM G ad) hx hb hr rfl hlocks hW hS (by subst ex8 ex1; refine ⟨?_, rfl⟩; rw [if_pos (by simp [k_m0N, k_wN])]; simp only [t_m0N, t_wN, ltM]; (repeat' split) <;> first | rfl | (exfalso; omega)) dX6_letter_80
        · replace c38_4 : wN = 1 := (nI_eq (show wN < 2147483648 by omega) (show 1 < 2147483648 by omega)).mp c38_4
          refine lv_aload_n hx hb dX6_letter_41 rfl (lv_at hl 0 rfl) ?_
          refine r_get hx hb hts hown hK hW 0 (0) 10 (mM (by decide) (by decide)) rfl rfl hinX6 (by decide) hf39 rfl rfl dX6_letter_42 ?_
          refine lv_iload_n hx hb dX6_letter_45 rfl (lv_at hl 1 rfl) ?_
          refine rM_iald hx hb hK hW 22 (0) (m0N) (by decide) (by decide) (by decide) (show m0N < 6 by omega) rfl dX6_letter_46 (fun x9 ex9 => ?_)
          refine lv_goto (tgt := 80) hx hb dX6_letter_47 (by decide) ?_
          rw [hQ]
          exact g_iret (wd := wM G ad) hx hb hr rfl hlocks hW hS (by subst ex9 ex1; refine ⟨?_, rfl⟩; rw [if_pos (by simp [k_m0N, k_wN])]; simp only [t_m0N, t_wN, ltM]; (repeat' split) <;> first | rfl | (exfalso; omega)) dX6_letter_80
      · replace c24_3 : wN = 0 := (nI_eq (show wN < 2147483648 by omega) (show 0 < 2147483648 by omega)).mp c24_3
        refine lv_aload_n hx hb dX6_letter_27 rfl (lv_at hl 0 rfl) ?_
        refine r_get hx hb hts hown hK hW 0 (0) 9 (mM (by decide) (by decide)) rfl rfl hinX6 (by decide) hf36 rfl rfl dX6_letter_28 ?_
        refine lv_iload_n hx hb dX6_letter_31 rfl (lv_at hl 1 rfl) ?_
        refine rM_iald hx hb hK hW 21 (0) (m0N) (by decide) (by decide) (by decide) (show m0N < 6 by omega) rfl dX6_letter_32 (fun x10 ex10 => ?_)
        refine lv_goto (tgt := 80) hx hb dX6_letter_33 (by decide) ?_
        rw [hQ]
        exact g_iret (wd := wM G ad) hx hb hr rfl hlocks hW hS (by subst ex10 ex1; refine ⟨?_, rfl⟩; rw [if_pos (by simp [k_m0N, k_wN])]; simp only [t_m0N, t_wN, ltM]; (repeat' split) <;> first | rfl | (exfalso; omega)) dX6_letter_80
    · replace c17_2 := bI_0.mp c17_2
      try simp only [decide_eq_true_eq, decide_eq_false_iff_not] at c17_2
      refine lv_bipush (v := (-2)) hx hb dX6_letter_20 (by decide) ?_
      rw [hQ]
      exact g_iret (wd := wM G ad) hx hb hr rfl hlocks hW hS (by subst ex1; refine ⟨?_, rfl⟩; simp [k_m0N, c17_2]) dX6_letter_22

set_option maxHeartbeats 4000000 in
set_option maxRecDepth 100000 in
theorem c_X6_come (l : Launch) (D : va_G) (G : Nat → ClassId) (ad : Nat → Nat → Nat) (hI : wI LM ad) (J : St) (m0 : Int32) (hT : okT (V J)) (hA : okA J) : Met l yX6_come wsX6_come ({ frames := 4, cells := 0, slots := 0, locals := 130 } : Room) (gPre D G LM ad [.ref (ad 0 (0)), .int (m0)] (wM G ad J)) (gQi D LM ad (wM G ad) (fun r9 u => r9 = (if (okN (nI (wt (V J))) m0) = true then bcs (cmM J (tn m0) 10 (mtoM J (tn m0))) 4 - bcs (J 10 (mtoM J (tn m0))) 4 else -2) ∧ u = (if (okN (nI (wt (V J))) m0) = true then cmM J (tn m0) else J))) 0 0 (wA LM ad) := by
  refine g_entry (C := RX6) (cc := cX6_come) (maxL := 5) (ret := (some .int)) rfl (by decide) rfl (Nat.le_of_ble_eq_true rfl) (fun p e s m args below meth c Q ls hQ hx hb hr hts hown hlocks hml hW hK hl => ?_)
  have hl : lv_has ls 5 [(0, .ref (ad 0 (0))), (1, .int (m0))] := hl
  have hS := va_S.rf (A := wA LM ad) (H0 := s.heap)
  have hinX6 : ∀ w ∈ wsX60, w ∈ wsX6_come := by decide +kernel
  have hf27 := hts (.fieldLink RX6 27 "JoinedStoresModel" "heard" "[[I") (by decide +kernel)
  have hf33 := hts (.fieldLink RX6 33 "JoinedStoresModel" "known" "[[I") (by decide +kernel)
  have hf36 := hts (.fieldLink RX6 36 "JoinedStoresModel" "senders" "[I") (by decide +kernel)
  have hf39 := hts (.fieldLink RX6 39 "JoinedStoresModel" "receivers" "[I") (by decide +kernel)
  have hf42 := hts (.fieldLink RX6 42 "JoinedStoresModel" "had" "[[I") (by decide +kernel)
  refine lv_aload_n hx hb dX6_come_0 rfl (lv_at hl 0 rfl) ?_
  refine lv_iload_n hx hb dX6_come_1 rfl (lv_at hl 1 rfl) ?_
  refine g_ci (va_runV (As := [.int (m0)]) (rest := []) ⟨hx, hb, hml, hown, hts⟩ (c_X6_isLetter l D G ad hI J m0 hT) (cwV 1 hts gX6_come_X6_isLetter rfl rfl rfl (by decide +kernel) ⟨Nat.le_of_ble_eq_true rfl, Nat.le_of_ble_eq_true rfl⟩) (g_preV hK hW 0 (0) (mM (by decide) (by decide)) rfl rfl) rfl rfl hl.1 rfl (lv_room (Nat.le_of_ble_eq_true rfl)) dX6_come_2 ⟨Nat.le_refl _, Nat.le_refl _⟩) hS (fun x1 I1 H locs hp hW hS => ?_)
  obtain ⟨ex1, eI1⟩ := hp
  rw [eI1] at hW
  clear eI1
  refine lv_if_ne (tgt := 11) hx hb dX6_come_5 (by decide) (fun c5_1 => ?_) (fun c5_1 => ?_)
  · rw [ex1] at c5_1
    replace c5_1 := bI_1.mp c5_1
    obtain ⟨m0N, hm0N, em0N⟩ := okN_nI (k := wt (V J)) (by first | omega | (have := hT.2; omega)) c5_1
    subst em0N
    have hw6_m0N := hT.2
    have t_m0N : tn (nI m0N) = m0N := tn_nI (by omega)
    have k_m0N : okN (nI (wt (V J))) (nI m0N) = true := okN_of (by first | omega | (have := hT.2; omega)) hm0N
    refine lv_aload_n hx hb dX6_come_11 rfl (lv_at hl 0 rfl) ?_
    refine r_get hx hb hts hown hK hW 0 (0) 10 (mM (by decide) (by decide)) rfl rfl hinX6 (by decide) hf39 rfl rfl dX6_come_12 ?_
    refine lv_iload_n hx hb dX6_come_15 rfl (lv_at hl 1 rfl) ?_
    refine rM_iald hx hb hK hW 22 (0) (m0N) (by decide) (by decide) (by decide) (show m0N < 6 by omega) rfl dX6_come_16 (fun x3 ex3 => ?_)
    have hto4 := (hA m0N (by omega)).2.2.2
    have hfr4 := (hA m0N (by omega)).2.1
    refine r_top (show x3 = nI (mtoM J m0N) from (ex3.trans (hA m0N (by omega)).2.2.1)) ?_
    refine lv_istore_n (lv' := [(2, .int (nI (mtoM J m0N))), (0, .ref (ad 0 (0))), (1, .int (nI (m0N)))]) hx hb dX6_come_17 rfl hl (by decide) rfl (fun ls hl => ?_)
    refine lv_aload_n hx hb dX6_come_18 rfl (lv_at hl 1 rfl) ?_
    refine lv_aload_n hx hb dX6_come_19 rfl (lv_at hl 1 rfl) ?_
    refine r_get hx hb hts hown hK hW 0 (0) 5 (mM (by decide) (by decide)) rfl rfl hinX6 (by decide) hf27 rfl rfl dX6_come_20 ?_
    refine lv_iload_n hx hb dX6_come_23 rfl (lv_at hl 0 rfl) ?_
    refine r_aaldI hx hb hK hW 1 3 (mtoM J m0N) (mM (by decide) (by decide)) rfl (show mtoM J m0N < 33 by omega) (by decide) rfl rfl dX6_come_24 ?_
    refine g_ci (va_runV (As := [.ref (ad 10 (mtoM J m0N))]) (rest := []) ⟨hx, hb, hml, hown, hts⟩ (c_X6_bitsOf_10 l D G ad hI J (mtoM J m0N) (show mtoM J m0N < 33 by omega)) (cwV 1 hts gX6_come_X6_bitsOf rfl rfl rfl (by decide +kernel) ⟨Nat.le_of_ble_eq_true rfl, Nat.le_of_ble_eq_true rfl⟩) (g_preV hK hW 0 (0) (mM (by decide) (by decide)) rfl rfl) rfl rfl hl.1 rfl (lv_room (Nat.le_of_ble_eq_true rfl)) dX6_come_25 ⟨Nat.le_refl _, Nat.le_refl _⟩) hS (fun x4 I4 H locs hp hW hS => ?_)
    obtain ⟨ex4, eI4⟩ := hp
    rw [eI4] at hW
    clear eI4
    refine lv_istore_n (lv' := [(3, .int (x4)), (2, .int (nI (mtoM J m0N))), (0, .ref (ad 0 (0))), (1, .int (nI (m0N)))]) hx hb dX6_come_28 rfl hl (by decide) rfl (fun ls hl => ?_)
    refine lv_aload_n hx hb dX6_come_29 rfl (lv_at hl 2 rfl) ?_
    refine lv_iload_n hx hb dX6_come_30 rfl (lv_at hl 1 rfl) ?_
    refine lv_bipush (v := nI 20) hx hb dX6_come_31 (by decide) ?_
    refine lv_iload_n hx hb dX6_come_33 rfl (lv_at hl 3 rfl) ?_
    refine lv_iadd hx hb dX6_come_34 (r_top (nI_add _ _) ?_)
    refine g_cv (va_runV (As := [.int (nI (mtoM J m0N)), .int (nI (20 + m0N))]) (rest := []) ⟨hx, hb, hml, hown, hts⟩ (c_X6_join l D G ad hI J (mtoM J m0N) (20 + m0N) (show mtoM J m0N < 33 by omega) (show 20 + m0N < 33 by omega)) (cwV 2 hts gX6_come_X6_join rfl rfl rfl (by decide +kernel) ⟨Nat.le_of_ble_eq_true rfl, Nat.le_of_ble_eq_true rfl⟩) (g_preV hK hW 0 (0) (mM (by decide) (by decide)) rfl rfl) rfl rfl hl.1 rfl (lv_room (Nat.le_of_ble_eq_true rfl)) dX6_come_35 ⟨Nat.le_refl _, Nat.le_refl _⟩) hS (fun I5 H locs hp hW hS => ?_)
    have eI5 : I5 = jn J (mtoM J m0N) (20 + m0N) := hp
    refine lv_iconst (v := nI 0) hx hb dX6_come_38 (by decide) ?_
    refine lv_istore (lv' := [(4, .int (nI (0))), (3, .int (x4)), (2, .int (nI (mtoM J m0N))), (0, .ref (ad 0 (0))), (1, .int (nI (m0N)))]) hx hb dX6_come_39 hl (by decide) rfl (fun ls hl => ?_)
    have K41 : ∀ (n : Nat) (i : Nat), (i ≤ 4) → 4 < i + n → ∀ (H : Heap) (locs : List Loc), va_P D vwCl (wS LM ad (wM G ad (lnP (jn J (mtoM J m0N) (20 + m0N)) (4 * mtoM J m0N + mfM J m0N) m0N i))) H → va_S (wA LM ad) s.heap H locs → ∀ (ls : Array Slot), lv_has ls 5 [(4, .int (nI (i))), (3, .int (x4)), (2, .int (nI (mtoM J m0N))), (0, .ref (ad 0 (0))), (1, .int (nI (m0N)))] → W p l e ({ frames := 4, cells := 0, slots := 0, locals := 130 } : Room) s m args below meth c H locs 0 0 Q (F0 m 41 ls []) := by
      intro n41
      induction n41 with
      | zero => intro i hi hfu; exact absurd hfu (by omega)
      | succ n41 ih41 =>
        intro i hi hfu H locs hW hS ls hl
        refine lv_iload hx hb dX6_come_41 (lv_at hl 0 rfl) ?_
        refine lv_iconst (v := nI 4) hx hb dX6_come_43 (by decide) ?_
        refine lv_icmp_ge (tgt := 83) hx hb dX6_come_44 (by decide) (fun c44_5 => ?_) (fun c44_5 => ?_)
        · replace c44_5 : 4 ≤ i := (nI_leI (show 4 < 2147483648 by omega) (show i < 2147483648 by omega)).mp c44_5
          refine lv_aload_n hx hb dX6_come_83 rfl (lv_at hl 3 rfl) ?_
          refine lv_iload_n hx hb dX6_come_84 rfl (lv_at hl 4 rfl) ?_
          have hmw_6 : m0N < wt (V (lnP (jn J (mtoM J m0N) (20 + m0N)) (4 * mtoM J m0N + mfM J m0N) m0N i)) := by rw [wt_e (I := V J) (by show (lnP (jn J (mtoM J m0N) (20 + m0N)) (4 * mtoM J m0N + mfM J m0N) m0N i) 0 0 8 = J 0 0 8; simp [clr_n, cpy_n, jn_n, goA_n, inP_n, up3_f, up3_s, mtM_n, hnM_n, gaP_n, lnP_n, cp3_n])]; omega
          have hT_7 : okT (V (lnP (jn J (mtoM J m0N) (20 + m0N)) (4 * mtoM J m0N + mfM J m0N) m0N i)) := okT_e (by show (lnP (jn J (mtoM J m0N) (20 + m0N)) (4 * mtoM J m0N + mfM J m0N) m0N i) 0 0 8 = J 0 0 8; simp [clr_n, cpy_n, jn_n, goA_n, inP_n, up3_f, up3_s, mtM_n, hnM_n, gaP_n, lnP_n, cp3_n]) hT
          refine g_cv (va_runV (As := [.int (nI (m0N))]) (rest := []) ⟨hx, hb, hml, hown, hts⟩ (c_X6_goesAway l D G ad hI (lnP (jn J (mtoM J m0N) (20 + m0N)) (4 * mtoM J m0N + mfM J m0N) m0N i) m0N hmw_6 hT_7) (cwV 1 hts gX6_come_X6_goesAway rfl rfl rfl (by decide +kernel) ⟨Nat.le_of_ble_eq_true rfl, Nat.le_of_ble_eq_true rfl⟩) (g_preV hK hW 0 (0) (mM (by decide) (by decide)) rfl rfl) rfl rfl hl.1 rfl (lv_room (Nat.le_of_ble_eq_true rfl)) dX6_come_85 ⟨Nat.le_refl _, Nat.le_refl _⟩) hS (fun I9 H locs hp hW hS => ?_)
          have eI9 : I9 = gaS (lnP (jn J (mtoM J m0N) (20 + m0N)) (4 * mtoM J m0N + mfM J m0N) m0N i) m0N := hp
          refine lv_aload_n hx hb dX6_come_88 rfl (lv_at hl 3 rfl) ?_
          refine lv_aload_n hx hb dX6_come_89 rfl (lv_at hl 3 rfl) ?_
          refine r_get hx hb hts hown hK hW 0 (0) 5 (mM (by decide) (by decide)) rfl rfl hinX6 (by decide) hf27 rfl rfl dX6_come_90 ?_
          refine lv_iload_n hx hb dX6_come_93 rfl (lv_at hl 2 rfl) ?_
          refine r_aaldI hx hb hK hW 1 3 (mtoM J m0N) (mM (by decide) (by decide)) rfl (show mtoM J m0N < 33 by omega) (by decide) rfl rfl dX6_come_94 ?_
          refine g_ci (va_runV (As := [.ref (ad 10 (mtoM J m0N))]) (rest := []) ⟨hx, hb, hml, hown, hts⟩ (c_X6_bitsOf_10 l D G ad hI I9 (mtoM J m0N) (show mtoM J m0N < 33 by omega)) (cwV 1 hts gX6_come_X6_bitsOf rfl rfl rfl (by decide +kernel) ⟨Nat.le_of_ble_eq_true rfl, Nat.le_of_ble_eq_true rfl⟩) (g_preV hK hW 0 (0) (mM (by decide) (by decide)) rfl rfl) rfl rfl hl.1 rfl (lv_room (Nat.le_of_ble_eq_true rfl)) dX6_come_95 ⟨Nat.le_refl _, Nat.le_refl _⟩) hS (fun x10 I10 H locs hp hW hS => ?_)
          obtain ⟨ex10, eI10⟩ := hp
          rw [eI10] at hW
          clear eI10
          refine lv_iload_n hx hb dX6_come_98 rfl (lv_at hl 1 rfl) ?_
          refine lv_isub hx hb dX6_come_99 (lv_topi (fun x11 ex11 => ?_))
          rw [hQ]
          exact g_iret (wd := wM G ad) hx hb hr rfl hlocks hW hS (by have e4 : i = 4 := (by omega); subst e4; subst ex11 ex10 eI9; subst ex4; refine ⟨?_, ?_⟩ <;> rw [if_pos (by simp [k_m0N])] <;> simp only [t_m0N] <;> rfl) dX6_come_100
        · replace c44_5 : ¬ (4 ≤ i) := fun h => c44_5 ((nI_leI (show 4 < 2147483648 by omega) (show i < 2147483648 by omega)).mpr h)
          refine lv_aload_n hx hb dX6_come_47 rfl (lv_at hl 3 rfl) ?_
          refine r_get hx hb hts hown hK hW 0 (0) 7 (mM (by decide) (by decide)) rfl rfl hinX6 (by decide) hf33 rfl rfl dX6_come_48 ?_
          refine lv_iconst (v := nI 4) hx hb dX6_come_51 (by decide) ?_
          refine lv_iload_n hx hb dX6_come_52 rfl (lv_at hl 2 rfl) ?_
          refine lv_imul hx hb dX6_come_53 (r_top (pk_mul _ _) ?_)
          refine lv_aload_n hx hb dX6_come_54 rfl (lv_at hl 3 rfl) ?_
          refine r_get hx hb hts hown hK hW 0 (0) 9 (mM (by decide) (by decide)) rfl rfl hinX6 (by decide) hf36 rfl rfl dX6_come_55 ?_
          refine lv_iload_n hx hb dX6_come_58 rfl (lv_at hl 4 rfl) ?_
          refine rM_iald hx hb hK hW 21 (0) (m0N) (by decide) (by decide) (by decide) (show m0N < 6 by omega) rfl dX6_come_59 (fun x12 ex12 => ?_)
          refine r_top (show x12 = nI (mfM J m0N) from (ex12.trans ((lnP_n (by decide)).trans ((jn_n (by decide) (by decide)).trans (hA m0N (by omega)).1)))) ?_
          refine lv_iadd hx hb dX6_come_60 (r_top (nI_add _ _) ?_)
          refine r_aaldI hx hb hK hW 1 5 ((4 * (mtoM J m0N)) + (mfM J m0N)) (mM (by decide) (by decide)) rfl (show (4 * (mtoM J m0N)) + (mfM J m0N) < 16 by omega) (by decide) rfl rfl dX6_come_61 ?_
          refine lv_iload hx hb dX6_come_62 (lv_at hl 0 rfl) ?_
          refine lv_dup2_11 hx hb dX6_come_64 rfl rfl ?_
          refine rM_iald hx hb hK hW 17 ((4 * (mtoM J m0N)) + (mfM J m0N)) (i) (by decide) (by decide) (show (4 * (mtoM J m0N)) + (mfM J m0N) < 16 by omega) (show i < 4 by omega) rfl dX6_come_65 (fun x13 ex13 => ?_)
          refine lv_aload_n hx hb dX6_come_66 rfl (lv_at hl 3 rfl) ?_
          refine r_get hx hb hts hown hK hW 0 (0) 11 (mM (by decide) (by decide)) rfl rfl hinX6 (by decide) hf42 rfl rfl dX6_come_67 ?_
          refine lv_iload_n hx hb dX6_come_70 rfl (lv_at hl 4 rfl) ?_
          refine r_aaldI hx hb hK hW 1 6 (m0N) (mM (by decide) (by decide)) rfl (show m0N < 6 by omega) (by decide) rfl rfl dX6_come_71 ?_
          refine lv_iload hx hb dX6_come_72 (lv_at hl 0 rfl) ?_
          refine rM_iald hx hb hK hW 18 (m0N) (i) (by decide) (by decide) (show m0N < 6 by omega) (show i < 4 by omega) rfl dX6_come_74 (fun x14 ex14 => ?_)
          refine lv_ior hx hb dX6_come_75 (lv_topi (fun x15 ex15 => ?_))
          refine rM_iast hx hb hK hI hW hS 17 ((4 * (mtoM J m0N)) + (mfM J m0N)) (i) (by decide) (by decide) (show (4 * (mtoM J m0N)) + (mfM J m0N) < 16 by omega) (show i < 4 by omega) rfl dX6_come_76 (fun I16 H locs eI16 hW hS => ?_)
          refine lv_iinc (v := nI (i + 1)) (lv' := [(4, .int (nI (i + 1))), (3, .int (x4)), (2, .int (nI (mtoM J m0N))), (0, .ref (ad 0 (0))), (1, .int (nI (m0N)))]) hx hb dX6_come_77 hl (k := 0) rfl (nI_inc i 1) (by decide) rfl (fun ls hl => ?_)
          refine lv_goto (tgt := 41) hx hb dX6_come_80 (by decide) ?_
          have e9 : I16 = lnP (jn J (mtoM J m0N) (20 + m0N)) (4 * mtoM J m0N + mfM J m0N) m0N (i + 1) := by
            subst eI16 ex15 ex14 ex13 ex12
            exact lnP_s _ _ _ _
          have hW9 := hW
          rw [e9] at hW9
          exact ih41 (i + 1) (by omega) (by omega) _ _ hW9 hS _ (lv_sub hl [0, 1, 2, 3, 4] rfl)
    have e9 : I5 = lnP (jn J (mtoM J m0N) (20 + m0N)) (4 * mtoM J m0N + mfM J m0N) m0N 0 := by
      subst eI5 ex4 ex3 ex1
      exact (lnP_0 _ _ _).symm
    have hW9 := hW
    rw [e9] at hW9
    exact K41 (4 + 1) (0) (by omega) (by omega) _ _ hW9 hS _ (lv_sub hl [0, 1, 2, 3, 4] rfl)
  · rw [ex1] at c5_1
    replace c5_1 := bI_0.mp c5_1
    try simp only [decide_eq_true_eq, decide_eq_false_iff_not] at c5_1
    refine lv_bipush (v := (-2)) hx hb dX6_come_8 (by decide) ?_
    rw [hQ]
    exact g_iret (wd := wM G ad) hx hb hr rfl hlocks hW hS (by subst ex1; refine ⟨?_, ?_⟩ <;> simp [c5_1]) dX6_come_10

set_option maxHeartbeats 4000000 in
set_option maxRecDepth 100000 in
theorem c_X6_met (l : Launch) (D : va_G) (G : Nat → ClassId) (ad : Nat → Nat → Nat) (hI : wI LM ad) (J : St) (a b : Int32) (hM : okM J) (hKd : okK J) : Met l yX6_met wsX6_met ({ frames := 5, cells := 0, slots := 0, locals := 135 } : Room) (gPre D G LM ad [.ref (ad 0 (0)), .int (a), .int (b)] (wM G ad J)) (gQl D LM ad (wM G ad) (fun r9 u => r9 = (if (okN (nI 3) a && okN (nI 4) b) = true then wth (V (mtM J 3)) 26 (4 * tn a + tn b) (kd (mtM J 3) (4 * tn a + tn b)) else (-2 : Int32).toInt64 - 1000000000000) ∧ u = (if (okN (nI 3) a && okN (nI 4) b) = true then mtM J 3 else J))) 0 0 (wA LM ad) := by
  refine g_entry (C := RX6) (cc := cX6_met) (maxL := 3) (ret := (some .long)) rfl (by decide) rfl (Nat.le_of_ble_eq_true rfl) (fun p e s m args below meth c Q ls hQ hx hb hr hts hown hlocks hml hW hK hl => ?_)
  have hl : lv_has ls 3 [(0, .ref (ad 0 (0))), (1, .int (a)), (2, .int (b))] := hl
  have hS := va_S.rf (A := wA LM ad) (H0 := s.heap)
  refine lv_iload_n hx hb dX6_met_0 rfl (lv_at hl 1 rfl) ?_
  refine lv_iload_n hx hb dX6_met_1 rfl (lv_at hl 2 rfl) ?_
  refine g_pi (va_runS (As := [.int (a), .int (b)]) (rest := []) ⟨hx, hb, hml, hown, hts⟩ (c_X6_isObject l a b) (va_cwS 2 hts gX6_met_X6_isObject rfl rfl rfl (by decide +kernel) ⟨Nat.le_of_ble_eq_true rfl, Nat.le_of_ble_eq_true rfl⟩) p_preS rfl rfl hl.1 rfl (lv_room (Nat.le_of_ble_eq_true rfl)) dX6_met_2 ⟨Nat.le_refl _, Nat.le_refl _⟩) hW hS (fun H locs hW hS => ?_)
  refine lv_if_ne (tgt := 14) hx hb dX6_met_5 (by decide) (fun c5_0 => ?_) (fun c5_0 => ?_)
  · replace c5_0 := bI_1.mp c5_0
    obtain ⟨aN, haN, eaN⟩ := okN_nI (k := 3) (by decide) (okAnd c5_0).1
    subst eaN
    have t_aN : tn (nI aN) = aN := tn_nI (by omega)
    have k_aN : okN (nI 3) (nI aN) = true := okN_of (by decide) haN
    obtain ⟨bN, hbN, ebN⟩ := okN_nI (k := 4) (by decide) (okAnd c5_0).2
    subst ebN
    have t_bN : tn (nI bN) = bN := tn_nI (by omega)
    have k_bN : okN (nI 4) (nI bN) = true := okN_of (by decide) hbN
    refine lv_aload_n hx hb dX6_met_14 rfl (lv_at hl 0 rfl) ?_
    refine g_cv (va_runV (As := []) (rest := []) ⟨hx, hb, hml, hown, hts⟩ (c_X6_meets l D G ad hI J  ) (cwV 0 hts gX6_met_X6_meets rfl rfl rfl (by decide +kernel) ⟨Nat.le_of_ble_eq_true rfl, Nat.le_of_ble_eq_true rfl⟩) (g_preV hK hW 0 (0) (mM (by decide) (by decide)) rfl rfl) rfl rfl hl.1 rfl (lv_room (Nat.le_of_ble_eq_true rfl)) dX6_met_15 ⟨Nat.le_refl _, Nat.le_refl _⟩) hS (fun I2 H locs hp hW hS => ?_)
    have eI2 : I2 = mtM J 3 := hp
    refine lv_aload_n hx hb dX6_met_18 rfl (lv_at hl 0 rfl) ?_
    refine lv_bipush (v := nI 26) hx hb dX6_met_19 (by decide) ?_
    refine lv_iconst (v := nI 4) hx hb dX6_met_21 (by decide) ?_
    refine lv_iload_n hx hb dX6_met_22 rfl (lv_at hl 1 rfl) ?_
    refine lv_imul hx hb dX6_met_23 (r_top (pk_mul _ _) ?_)
    refine lv_iload_n hx hb dX6_met_24 rfl (lv_at hl 2 rfl) ?_
    refine lv_iadd hx hb dX6_met_25 (r_top (nI_add _ _) ?_)
    have hM_2 : okM I2 := okM_e (fun r9 => by subst eI2; simp [clr_n, cpy_n, jn_n, goA_n, inP_n, up3_f, up3_s, mtM_n, hnM_n, gaP_n, lnP_n, cp3_n]) hM
    have hK_3 : okK I2 := okK_e (fun o9 => by subst eI2; simp [clr_n, cpy_n, jn_n, goA_n, inP_n, up3_f, up3_s, mtM_n, hnM_n, gaP_n, lnP_n, cp3_n]) hKd
    refine g_cl (va_runV (As := [.int (nI (26)), .int (nI ((4 * aN) + bN))]) (rest := []) ⟨hx, hb, hml, hown, hts⟩ (c_X6_worthNow l D G ad hI I2 26 ((4 * aN) + bN) (by decide) (show (4 * aN) + bN < 12 by omega) hM_2 hK_3) (cwV 2 hts gX6_met_X6_worthNow rfl rfl rfl (by decide +kernel) ⟨Nat.le_of_ble_eq_true rfl, Nat.le_of_ble_eq_true rfl⟩) (g_preV hK hW 0 (0) (mM (by decide) (by decide)) rfl rfl) rfl rfl hl.1 rfl (lv_room (Nat.le_of_ble_eq_true rfl)) dX6_met_26 ⟨Nat.le_refl _, Nat.le_refl _⟩) hS (fun x5 I5 H locs hp hW hS => ?_)
    obtain ⟨ex5, eI5⟩ := hp
    rw [eI5] at hW
    clear eI5
    rw [hQ]
    exact g_lret (wd := wM G ad) hx hb hr hlocks hW hS (by subst ex5 eI2; refine ⟨?_, ?_⟩ <;> rw [if_pos (by simp [k_aN, k_bN])] <;> simp only [t_aN, t_bN]) dX6_met_29
  · replace c5_0 := bI_0.mp c5_0
    try simp only [decide_eq_true_eq, decide_eq_false_iff_not] at c5_0
    refine lv_bipush (v := (-2)) hx hb dX6_met_8 (by decide) ?_
    refine g_pl (va_runS (As := [.int ((-2))]) (rest := []) ⟨hx, hb, hml, hown, hts⟩ (c_X6_asLong l ((-2))) (va_cwS 1 hts gX6_met_X6_asLong rfl rfl rfl (by decide +kernel) ⟨Nat.le_of_ble_eq_true rfl, Nat.le_of_ble_eq_true rfl⟩) p_preS rfl rfl hl.1 rfl (lv_room (Nat.le_of_ble_eq_true rfl)) dX6_met_10 ⟨Nat.le_refl _, Nat.le_refl _⟩) hW hS (fun H locs hW hS => ?_)
    rw [hQ]
    exact g_lret (wd := wM G ad) hx hb hr hlocks hW hS (by skip; refine ⟨?_, ?_⟩ <;> simp [c5_0]) dX6_met_13
