/-! ===== the model, five ===== -/
set_option maxHeartbeats 4000000 in
set_option maxRecDepth 100000 in
theorem c_X6_isAhead (l : Launch) (D : va_G) (G : Nat → ClassId) (ad : Nat → Nat → Nat) (hI : wI LM ad) (J : St) (a b : Nat) (ha : a < 26) (hb3 : b < 26) : Met l yX6_isAhead wsX6_isAhead ({ frames := 2, cells := 0, slots := 0, locals := 86 } : Room) (gPre D G LM ad [.ref (ad 0 (0)), .int (nI (a)), .int (nI (b))] (wM G ad J)) (gQi D LM ad (wM G ad) (fun r9 u => r9 = bI (sam (ahM J a b) 28 a 4) ∧ u = ahM J a b)) 0 0 (wA LM ad) := by
  refine g_entry (C := RX6) (cc := cX6_isAhead) (maxL := 3) (ret := (some .boolean)) rfl (by decide) rfl (Nat.le_of_ble_eq_true rfl) (fun p e s m args below meth c Q ls hQ hx hb hr hts hown hlocks hml hW hK hl => ?_)
  have hl : lv_has ls 3 [(0, .ref (ad 0 (0))), (1, .int (nI (a))), (2, .int (nI (b)))] := hl
  have hS := va_S.rf (A := wA LM ad) (H0 := s.heap)
  refine lv_aload_n hx hb dX6_isAhead_0 rfl (lv_at hl 0 rfl) ?_
  refine lv_iload_n hx hb dX6_isAhead_1 rfl (lv_at hl 1 rfl) ?_
  refine lv_bipush (v := nI 28) hx hb dX6_isAhead_2 (by decide) ?_
  refine g_cv (va_runV (As := [.int (nI (a)), .int (nI (28))]) (rest := []) ⟨hx, hb, hml, hown, hts⟩ (c_X6_again l D G ad hI J a 28 (show a < 33 by omega) (by decide)) (cwV 2 hts gX6_isAhead_X6_again rfl rfl rfl (by decide +kernel) ⟨Nat.le_of_ble_eq_true rfl, Nat.le_of_ble_eq_true rfl⟩) (g_preV hK hW 0 (0) (mM (by decide) (by decide)) rfl rfl) rfl rfl hl.1 rfl (lv_room (Nat.le_of_ble_eq_true rfl)) dX6_isAhead_4 ⟨Nat.le_refl _, Nat.le_refl _⟩) hS (fun I1 H locs hp hW hS => ?_)
  have eI1 : I1 = cpy J 28 a := hp
  refine lv_aload_n hx hb dX6_isAhead_7 rfl (lv_at hl 0 rfl) ?_
  refine lv_bipush (v := nI 28) hx hb dX6_isAhead_8 (by decide) ?_
  refine lv_iload_n hx hb dX6_isAhead_10 rfl (lv_at hl 2 rfl) ?_
  refine g_cv (va_runV (As := [.int (nI (28)), .int (nI (b))]) (rest := []) ⟨hx, hb, hml, hown, hts⟩ (c_X6_join l D G ad hI I1 28 b (by decide) (show b < 33 by omega)) (cwV 2 hts gX6_isAhead_X6_join rfl rfl rfl (by decide +kernel) ⟨Nat.le_of_ble_eq_true rfl, Nat.le_of_ble_eq_true rfl⟩) (g_preV hK hW 0 (0) (mM (by decide) (by decide)) rfl rfl) rfl rfl hl.1 rfl (lv_room (Nat.le_of_ble_eq_true rfl)) dX6_isAhead_11 ⟨Nat.le_refl _, Nat.le_refl _⟩) hS (fun I2 H locs hp hW hS => ?_)
  have eI2 : I2 = jn I1 28 b := hp
  refine lv_aload_n hx hb dX6_isAhead_14 rfl (lv_at hl 0 rfl) ?_
  refine lv_bipush (v := nI 28) hx hb dX6_isAhead_15 (by decide) ?_
  refine lv_iload_n hx hb dX6_isAhead_17 rfl (lv_at hl 1 rfl) ?_
  refine g_ci (va_runV (As := [.int (nI (28)), .int (nI (a))]) (rest := []) ⟨hx, hb, hml, hown, hts⟩ (c_X6_areAlike l D G ad hI I2 28 a (by decide) (show a < 33 by omega)) (cwV 2 hts gX6_isAhead_X6_areAlike rfl rfl rfl (by decide +kernel) ⟨Nat.le_of_ble_eq_true rfl, Nat.le_of_ble_eq_true rfl⟩) (g_preV hK hW 0 (0) (mM (by decide) (by decide)) rfl rfl) rfl rfl hl.1 rfl (lv_room (Nat.le_of_ble_eq_true rfl)) dX6_isAhead_18 ⟨Nat.le_refl _, Nat.le_refl _⟩) hS (fun x3 I3 H locs hp hW hS => ?_)
  obtain ⟨ex3, eI3⟩ := hp
  rw [eI3] at hW
  clear eI3
  rw [hQ]
  exact g_iret (wd := wM G ad) hx hb hr (narB ex3) hlocks hW hS (by subst ex3 eI2 eI1; exact ⟨rfl, rfl⟩) dX6_isAhead_21

set_option maxHeartbeats 4000000 in
set_option maxRecDepth 100000 in
theorem c_X6_apart (l : Launch) (D : va_G) (G : Nat → ClassId) (ad : Nat → Nat → Nat) (hI : wI LM ad) (J : St) (a b w : Int32) : Met l yX6_apart wsX6_apart ({ frames := 3, cells := 0, slots := 0, locals := 108 } : Room) (gPre D G LM ad [.ref (ad 0 (0)), .int (a), .int (b), .int (w)] (wM G ad J)) (gQi D LM ad (wM G ad) (fun r9 u => r9 = (if ((okN (nI 4) a && okN (nI 4) b) && okN (nI 4) w) = true then aptM J (tn a) (tn b) (tn w) else -2) ∧ Sm gM J u)) 0 0 (wA LM ad) := by
  refine g_entry (C := RX6) (cc := cX6_apart) (maxL := 4) (ret := (some .int)) rfl (by decide) rfl (Nat.le_of_ble_eq_true rfl) (fun p e s m args below meth c Q ls hQ hx hb hr hts hown hlocks hml hW hK hl => ?_)
  have hl : lv_has ls 4 [(0, .ref (ad 0 (0))), (1, .int (a)), (2, .int (b)), (3, .int (w))] := hl
  have hS := va_S.rf (A := wA LM ad) (H0 := s.heap)
  have hinX6 : ∀ w ∈ wsX60, w ∈ wsX6_apart := by decide +kernel
  have hf27 := hts (.fieldLink RX6 27 "JoinedStoresModel" "heard" "[[I") (by decide +kernel)
  have hf30 := hts (.fieldLink RX6 30 "JoinedStoresModel" "alive" "[[I") (by decide +kernel)
  refine lv_iload_n hx hb dX6_apart_0 rfl (lv_at hl 1 rfl) ?_
  refine g_pi (va_runS (As := [.int (a)]) (rest := []) ⟨hx, hb, hml, hown, hts⟩ (c_X6_isReplica l a) (va_cwS 1 hts gX6_apart_X6_isReplica rfl rfl rfl (by decide +kernel) ⟨Nat.le_of_ble_eq_true rfl, Nat.le_of_ble_eq_true rfl⟩) p_preS rfl rfl hl.1 rfl (lv_room (Nat.le_of_ble_eq_true rfl)) dX6_apart_1 ⟨Nat.le_refl _, Nat.le_refl _⟩) hW hS (fun H locs hW hS => ?_)
  refine lv_if_eq (tgt := 26) hx hb dX6_apart_4 (by decide) (fun c4_0 => ?_) (fun c4_0 => ?_)
  · replace c4_0 := bI_0.mp c4_0
    try simp only [decide_eq_true_eq, decide_eq_false_iff_not] at c4_0
    refine lv_bipush (v := (-2)) hx hb dX6_apart_26 (by decide) ?_
    rw [hQ]
    exact g_iret (wd := wM G ad) hx hb hr rfl hlocks hW hS (by skip; refine ⟨?_, Sm.rf⟩; simp [c4_0]) dX6_apart_28
  · replace c4_0 := bI_1.mp c4_0
    obtain ⟨aN, haN, eaN⟩ := okN_nI (k := 4) (by decide) c4_0
    subst eaN
    have t_aN : tn (nI aN) = aN := tn_nI (by omega)
    have k_aN : okN (nI 4) (nI aN) = true := okN_of (by decide) haN
    refine lv_iload_n hx hb dX6_apart_7 rfl (lv_at hl 2 rfl) ?_
    refine g_pi (va_runS (As := [.int (b)]) (rest := []) ⟨hx, hb, hml, hown, hts⟩ (c_X6_isReplica l b) (va_cwS 1 hts gX6_apart_X6_isReplica rfl rfl rfl (by decide +kernel) ⟨Nat.le_of_ble_eq_true rfl, Nat.le_of_ble_eq_true rfl⟩) p_preS rfl rfl hl.1 rfl (lv_room (Nat.le_of_ble_eq_true rfl)) dX6_apart_8 ⟨Nat.le_refl _, Nat.le_refl _⟩) hW hS (fun H locs hW hS => ?_)
    refine lv_if_eq (tgt := 26) hx hb dX6_apart_11 (by decide) (fun c11_1 => ?_) (fun c11_1 => ?_)
    · replace c11_1 := bI_0.mp c11_1
      try simp only [decide_eq_true_eq, decide_eq_false_iff_not] at c11_1
      refine lv_bipush (v := (-2)) hx hb dX6_apart_26 (by decide) ?_
      rw [hQ]
      exact g_iret (wd := wM G ad) hx hb hr rfl hlocks hW hS (by skip; refine ⟨?_, Sm.rf⟩; simp [k_aN, c11_1]) dX6_apart_28
    · replace c11_1 := bI_1.mp c11_1
      obtain ⟨bN, hbN, ebN⟩ := okN_nI (k := 4) (by decide) c11_1
      subst ebN
      have t_bN : tn (nI bN) = bN := tn_nI (by omega)
      have k_bN : okN (nI 4) (nI bN) = true := okN_of (by decide) hbN
      refine lv_iload_n hx hb dX6_apart_14 rfl (lv_at hl 3 rfl) ?_
      refine lv_i2l hx hb dX6_apart_15 rfl ?_
      refine lv_lconst (v := lN 0) hx hb dX6_apart_16 (by decide) ?_
      refine lv_ldc2 (v := (3)) hx hb hown (hts (.constantLong RX6 84 (3)) (by decide +kernel)) dX6_apart_17 ?_
      refine g_pi (va_runS (As := [.long (w.toInt64), .long (lN 0), .long ((3))]) (rest := []) ⟨hx, hb, hml, hown, hts⟩ (c_X6_inB l w.toInt64 (lN 0) ((3)) (okN (nI 4) w) (inL_N (k := 4) (by decide) (by decide) _)) (va_cwS 3 hts gX6_apart_X6_in rfl rfl rfl (by decide +kernel) ⟨Nat.le_of_ble_eq_true rfl, Nat.le_of_ble_eq_true rfl⟩) p_preS rfl rfl hl.1 rfl (lv_room (Nat.le_of_ble_eq_true rfl)) dX6_apart_20 ⟨Nat.le_refl _, Nat.le_refl _⟩) hW hS (fun H locs hW hS => ?_)
      refine lv_if_ne (tgt := 29) hx hb dX6_apart_23 (by decide) (fun c23_2 => ?_) (fun c23_2 => ?_)
      · replace c23_2 := bI_1.mp c23_2
        obtain ⟨wN, hwN, ewN⟩ := okN_nI (k := 4) (by decide) c23_2
        subst ewN
        have t_wN : tn (nI wN) = wN := tn_nI (by omega)
        have k_wN : okN (nI 4) (nI wN) = true := okN_of (by decide) hwN
        refine lv_iload_n hx hb dX6_apart_29 rfl (lv_at hl 3 rfl) ?_
        refine lv_if_ne (tgt := 48) hx hb dX6_apart_30 (by decide) (fun c30_3 => ?_) (fun c30_3 => ?_)
        · replace c30_3 : ¬ wN = 0 := fun h => c30_3 ((nI_eq (show wN < 2147483648 by omega) (show 0 < 2147483648 by omega)).mpr h)
          refine lv_iload_n hx hb dX6_apart_48 rfl (lv_at hl 3 rfl) ?_
          refine lv_iconst (v := nI 1) hx hb dX6_apart_49 (by decide) ?_
          refine lv_icmp_ne (tgt := 77) hx hb dX6_apart_50 (by decide) (fun c50_4 => ?_) (fun c50_4 => ?_)
          · replace c50_4 : ¬ wN = 1 := fun h => c50_4 ((nI_eq (show wN < 2147483648 by omega) (show 1 < 2147483648 by omega)).mpr h)
            refine lv_iload_n hx hb dX6_apart_77 rfl (lv_at hl 3 rfl) ?_
            refine lv_iconst (v := nI 2) hx hb dX6_apart_78 (by decide) ?_
            refine lv_icmp_ne (tgt := 101) hx hb dX6_apart_79 (by decide) (fun c79_5 => ?_) (fun c79_5 => ?_)
            · replace c79_5 : ¬ wN = 2 := fun h => c79_5 ((nI_eq (show wN < 2147483648 by omega) (show 2 < 2147483648 by omega)).mpr h)
              refine lv_aload_n hx hb dX6_apart_101 rfl (lv_at hl 0 rfl) ?_
              refine lv_aload_n hx hb dX6_apart_102 rfl (lv_at hl 0 rfl) ?_
              refine r_get hx hb hts hown hK hW 0 (0) 6 (mM (by decide) (by decide)) rfl rfl hinX6 (by decide) hf30 rfl rfl dX6_apart_103 ?_
              refine lv_iload_n hx hb dX6_apart_106 rfl (lv_at hl 1 rfl) ?_
              refine r_aaldI hx hb hK hW 1 4 (aN) (mM (by decide) (by decide)) rfl (show aN < 33 by omega) (by decide) rfl rfl dX6_apart_107 ?_
              refine lv_aload_n hx hb dX6_apart_108 rfl (lv_at hl 0 rfl) ?_
              refine r_get hx hb hts hown hK hW 0 (0) 6 (mM (by decide) (by decide)) rfl rfl hinX6 (by decide) hf30 rfl rfl dX6_apart_109 ?_
              refine lv_iload_n hx hb dX6_apart_112 rfl (lv_at hl 2 rfl) ?_
              refine r_aaldI hx hb hK hW 1 4 (bN) (mM (by decide) (by decide)) rfl (show bN < 33 by omega) (by decide) rfl rfl dX6_apart_113 ?_
              refine g_ci (va_runV (As := [.ref (ad 11 (aN)), .ref (ad 11 (bN))]) (rest := []) ⟨hx, hb, hml, hown, hts⟩ (c_X6_unlike_11 l D G ad hI J aN bN (show aN < 33 by omega) (show bN < 33 by omega)) (cwV 2 hts gX6_apart_X6_unlike rfl rfl rfl (by decide +kernel) ⟨Nat.le_of_ble_eq_true rfl, Nat.le_of_ble_eq_true rfl⟩) (g_preV hK hW 0 (0) (mM (by decide) (by decide)) rfl rfl) rfl rfl hl.1 rfl (lv_room (Nat.le_of_ble_eq_true rfl)) dX6_apart_114 ⟨Nat.le_refl _, Nat.le_refl _⟩) hS (fun x7 I7 H locs hp hW hS => ?_)
              obtain ⟨ex7, eI7⟩ := hp
              rw [eI7] at hW
              clear eI7
              rw [hQ]
              exact g_iret (wd := wM G ad) hx hb hr rfl hlocks hW hS (by subst ex7; refine ⟨?_, Sm.rf⟩; rw [if_pos (by simp [k_aN, k_bN, k_wN])]; simp only [t_aN, t_bN, t_wN, aptM]; (repeat' split) <;> first | (exfalso; omega) | rfl | simp_all [bI, nI_0, nI_one]) dX6_apart_117
            · replace c79_5 : wN = 2 := (nI_eq (show wN < 2147483648 by omega) (show 2 < 2147483648 by omega)).mp c79_5
              refine lv_aload_n hx hb dX6_apart_82 rfl (lv_at hl 0 rfl) ?_
              refine lv_aload_n hx hb dX6_apart_83 rfl (lv_at hl 0 rfl) ?_
              refine r_get hx hb hts hown hK hW 0 (0) 5 (mM (by decide) (by decide)) rfl rfl hinX6 (by decide) hf27 rfl rfl dX6_apart_84 ?_
              refine lv_iload_n hx hb dX6_apart_87 rfl (lv_at hl 1 rfl) ?_
              refine r_aaldI hx hb hK hW 1 3 (aN) (mM (by decide) (by decide)) rfl (show aN < 33 by omega) (by decide) rfl rfl dX6_apart_88 ?_
              refine lv_aload_n hx hb dX6_apart_89 rfl (lv_at hl 0 rfl) ?_
              refine r_get hx hb hts hown hK hW 0 (0) 5 (mM (by decide) (by decide)) rfl rfl hinX6 (by decide) hf27 rfl rfl dX6_apart_90 ?_
              refine lv_iload_n hx hb dX6_apart_93 rfl (lv_at hl 2 rfl) ?_
              refine r_aaldI hx hb hK hW 1 3 (bN) (mM (by decide) (by decide)) rfl (show bN < 33 by omega) (by decide) rfl rfl dX6_apart_94 ?_
              refine g_ci (va_runV (As := [.ref (ad 10 (aN)), .ref (ad 10 (bN))]) (rest := []) ⟨hx, hb, hml, hown, hts⟩ (c_X6_unlike_10 l D G ad hI J aN bN (show aN < 33 by omega) (show bN < 33 by omega)) (cwV 2 hts gX6_apart_X6_unlike rfl rfl rfl (by decide +kernel) ⟨Nat.le_of_ble_eq_true rfl, Nat.le_of_ble_eq_true rfl⟩) (g_preV hK hW 0 (0) (mM (by decide) (by decide)) rfl rfl) rfl rfl hl.1 rfl (lv_room (Nat.le_of_ble_eq_true rfl)) dX6_apart_95 ⟨Nat.le_refl _, Nat.le_refl _⟩) hS (fun x8 I8 H locs hp hW hS => ?_)
              obtain ⟨ex8, eI8⟩ := hp
              rw [eI8] at hW
              clear eI8
              refine lv_goto (tgt := 117) hx hb dX6_apart_98 (by decide) ?_
              rw [hQ]
              exact g_iret (wd := wM G ad) hx hb hr rfl hlocks hW hS (by subst ex8; refine ⟨?_, Sm.rf⟩; rw [if_pos (by simp [k_aN, k_bN, k_wN])]; simp only [t_aN, t_bN, t_wN, aptM]; (repeat' split) <;> first | (exfalso; omega) | rfl | simp_all [bI, nI_0, nI_one]) dX6_apart_117
          · replace c50_4 : wN = 1 := (nI_eq (show wN < 2147483648 by omega) (show 1 < 2147483648 by omega)).mp c50_4
            refine lv_aload_n hx hb dX6_apart_53 rfl (lv_at hl 0 rfl) ?_
            refine lv_iload_n hx hb dX6_apart_54 rfl (lv_at hl 1 rfl) ?_
            refine lv_iload_n hx hb dX6_apart_55 rfl (lv_at hl 2 rfl) ?_
            refine g_ci (va_runV (As := [.int (nI (aN)), .int (nI (bN))]) (rest := []) ⟨hx, hb, hml, hown, hts⟩ (c_X6_isAhead l D G ad hI J aN bN (show aN < 26 by omega) (show bN < 26 by omega)) (cwV 2 hts gX6_apart_X6_isAhead rfl rfl rfl (by decide +kernel) ⟨Nat.le_of_ble_eq_true rfl, Nat.le_of_ble_eq_true rfl⟩) (g_preV hK hW 0 (0) (mM (by decide) (by decide)) rfl rfl) rfl rfl hl.1 rfl (lv_room (Nat.le_of_ble_eq_true rfl)) dX6_apart_56 ⟨Nat.le_refl _, Nat.le_refl _⟩) hS (fun x9 I9 H locs hp hW hS => ?_)
            obtain ⟨ex9, eI9⟩ := hp
            refine lv_if_eq (tgt := 75) hx hb dX6_apart_59 (by decide) (fun c59_9 => ?_) (fun c59_9 => ?_)
            · rw [ex9] at c59_9
              replace c59_9 := bI_0.mp c59_9
              try simp only [decide_eq_true_eq, decide_eq_false_iff_not] at c59_9
              refine lv_iconst (v := nI 0) hx hb dX6_apart_75 (by decide) ?_
              rw [hQ]
              exact g_iret (wd := wM G ad) hx hb hr rfl hlocks hW hS (by subst eI9 ex9; refine ⟨?_, sq_ah Sm.rf _ _⟩; rw [if_pos (by simp [k_aN, k_bN, k_wN, c59_9])]; simp only [t_aN, t_bN, t_wN, aptM]; (repeat' split) <;> first | (exfalso; omega) | rfl | simp_all [bI, nI_0, nI_one]) dX6_apart_76
            · rw [ex9] at c59_9
              replace c59_9 := bI_1.mp c59_9
              try simp only [decide_eq_true_eq, decide_eq_false_iff_not] at c59_9
              refine lv_aload_n hx hb dX6_apart_62 rfl (lv_at hl 0 rfl) ?_
              refine lv_iload_n hx hb dX6_apart_63 rfl (lv_at hl 2 rfl) ?_
              refine lv_iload_n hx hb dX6_apart_64 rfl (lv_at hl 1 rfl) ?_
              refine g_ci (va_runV (As := [.int (nI (bN)), .int (nI (aN))]) (rest := []) ⟨hx, hb, hml, hown, hts⟩ (c_X6_isAhead l D G ad hI I9 bN aN (show bN < 26 by omega) (show aN < 26 by omega)) (cwV 2 hts gX6_apart_X6_isAhead rfl rfl rfl (by decide +kernel) ⟨Nat.le_of_ble_eq_true rfl, Nat.le_of_ble_eq_true rfl⟩) (g_preV hK hW 0 (0) (mM (by decide) (by decide)) rfl rfl) rfl rfl hl.1 rfl (lv_room (Nat.le_of_ble_eq_true rfl)) dX6_apart_65 ⟨Nat.le_refl _, Nat.le_refl _⟩) hS (fun x11 I11 H locs hp hW hS => ?_)
              obtain ⟨ex11, eI11⟩ := hp
              refine lv_if_eq (tgt := 75) hx hb dX6_apart_68 (by decide) (fun c68_11 => ?_) (fun c68_11 => ?_)
              · rw [ex11] at c68_11
                replace c68_11 := bI_0.mp c68_11
                try simp only [decide_eq_true_eq, decide_eq_false_iff_not] at c68_11
                refine lv_iconst (v := nI 0) hx hb dX6_apart_75 (by decide) ?_
                rw [hQ]
                exact g_iret (wd := wM G ad) hx hb hr rfl hlocks hW hS (by subst eI11 ex11 eI9 ex9; refine ⟨?_, sq_ah (sq_ah Sm.rf _ _) _ _⟩; rw [if_pos (by simp [k_aN, k_bN, k_wN, c59_9, c68_11])]; simp only [t_aN, t_bN, t_wN, aptM]; (repeat' split) <;> first | (exfalso; omega) | rfl | simp_all [bI, nI_0, nI_one]) dX6_apart_76
              · rw [ex11] at c68_11
                replace c68_11 := bI_1.mp c68_11
                try simp only [decide_eq_true_eq, decide_eq_false_iff_not] at c68_11
                refine lv_iconst (v := nI 1) hx hb dX6_apart_71 (by decide) ?_
                refine lv_goto (tgt := 76) hx hb dX6_apart_72 (by decide) ?_
                rw [hQ]
                exact g_iret (wd := wM G ad) hx hb hr rfl hlocks hW hS (by subst eI11 ex11 eI9 ex9; refine ⟨?_, sq_ah (sq_ah Sm.rf _ _) _ _⟩; rw [if_pos (by simp [k_aN, k_bN, k_wN, c59_9, c68_11])]; simp only [t_aN, t_bN, t_wN, aptM]; (repeat' split) <;> first | (exfalso; omega) | rfl | simp_all [bI, nI_0, nI_one]) dX6_apart_76
        · replace c30_3 : wN = 0 := (nI_eq (show wN < 2147483648 by omega) (show 0 < 2147483648 by omega)).mp c30_3
          refine lv_aload_n hx hb dX6_apart_33 rfl (lv_at hl 0 rfl) ?_
          refine lv_iload_n hx hb dX6_apart_34 rfl (lv_at hl 1 rfl) ?_
          refine lv_iload_n hx hb dX6_apart_35 rfl (lv_at hl 2 rfl) ?_
          refine g_ci (va_runV (As := [.int (nI (aN)), .int (nI (bN))]) (rest := []) ⟨hx, hb, hml, hown, hts⟩ (c_X6_isAhead l D G ad hI J aN bN (show aN < 26 by omega) (show bN < 26 by omega)) (cwV 2 hts gX6_apart_X6_isAhead rfl rfl rfl (by decide +kernel) ⟨Nat.le_of_ble_eq_true rfl, Nat.le_of_ble_eq_true rfl⟩) (g_preV hK hW 0 (0) (mM (by decide) (by decide)) rfl rfl) rfl rfl hl.1 rfl (lv_room (Nat.le_of_ble_eq_true rfl)) dX6_apart_36 ⟨Nat.le_refl _, Nat.le_refl _⟩) hS (fun x13 I13 H locs hp hW hS => ?_)
          obtain ⟨ex13, eI13⟩ := hp
          refine lv_if_eq (tgt := 46) hx hb dX6_apart_39 (by decide) (fun c39_13 => ?_) (fun c39_13 => ?_)
          · rw [ex13] at c39_13
            replace c39_13 := bI_0.mp c39_13
            try simp only [decide_eq_true_eq, decide_eq_false_iff_not] at c39_13
            refine lv_iconst (v := nI 0) hx hb dX6_apart_46 (by decide) ?_
            rw [hQ]
            exact g_iret (wd := wM G ad) hx hb hr rfl hlocks hW hS (by subst eI13 ex13; refine ⟨?_, sq_ah Sm.rf _ _⟩; rw [if_pos (by simp [k_aN, k_bN, k_wN, c39_13])]; simp only [t_aN, t_bN, t_wN, aptM]; (repeat' split) <;> first | (exfalso; omega) | rfl | simp_all [bI, nI_0, nI_one]) dX6_apart_47
          · rw [ex13] at c39_13
            replace c39_13 := bI_1.mp c39_13
            try simp only [decide_eq_true_eq, decide_eq_false_iff_not] at c39_13
            refine lv_iconst (v := nI 1) hx hb dX6_apart_42 (by decide) ?_
            refine lv_goto (tgt := 47) hx hb dX6_apart_43 (by decide) ?_
            rw [hQ]
            exact g_iret (wd := wM G ad) hx hb hr rfl hlocks hW hS (by subst eI13 ex13; refine ⟨?_, sq_ah Sm.rf _ _⟩; rw [if_pos (by simp [k_aN, k_bN, k_wN, c39_13])]; simp only [t_aN, t_bN, t_wN, aptM]; (repeat' split) <;> first | (exfalso; omega) | rfl | simp_all [bI, nI_0, nI_one]) dX6_apart_47
      · replace c23_2 := bI_0.mp c23_2
        try simp only [decide_eq_true_eq, decide_eq_false_iff_not] at c23_2
        refine lv_bipush (v := (-2)) hx hb dX6_apart_26 (by decide) ?_
        rw [hQ]
        exact g_iret (wd := wM G ad) hx hb hr rfl hlocks hW hS (by skip; refine ⟨?_, Sm.rf⟩; simp [k_aN, k_bN, c23_2]) dX6_apart_28

set_option maxHeartbeats 4000000 in
set_option maxRecDepth 100000 in
theorem c_X6_isByLetters (l : Launch) (D : va_G) (G : Nat → ClassId) (ad : Nat → Nat → Nat) (hI : wI LM ad) (J : St) (r o : Nat) (w : Int64) (x : Int32) (hr4 : r < 4) (ho : o < 12) (hM : okM J) (hKd : okK J) (hT : okT (V J)) : Met l yX6_isByLetters wsX6_isByLetters ({ frames := 5, cells := 0, slots := 0, locals := 135 } : Room) (gPre D G LM ad [.ref (ad 0 (0)), .int (nI (r)), .int (nI (o)), .long (w), .int (x)] (wM G ad J)) (gQi D LM ad (wM G ad) (fun r9 u => r9 = bI (decide (wth (V (tcM J r x (wt (V J)))) 28 o (kd J o) = w)) ∧ u = tcM J r x (wt (V J)))) 0 0 (wA LM ad) := by
  refine g_entry (C := RX6) (cc := cX6_isByLetters) (maxL := 7) (ret := (some .boolean)) rfl (by decide) rfl (Nat.le_of_ble_eq_true rfl) (fun p e s m args below meth c Q ls hQ hx hb hr hts hown hlocks hml hW hK hl => ?_)
  have hl : lv_has ls 7 [(0, .ref (ad 0 (0))), (1, .int (nI (r))), (2, .int (nI (o))), (3, .long (w)), (5, .int (x))] := hl
  have hS := va_S.rf (A := wA LM ad) (H0 := s.heap)
  have hinX6 : ∀ w ∈ wsX60, w ∈ wsX6_isByLetters := by decide +kernel
  have hf92 := hts (.fieldLink RX6 92 "JoinedStoresModel" "letters" "I") (by decide +kernel)
  have hw6 := hT.2
  refine lv_aload_n hx hb dX6_isByLetters_0 rfl (lv_at hl 0 rfl) ?_
  refine lv_iload_n hx hb dX6_isByLetters_1 rfl (lv_at hl 1 rfl) ?_
  refine lv_bipush (v := nI 28) hx hb dX6_isByLetters_2 (by decide) ?_
  refine g_cv (va_runV (As := [.int (nI (r)), .int (nI (28))]) (rest := []) ⟨hx, hb, hml, hown, hts⟩ (c_X6_again l D G ad hI J r 28 (show r < 33 by omega) (by decide)) (cwV 2 hts gX6_isByLetters_X6_again rfl rfl rfl (by decide +kernel) ⟨Nat.le_of_ble_eq_true rfl, Nat.le_of_ble_eq_true rfl⟩) (g_preV hK hW 0 (0) (mM (by decide) (by decide)) rfl rfl) rfl rfl hl.1 rfl (lv_room (Nat.le_of_ble_eq_true rfl)) dX6_isByLetters_4 ⟨Nat.le_refl _, Nat.le_refl _⟩) hS (fun I1 H locs hp hW hS => ?_)
  have eI1 : I1 = cpy J 28 r := hp
  refine lv_iconst (v := nI 0) hx hb dX6_isByLetters_7 (by decide) ?_
  refine lv_istore (lv' := [(6, .int (nI (0))), (0, .ref (ad 0 (0))), (1, .int (nI (r))), (2, .int (nI (o))), (3, .long (w)), (5, .int (x))]) hx hb dX6_isByLetters_8 hl (by decide) rfl (fun ls hl => ?_)
  have K10 : ∀ (n : Nat) (i : Nat), (i ≤ wt (V J)) → (wt (V J)) < i + n → ∀ (H : Heap) (locs : List Loc), va_P D vwCl (wS LM ad (wM G ad (tcM J r x i))) H → va_S (wA LM ad) s.heap H locs → ∀ (ls : Array Slot), lv_has ls 7 [(6, .int (nI (i))), (0, .ref (ad 0 (0))), (1, .int (nI (r))), (2, .int (nI (o))), (3, .long (w)), (5, .int (x))] → W p l e ({ frames := 5, cells := 0, slots := 0, locals := 135 } : Room) s m args below meth c H locs 0 0 Q (F0 m 10 ls []) := by
    intro n10
    induction n10 with
    | zero => intro i hi hfu; exact absurd hfu (by omega)
    | succ n10 ih10 =>
      intro i hi hfu H locs hW hS ls hl
      refine lv_iload hx hb dX6_isByLetters_10 (lv_at hl 0 rfl) ?_
      refine lv_aload_n hx hb dX6_isByLetters_12 rfl (lv_at hl 1 rfl) ?_
      refine r_get hx hb hts hown hK hW 0 (0) 8 (mM (by decide) (by decide)) rfl rfl hinX6 (by decide) hf92 rfl rfl dX6_isByLetters_13 (lv_topi (fun x2 ex2 => ?_))
      refine r_top (show x2 = nI (wt (V J)) from (ex2.trans ((tcM_n (by decide) (by decide) _).trans hT.1))) ?_
      refine lv_icmp_ge (tgt := 47) hx hb dX6_isByLetters_16 (by decide) (fun c16_2 => ?_) (fun c16_2 => ?_)
      · replace c16_2 : wt (V J) ≤ i := (nI_leI (show wt (V J) < 2147483648 by omega) (show i < 2147483648 by omega)).mp c16_2
        refine lv_aload_n hx hb dX6_isByLetters_47 rfl (lv_at hl 1 rfl) ?_
        refine lv_bipush (v := nI 28) hx hb dX6_isByLetters_48 (by decide) ?_
        refine lv_iload_n hx hb dX6_isByLetters_50 rfl (lv_at hl 3 rfl) ?_
        have hM_3 : okM (tcM J r x i) := okM_e (fun r9 => by subst ex2; simp [clr_n, cpy_n, jn_n, goA_n, inP_n, up3_f, up3_s, mtM_n, hnM_n, gaP_n, lnP_n, cp3_n, tcM_n]) hM
        have hK_4 : okK (tcM J r x i) := okK_e (fun o9 => by subst ex2; simp [clr_n, cpy_n, jn_n, goA_n, inP_n, up3_f, up3_s, mtM_n, hnM_n, gaP_n, lnP_n, cp3_n, tcM_n]) hKd
        refine g_cl (va_runV (As := [.int (nI (28)), .int (nI (o))]) (rest := []) ⟨hx, hb, hml, hown, hts⟩ (c_X6_worthNow l D G ad hI (tcM J r x i) 28 o (by decide) (show o < 12 by omega) hM_3 hK_4) (cwV 2 hts gX6_isByLetters_X6_worthNow rfl rfl rfl (by decide +kernel) ⟨Nat.le_of_ble_eq_true rfl, Nat.le_of_ble_eq_true rfl⟩) (g_preV hK hW 0 (0) (mM (by decide) (by decide)) rfl rfl) rfl rfl hl.1 rfl (lv_room (Nat.le_of_ble_eq_true rfl)) dX6_isByLetters_51 ⟨Nat.le_refl _, Nat.le_refl _⟩) hS (fun x6 I6 H locs hp hW hS => ?_)
        obtain ⟨ex6, eI6⟩ := hp
        rw [eI6] at hW
        clear eI6
        refine lv_lload_n hx hb dX6_isByLetters_54 rfl (lv_at hl 4 rfl) ?_
        refine W.lcmp hx hb dX6_isByLetters_55 ?_
        refine lv_if_ne (tgt := 63) hx hb dX6_isByLetters_56 (by decide) (fun c56_6 => ?_) (fun c56_6 => ?_)
        · refine lv_iconst (v := nI 0) hx hb dX6_isByLetters_63 (by decide) ?_
          rw [hQ]
          exact g_iret (wd := wM G ad) hx hb hr (by decide) hlocks hW hS (by have e4 : i = wt (V J) := (by omega); subst e4; have k9 : kd (tcM J r x (wt (V J))) o = kd J o := kd_e (fun _ => tcM_n (by decide) (by decide) _) o; have c9 := c56_6; simp only [lg_cmp_0] at c9; subst ex6 ex2; rw [k9] at c9; refine ⟨?_, rfl⟩; simp [bI, nI_0, nI_one, c9]) dX6_isByLetters_64
        · refine lv_iconst (v := nI 1) hx hb dX6_isByLetters_59 (by decide) ?_
          refine lv_goto (tgt := 64) hx hb dX6_isByLetters_60 (by decide) ?_
          rw [hQ]
          exact g_iret (wd := wM G ad) hx hb hr (by decide) hlocks hW hS (by have e4 : i = wt (V J) := (by omega); subst e4; have k9 : kd (tcM J r x (wt (V J))) o = kd J o := kd_e (fun _ => tcM_n (by decide) (by decide) _) o; have c9 := c56_6; simp only [lg_cmp_0] at c9; subst ex6 ex2; rw [k9] at c9; refine ⟨?_, rfl⟩; simp [bI, nI_0, nI_one, c9]) dX6_isByLetters_64
      · replace c16_2 : ¬ (wt (V J) ≤ i) := fun h => c16_2 ((nI_leI (show wt (V J) < 2147483648 by omega) (show i < 2147483648 by omega)).mpr h)
        refine lv_iload hx hb dX6_isByLetters_19 (lv_at hl 5 rfl) ?_
        refine lv_iload hx hb dX6_isByLetters_21 (lv_at hl 0 rfl) ?_
        refine lv_ishr hx hb dX6_isByLetters_23 (lv_topi (fun x8 ex8 => ?_))
        refine lv_iconst (v := nI 1) hx hb dX6_isByLetters_24 (by decide) ?_
        refine lv_iand hx hb dX6_isByLetters_25 (lv_topi (fun x9 ex9 => ?_))
        refine lv_iconst (v := nI 1) hx hb dX6_isByLetters_26 (by decide) ?_
        refine lv_icmp_ne (tgt := 41) hx hb dX6_isByLetters_27 (by decide) (fun c27_9 => ?_) (fun c27_9 => ?_)
        · refine lv_iinc (v := nI (i + 1)) (lv' := [(6, .int (nI (i + 1))), (0, .ref (ad 0 (0))), (1, .int (nI (r))), (2, .int (nI (o))), (3, .long (w)), (5, .int (x))]) hx hb dX6_isByLetters_41 hl (k := 0) rfl (nI_inc i 1) (by decide) rfl (fun ls hl => ?_)
          refine lv_goto (tgt := 10) hx hb dX6_isByLetters_44 (by decide) ?_
          have e9 : tcM J r x i = tcM J r x (i + 1) := by
            rw [tcM, if_neg (by subst ex9 ex8 ex2;simpa [sb] using c27_9)]
          have hW9 := hW
          rw [e9] at hW9
          exact ih10 (i + 1) (by omega) (by omega) _ _ hW9 hS _ (lv_sub hl [0, 1, 2, 3, 4, 5] rfl)
        · refine lv_aload_n hx hb dX6_isByLetters_30 rfl (lv_at hl 1 rfl) ?_
          refine lv_bipush (v := nI 28) hx hb dX6_isByLetters_31 (by decide) ?_
          refine lv_bipush (v := nI 20) hx hb dX6_isByLetters_33 (by decide) ?_
          refine lv_iload hx hb dX6_isByLetters_35 (lv_at hl 0 rfl) ?_
          refine lv_iadd hx hb dX6_isByLetters_37 (r_top (nI_add _ _) ?_)
          refine g_cv (va_runV (As := [.int (nI (28)), .int (nI (20 + i))]) (rest := []) ⟨hx, hb, hml, hown, hts⟩ (c_X6_join l D G ad hI (tcM J r x i) 28 (20 + i) (by decide) (show 20 + i < 33 by omega)) (cwV 2 hts gX6_isByLetters_X6_join rfl rfl rfl (by decide +kernel) ⟨Nat.le_of_ble_eq_true rfl, Nat.le_of_ble_eq_true rfl⟩) (g_preV hK hW 0 (0) (mM (by decide) (by decide)) rfl rfl) rfl rfl hl.1 rfl (lv_room (Nat.le_of_ble_eq_true rfl)) dX6_isByLetters_38 ⟨Nat.le_refl _, Nat.le_refl _⟩) hS (fun I11 H locs hp hW hS => ?_)
          have eI11 : I11 = jn (tcM J r x i) 28 (20 + i) := hp
          refine lv_iinc (v := nI (i + 1)) (lv' := [(6, .int (nI (i + 1))), (0, .ref (ad 0 (0))), (1, .int (nI (r))), (2, .int (nI (o))), (3, .long (w)), (5, .int (x))]) hx hb dX6_isByLetters_41 hl (k := 0) rfl (nI_inc i 1) (by decide) rfl (fun ls hl => ?_)
          refine lv_goto (tgt := 10) hx hb dX6_isByLetters_44 (by decide) ?_
          have e9 : I11 = tcM J r x (i + 1) := by
            rw [tcM, if_pos (by subst eI11 ex9 ex8 ex2;simpa [sb] using c27_9)]
            subst eI11 ex9 ex8 ex2
            rfl
          have hW9 := hW
          rw [e9] at hW9
          exact ih10 (i + 1) (by omega) (by omega) _ _ hW9 hS _ (lv_sub hl [0, 1, 2, 3, 4, 5] rfl)
  have e9 : I1 = tcM J r x 0 := by
    subst eI1
    rfl
  have hW9 := hW
  rw [e9] at hW9
  exact K10 ((wt (V J)) + 1) (0) (Nat.zero_le _) (by omega) _ _ hW9 hS _ (lv_sub hl [0, 1, 2, 3, 4, 5] rfl)

set_option maxHeartbeats 4000000 in
set_option maxRecDepth 100000 in
theorem c_X6_needs (l : Launch) (D : va_G) (G : Nat → ClassId) (ad : Nat → Nat → Nat) (hI : wI LM ad) (J : St) (r a b y : Int32) (w : Int64) (hM : okM J) (hKd : okK J) (hT : okT (V J)) : Met l yX6_needs wsX6_needs ({ frames := 6, cells := 0, slots := 0, locals := 161 } : Room) (gPre D G LM ad [.ref (ad 0 (0)), .int (r), .int (a), .int (b), .long (w), .int (y)] (wM G ad J)) (gQi D LM ad (wM G ad) (fun r9 u => r9 = (if ((okN (nI 4) r && (okN (nI 3) a && okN (nI 4) b)) && okN (nI 2) y) = true then ndM (ftM J (tn r) (4 * tn a + tn b) w (mnM J (tn r) (wt (V J))) (2 ^ wt (V J))) (tn y) else -2) ∧ Sm gM J u)) 0 0 (wA LM ad) := by
  refine g_entry (C := RX6) (cc := cX6_needs) (maxL := 10) (ret := (some .int)) rfl (by decide) rfl (Nat.le_of_ble_eq_true rfl) (fun p e s m args below meth c Q ls hQ hx hb hr hts hown hlocks hml hW hK hl => ?_)
  have hl : lv_has ls 10 [(0, .ref (ad 0 (0))), (1, .int (r)), (2, .int (a)), (3, .int (b)), (4, .long (w)), (6, .int (y))] := hl
  have hS := va_S.rf (A := wA LM ad) (H0 := s.heap)
  have hinX6 : ∀ w ∈ wsX60, w ∈ wsX6_needs := by decide +kernel
  have hf39 := hts (.fieldLink RX6 39 "JoinedStoresModel" "receivers" "[I") (by decide +kernel)
  have hf92 := hts (.fieldLink RX6 92 "JoinedStoresModel" "letters" "I") (by decide +kernel)
  have hw6 := hT.2
  have h64 := pow64 hw6
  refine lv_iload_n hx hb dX6_needs_0 rfl (lv_at hl 1 rfl) ?_
  refine g_pi (va_runS (As := [.int (r)]) (rest := []) ⟨hx, hb, hml, hown, hts⟩ (c_X6_isReplica l r) (va_cwS 1 hts gX6_needs_X6_isReplica rfl rfl rfl (by decide +kernel) ⟨Nat.le_of_ble_eq_true rfl, Nat.le_of_ble_eq_true rfl⟩) p_preS rfl rfl hl.1 rfl (lv_room (Nat.le_of_ble_eq_true rfl)) dX6_needs_1 ⟨Nat.le_refl _, Nat.le_refl _⟩) hW hS (fun H locs hW hS => ?_)
  refine lv_if_eq (tgt := 26) hx hb dX6_needs_4 (by decide) (fun c4_0 => ?_) (fun c4_0 => ?_)
  · replace c4_0 := bI_0.mp c4_0
    try simp only [decide_eq_true_eq, decide_eq_false_iff_not] at c4_0
    refine lv_bipush (v := (-2)) hx hb dX6_needs_26 (by decide) ?_
    rw [hQ]
    exact g_iret (wd := wM G ad) hx hb hr rfl hlocks hW hS (by refine ⟨?_, Sm.rf⟩; simp [c4_0]) dX6_needs_28
  · replace c4_0 := bI_1.mp c4_0
    obtain ⟨rN, hrN, erN⟩ := okN_nI (k := 4) (by decide) c4_0
    subst erN
    have t_rN : tn (nI rN) = rN := tn_nI (by omega)
    have k_rN : okN (nI 4) (nI rN) = true := okN_of (by decide) hrN
    refine lv_iload_n hx hb dX6_needs_7 rfl (lv_at hl 2 rfl) ?_
    refine lv_iload_n hx hb dX6_needs_8 rfl (lv_at hl 3 rfl) ?_
    refine g_pi (va_runS (As := [.int (a), .int (b)]) (rest := []) ⟨hx, hb, hml, hown, hts⟩ (c_X6_isObject l a b) (va_cwS 2 hts gX6_needs_X6_isObject rfl rfl rfl (by decide +kernel) ⟨Nat.le_of_ble_eq_true rfl, Nat.le_of_ble_eq_true rfl⟩) p_preS rfl rfl hl.1 rfl (lv_room (Nat.le_of_ble_eq_true rfl)) dX6_needs_9 ⟨Nat.le_refl _, Nat.le_refl _⟩) hW hS (fun H locs hW hS => ?_)
    refine lv_if_eq (tgt := 26) hx hb dX6_needs_12 (by decide) (fun c12_1 => ?_) (fun c12_1 => ?_)
    · replace c12_1 := bI_0.mp c12_1
      try simp only [decide_eq_true_eq, decide_eq_false_iff_not] at c12_1
      refine lv_bipush (v := (-2)) hx hb dX6_needs_26 (by decide) ?_
      rw [hQ]
      exact g_iret (wd := wM G ad) hx hb hr rfl hlocks hW hS (by refine ⟨?_, Sm.rf⟩; simp [k_rN, c12_1]) dX6_needs_28
    · replace c12_1 := bI_1.mp c12_1
      obtain ⟨aN, haN, eaN⟩ := okN_nI (k := 3) (by decide) (okAnd c12_1).1
      subst eaN
      have t_aN : tn (nI aN) = aN := tn_nI (by omega)
      have k_aN : okN (nI 3) (nI aN) = true := okN_of (by decide) haN
      obtain ⟨bN, hbN, ebN⟩ := okN_nI (k := 4) (by decide) (okAnd c12_1).2
      subst ebN
      have t_bN : tn (nI bN) = bN := tn_nI (by omega)
      have k_bN : okN (nI 4) (nI bN) = true := okN_of (by decide) hbN
      refine lv_iload hx hb dX6_needs_15 (lv_at hl 5 rfl) ?_
      refine lv_i2l hx hb dX6_needs_17 rfl ?_
      refine lv_lconst (v := lN 0) hx hb dX6_needs_18 (by decide) ?_
      refine lv_lconst (v := lN 1) hx hb dX6_needs_19 (by decide) ?_
      refine g_pi (va_runS (As := [.long (y.toInt64), .long (lN 0), .long (lN 1)]) (rest := []) ⟨hx, hb, hml, hown, hts⟩ (c_X6_inB l y.toInt64 (lN 0) (lN 1) (okN (nI 2) y) (inL_N (k := 2) (by decide) (by decide) _)) (va_cwS 3 hts gX6_needs_X6_in rfl rfl rfl (by decide +kernel) ⟨Nat.le_of_ble_eq_true rfl, Nat.le_of_ble_eq_true rfl⟩) p_preS rfl rfl hl.1 rfl (lv_room (Nat.le_of_ble_eq_true rfl)) dX6_needs_20 ⟨Nat.le_refl _, Nat.le_refl _⟩) hW hS (fun H locs hW hS => ?_)
      refine lv_if_ne (tgt := 29) hx hb dX6_needs_23 (by decide) (fun c23_2 => ?_) (fun c23_2 => ?_)
      · replace c23_2 := bI_1.mp c23_2
        obtain ⟨yN, hyN, eyN⟩ := okN_nI (k := 2) (by decide) c23_2
        subst eyN
        have t_yN : tn (nI yN) = yN := tn_nI (by omega)
        have k_yN : okN (nI 2) (nI yN) = true := okN_of (by decide) hyN
        refine lv_iconst (v := nI 0) hx hb dX6_needs_29 (by decide) ?_
        refine lv_istore (lv' := [(7, .int (nI (0))), (0, .ref (ad 0 (0))), (1, .int (nI (rN))), (2, .int (nI (aN))), (3, .int (nI (bN))), (4, .long (w)), (6, .int (nI (yN)))]) hx hb dX6_needs_30 hl (by decide) rfl (fun ls hl => ?_)
        refine lv_iconst (v := nI 0) hx hb dX6_needs_32 (by decide) ?_
        refine lv_istore (lv' := [(8, .int (nI (0))), (7, .int (nI (0))), (0, .ref (ad 0 (0))), (1, .int (nI (rN))), (2, .int (nI (aN))), (3, .int (nI (bN))), (4, .long (w)), (6, .int (nI (yN)))]) hx hb dX6_needs_33 hl (by decide) rfl (fun ls hl => ?_)
        have K35 : ∀ (n : Nat) (i : Nat) (m1 : Int32), (i ≤ wt (V J)) → (m1 = mnM J rN i) → (wt (V J)) < i + n → ∀ (H : Heap) (locs : List Loc), va_P D vwCl (wS LM ad (wM G ad J)) H → va_S (wA LM ad) s.heap H locs → ∀ (ls : Array Slot), lv_has ls 10 [(8, .int (nI (i))), (7, .int (m1)), (0, .ref (ad 0 (0))), (1, .int (nI (rN))), (2, .int (nI (aN))), (3, .int (nI (bN))), (4, .long (w)), (6, .int (nI (yN)))] → W p l e ({ frames := 6, cells := 0, slots := 0, locals := 161 } : Room) s m args below meth c H locs 0 0 Q (F0 m 35 ls []) := by
          intro n35
          induction n35 with
          | zero => intro i m1 hi hm hfu; exact absurd hfu (by omega)
          | succ n35 ih35 =>
            intro i m1 hi hm hfu H locs hW hS ls hl
            refine lv_iload hx hb dX6_needs_35 (lv_at hl 0 rfl) ?_
            refine lv_aload_n hx hb dX6_needs_37 rfl (lv_at hl 2 rfl) ?_
            refine r_get hx hb hts hown hK hW 0 (0) 8 (mM (by decide) (by decide)) rfl rfl hinX6 (by decide) hf92 rfl rfl dX6_needs_38 (lv_topi (fun x4 ex4 => ?_))
            refine r_top (show x4 = nI (wt (V J)) from (ex4.trans hT.1)) ?_
            refine lv_icmp_ge (tgt := 70) hx hb dX6_needs_41 (by decide) (fun c41_4 => ?_) (fun c41_4 => ?_)
            · replace c41_4 : wt (V J) ≤ i := (nI_leI (show wt (V J) < 2147483648 by omega) (show i < 2147483648 by omega)).mp c41_4
              have hie : i = wt (V J) := by omega
              refine lv_iconst (v := (-1)) hx hb dX6_needs_70 (by decide) ?_
              refine lv_istore (lv' := [(8, .int ((-1))), (7, .int (m1)), (0, .ref (ad 0 (0))), (1, .int (nI (rN))), (2, .int (nI (aN))), (3, .int (nI (bN))), (4, .long (w)), (6, .int (nI (yN)))]) hx hb dX6_needs_71 hl (by decide) rfl (fun ls hl => ?_)
              refine lv_iconst (v := nI 0) hx hb dX6_needs_73 (by decide) ?_
              refine lv_istore (lv' := [(9, .int (nI (0))), (8, .int ((-1))), (7, .int (m1)), (0, .ref (ad 0 (0))), (1, .int (nI (rN))), (2, .int (nI (aN))), (3, .int (nI (bN))), (4, .long (w)), (6, .int (nI (yN)))]) hx hb dX6_needs_74 hl (by decide) rfl (fun ls hl => ?_)
              have K76 : ∀ (n : Nat) (q : Nat) (b9 : Int32) (v : St), (q ≤ 2 ^ wt (V J)) → (Sm gM J v) → (b9 = ftM J rN (4 * aN + bN) w m1 q) → (2 ^ wt (V J)) < q + n → ∀ (H : Heap) (locs : List Loc), va_P D vwCl (wS LM ad (wM G ad v)) H → va_S (wA LM ad) s.heap H locs → ∀ (ls : Array Slot), lv_has ls 10 [(9, .int (nI (q))), (8, .int (b9)), (7, .int (m1)), (0, .ref (ad 0 (0))), (1, .int (nI (rN))), (2, .int (nI (aN))), (3, .int (nI (bN))), (4, .long (w)), (6, .int (nI (yN)))] → W p l e ({ frames := 6, cells := 0, slots := 0, locals := 161 } : Room) s m args below meth c H locs 0 0 Q (F0 m 76 ls []) := by
                intro n76
                induction n76 with
                | zero => intro q b9 v hq hu hbb hfu; exact absurd hfu (by omega)
                | succ n76 ih76 =>
                  intro q b9 v hq hu hbb hfu H locs hW hS ls hl
                  refine lv_iload hx hb dX6_needs_76 (lv_at hl 0 rfl) ?_
                  refine lv_iconst (v := nI 1) hx hb dX6_needs_78 (by decide) ?_
                  refine lv_aload_n hx hb dX6_needs_79 rfl (lv_at hl 3 rfl) ?_
                  refine r_get hx hb hts hown hK hW 0 (0) 8 (mM (by decide) (by decide)) rfl rfl hinX6 (by decide) hf92 rfl rfl dX6_needs_80 (lv_topi (fun x6 ex6 => ?_))
                  refine r_top (show x6 = nI (wt (V J)) from (ex6.trans ((sq_e hu (by decide) (by decide)).trans hT.1))) ?_
                  refine lv_ishl hx hb dX6_needs_83 (lv_topi (fun x7 ex7 => ?_))
                  replace ex7 : x7 = b1 (wt (V J)) := ex7
                  refine r_top (show x7 = nI (2 ^ wt (V J)) from (ex7.trans (b1_pow _ hw6))) ?_
                  refine lv_icmp_ge (tgt := 146) hx hb dX6_needs_84 (by decide) (fun c84_7 => ?_) (fun c84_7 => ?_)
                  · replace c84_7 : 2 ^ wt (V J) ≤ q := (nI_leI (show 2 ^ wt (V J) < 2147483648 by omega) (show q < 2147483648 by omega)).mp c84_7
                    refine lv_iload hx hb dX6_needs_146 (lv_at hl 1 rfl) ?_
                    refine lv_iconst (v := (-1)) hx hb dX6_needs_148 (by decide) ?_
                    refine lv_icmp_ne (tgt := 156) hx hb dX6_needs_149 (by decide) (fun c149_8 => ?_) (fun c149_8 => ?_)
                    · refine lv_iload hx hb dX6_needs_156 (lv_at hl 8 rfl) ?_
                      refine lv_if_ne (tgt := 169) hx hb dX6_needs_158 (by decide) (fun c158_9 => ?_) (fun c158_9 => ?_)
                      · replace c158_9 : ¬ yN = 0 := fun h => c158_9 ((nI_eq (show yN < 2147483648 by omega) (show 0 < 2147483648 by omega)).mpr h)
                        refine lv_iload hx hb dX6_needs_169 (lv_at hl 1 rfl) ?_
                        rw [hQ]
                        exact g_iret (wd := wM G ad) hx hb hr rfl hlocks hW hS (by have e4 : q = 2 ^ wt (V J) := (by omega); subst e4; rw [hm, hie] at hbb; refine ⟨?_, hu⟩; rw [if_pos (by simp [k_rN, k_aN, k_bN, k_yN])]; simp only [t_rN, t_aN, t_bN, t_yN]; subst ex7 ex6; rw [← hbb]; simp only [ndM]; (repeat' split) <;> first | contradiction | rfl | (exfalso; omega)) dX6_needs_171
                      · replace c158_9 : yN = 0 := (nI_eq (show yN < 2147483648 by omega) (show 0 < 2147483648 by omega)).mp c158_9
                        refine lv_iload hx hb dX6_needs_161 (lv_at hl 1 rfl) ?_
                        refine g_pi (va_runS (As := [.int (b9)]) (rest := []) ⟨hx, hb, hml, hown, hts⟩ (c_J6_bitCount_0f7a4 l b9) (va_cwS 1 hts gX6_needs_J6_bitCount_0f7a4 rfl rfl rfl (by decide +kernel) ⟨Nat.le_of_ble_eq_true rfl, Nat.le_of_ble_eq_true rfl⟩) p_preS rfl rfl hl.1 rfl (lv_room (Nat.le_of_ble_eq_true rfl)) dX6_needs_163 ⟨Nat.le_refl _, Nat.le_refl _⟩) hW hS (fun H locs hW hS => ?_)
                        refine lv_goto (tgt := 171) hx hb dX6_needs_166 (by decide) ?_
                        rw [hQ]
                        exact g_iret (wd := wM G ad) hx hb hr rfl hlocks hW hS (by have e4 : q = 2 ^ wt (V J) := (by omega); subst e4; rw [hm, hie] at hbb; refine ⟨?_, hu⟩; rw [if_pos (by simp [k_rN, k_aN, k_bN, k_yN])]; simp only [t_rN, t_aN, t_bN, t_yN]; subst ex7 ex6; rw [← hbb]; simp only [ndM]; (repeat' split) <;> first | contradiction | rfl | (exfalso; omega)) dX6_needs_171
                    · refine lv_iconst (v := (-1)) hx hb dX6_needs_152 (by decide) ?_
                      refine lv_goto (tgt := 171) hx hb dX6_needs_153 (by decide) ?_
                      rw [hQ]
                      exact g_iret (wd := wM G ad) hx hb hr rfl hlocks hW hS (by have e4 : q = 2 ^ wt (V J) := (by omega); subst e4; rw [hm, hie] at hbb; refine ⟨?_, hu⟩; rw [if_pos (by simp [k_rN, k_aN, k_bN, k_yN])]; simp only [t_rN, t_aN, t_bN, t_yN]; subst ex7 ex6; rw [← hbb]; simp only [ndM]; (repeat' split) <;> first | contradiction | rfl | (exfalso; omega)) dX6_needs_171
                  · replace c84_7 : ¬ (2 ^ wt (V J) ≤ q) := fun h => c84_7 ((nI_leI (show 2 ^ wt (V J) < 2147483648 by omega) (show q < 2147483648 by omega)).mpr h)
                    refine lv_iload hx hb dX6_needs_87 (lv_at hl 0 rfl) ?_
                    refine lv_iload hx hb dX6_needs_89 (lv_at hl 2 rfl) ?_
                    refine lv_iconst (v := (-1)) hx hb dX6_needs_91 (by decide) ?_
                    refine lv_ixor hx hb dX6_needs_92 (lv_topi (fun x11 ex11 => ?_))
                    refine lv_iand hx hb dX6_needs_93 (lv_topi (fun x12 ex12 => ?_))
                    refine lv_if_ne (tgt := 140) hx hb dX6_needs_94 (by decide) (fun c94_12 => ?_) (fun c94_12 => ?_)
                    · rw [ex12, ex11] at c94_12
                      refine lv_iinc (v := nI (q + 1)) (lv' := [(9, .int (nI (q + 1))), (8, .int (b9)), (7, .int (m1)), (0, .ref (ad 0 (0))), (1, .int (nI (rN))), (2, .int (nI (aN))), (3, .int (nI (bN))), (4, .long (w)), (6, .int (nI (yN)))]) hx hb dX6_needs_140 hl (k := 0) rfl (nI_inc q 1) (by decide) rfl (fun ls hl => ?_)
                      refine lv_goto (tgt := 76) hx hb dX6_needs_143 (by decide) ?_
                      exact ih76 (q + 1) (b9) (v) (by omega) hu (by subst ex12 ex11 ex7 ex6; rw [ftM, ← hbb]; rw [if_neg (fun q9 => c94_12 q9.1)]) (by omega) _ _ hW hS _ (lv_sub hl [0, 1, 2, 3, 4, 5, 6, 7, 8] rfl)
                    · rw [ex12, ex11] at c94_12
                      refine lv_iload hx hb dX6_needs_97 (lv_at hl 1 rfl) ?_
                      refine lv_iconst (v := (-1)) hx hb dX6_needs_99 (by decide) ?_
                      refine lv_icmp_eq (tgt := 119) hx hb dX6_needs_100 (by decide) (fun c100_13 => ?_) (fun c100_13 => ?_)
                      · refine lv_aload_n hx hb dX6_needs_119 rfl (lv_at hl 3 rfl) ?_
                        refine lv_iload_n hx hb dX6_needs_120 rfl (lv_at hl 4 rfl) ?_
                        refine lv_iconst (v := nI 4) hx hb dX6_needs_121 (by decide) ?_
                        refine lv_iload_n hx hb dX6_needs_122 rfl (lv_at hl 5 rfl) ?_
                        refine lv_imul hx hb dX6_needs_123 (r_top (pk_mul _ _) ?_)
                        refine lv_iload_n hx hb dX6_needs_124 rfl (lv_at hl 6 rfl) ?_
                        refine lv_iadd hx hb dX6_needs_125 (r_top (nI_add _ _) ?_)
                        refine lv_lload hx hb dX6_needs_126 (lv_at hl 7 rfl) ?_
                        refine lv_iload hx hb dX6_needs_128 (lv_at hl 0 rfl) ?_
                        refine g_ci (va_runV (As := [.int (nI (rN)), .int (nI ((4 * aN) + bN)), .long (w), .int (nI (q))]) (rest := []) ⟨hx, hb, hml, hown, hts⟩ (c_X6_isByLetters l D G ad hI v rN ((4 * aN) + bN) w (nI (q)) (show rN < 4 by omega) (show (4 * aN) + bN < 12 by omega) (sq_M hu hM) (sq_K hu hKd) (sq_T hu hT)) (cwV 4 hts gX6_needs_X6_isByLetters rfl rfl rfl (by decide +kernel) ⟨Nat.le_of_ble_eq_true rfl, Nat.le_of_ble_eq_true rfl⟩) (g_preV hK hW 0 (0) (mM (by decide) (by decide)) rfl rfl) rfl rfl hl.1 rfl (lv_room (Nat.le_of_ble_eq_true rfl)) dX6_needs_130 ⟨Nat.le_refl _, Nat.le_refl _⟩) hS (fun x15 I15 H locs hp hW hS => ?_)
                        obtain ⟨ex15, eI15⟩ := hp
                        have huI15 : Sm gM J I15 := by rw [eI15]; exact sq_tc hu _ _ _
                        refine lv_if_eq (tgt := 140) hx hb dX6_needs_133 (by decide) (fun c133_15 => ?_) (fun c133_15 => ?_)
                        · rw [ex15] at c133_15
                          replace c133_15 := bI_0.mp c133_15
                          try simp only [decide_eq_true_eq, decide_eq_false_iff_not] at c133_15
                          rw [sq_wt hu, sq_kd hu, tcM_wth hu hM hrN _ hw6] at c133_15
                          refine lv_iinc (v := nI (q + 1)) (lv' := [(9, .int (nI (q + 1))), (8, .int (b9)), (7, .int (m1)), (0, .ref (ad 0 (0))), (1, .int (nI (rN))), (2, .int (nI (aN))), (3, .int (nI (bN))), (4, .long (w)), (6, .int (nI (yN)))]) hx hb dX6_needs_140 hl (k := 0) rfl (nI_inc q 1) (by decide) rfl (fun ls hl => ?_)
                          refine lv_goto (tgt := 76) hx hb dX6_needs_143 (by decide) ?_
                          exact ih76 (q + 1) (b9) (I15) (by omega) huI15 (by subst eI15 ex15 ex12 ex11 ex7 ex6; rw [ftM, ← hbb]; rw [if_neg (fun q9 => c133_15 q9.2.2)]) (by omega) _ _ hW hS _ (lv_sub hl [0, 1, 2, 3, 4, 5, 6, 7, 8] rfl)
                        · rw [ex15] at c133_15
                          replace c133_15 := bI_1.mp c133_15
                          try simp only [decide_eq_true_eq, decide_eq_false_iff_not] at c133_15
                          rw [sq_wt hu, sq_kd hu, tcM_wth hu hM hrN _ hw6] at c133_15
                          refine lv_iload hx hb dX6_needs_136 (lv_at hl 0 rfl) ?_
                          refine lv_istore (lv' := [(8, .int (nI (q))), (9, .int (nI (q))), (7, .int (m1)), (0, .ref (ad 0 (0))), (1, .int (nI (rN))), (2, .int (nI (aN))), (3, .int (nI (bN))), (4, .long (w)), (6, .int (nI (yN)))]) hx hb dX6_needs_138 hl (by decide) rfl (fun ls hl => ?_)
                          refine lv_iinc (v := nI (q + 1)) (lv' := [(9, .int (nI (q + 1))), (8, .int (nI (q))), (7, .int (m1)), (0, .ref (ad 0 (0))), (1, .int (nI (rN))), (2, .int (nI (aN))), (3, .int (nI (bN))), (4, .long (w)), (6, .int (nI (yN)))]) hx hb dX6_needs_140 hl (k := 1) rfl (nI_inc q 1) (by decide) rfl (fun ls hl => ?_)
                          refine lv_goto (tgt := 76) hx hb dX6_needs_143 (by decide) ?_
                          exact ih76 (q + 1) (nI (q)) (I15) (by omega) huI15 (by subst eI15 ex15 ex12 ex11 ex7 ex6; rw [ftM, ← hbb]; rw [if_pos ⟨c94_12, Or.inl c100_13, c133_15⟩]) (by omega) _ _ hW hS _ (lv_sub hl [0, 1, 2, 3, 4, 5, 6, 7, 8] rfl)
                      · refine lv_iload hx hb dX6_needs_103 (lv_at hl 0 rfl) ?_
                        refine g_pi (va_runS (As := [.int (nI (q))]) (rest := []) ⟨hx, hb, hml, hown, hts⟩ (c_J6_bitCount_0f7a4 l (nI (q))) (va_cwS 1 hts gX6_needs_J6_bitCount_0f7a4 rfl rfl rfl (by decide +kernel) ⟨Nat.le_of_ble_eq_true rfl, Nat.le_of_ble_eq_true rfl⟩) p_preS rfl rfl hl.1 rfl (lv_room (Nat.le_of_ble_eq_true rfl)) dX6_needs_105 ⟨Nat.le_refl _, Nat.le_refl _⟩) hW hS (fun H locs hW hS => ?_)
                        refine lv_iload hx hb dX6_needs_108 (lv_at hl 1 rfl) ?_
                        refine g_pi (va_runS (As := [.int (b9)]) (rest := [.int (bc (nI (q)))]) ⟨hx, hb, hml, hown, hts⟩ (c_J6_bitCount_0f7a4 l b9) (va_cwS 1 hts gX6_needs_J6_bitCount_0f7a4 rfl rfl rfl (by decide +kernel) ⟨Nat.le_of_ble_eq_true rfl, Nat.le_of_ble_eq_true rfl⟩) p_preS rfl rfl hl.1 rfl (lv_room (Nat.le_of_ble_eq_true rfl)) dX6_needs_110 ⟨Nat.le_refl _, Nat.le_refl _⟩) hW hS (fun H locs hW hS => ?_)
                        refine lv_icmp_lt (tgt := 119) hx hb dX6_needs_113 (by decide) (fun c113_16 => ?_) (fun c113_16 => ?_)
                        · refine lv_aload_n hx hb dX6_needs_119 rfl (lv_at hl 3 rfl) ?_
                          refine lv_iload_n hx hb dX6_needs_120 rfl (lv_at hl 4 rfl) ?_
                          refine lv_iconst (v := nI 4) hx hb dX6_needs_121 (by decide) ?_
                          refine lv_iload_n hx hb dX6_needs_122 rfl (lv_at hl 5 rfl) ?_
                          refine lv_imul hx hb dX6_needs_123 (r_top (pk_mul _ _) ?_)
                          refine lv_iload_n hx hb dX6_needs_124 rfl (lv_at hl 6 rfl) ?_
                          refine lv_iadd hx hb dX6_needs_125 (r_top (nI_add _ _) ?_)
                          refine lv_lload hx hb dX6_needs_126 (lv_at hl 7 rfl) ?_
                          refine lv_iload hx hb dX6_needs_128 (lv_at hl 0 rfl) ?_
                          refine g_ci (va_runV (As := [.int (nI (rN)), .int (nI ((4 * aN) + bN)), .long (w), .int (nI (q))]) (rest := []) ⟨hx, hb, hml, hown, hts⟩ (c_X6_isByLetters l D G ad hI v rN ((4 * aN) + bN) w (nI (q)) (show rN < 4 by omega) (show (4 * aN) + bN < 12 by omega) (sq_M hu hM) (sq_K hu hKd) (sq_T hu hT)) (cwV 4 hts gX6_needs_X6_isByLetters rfl rfl rfl (by decide +kernel) ⟨Nat.le_of_ble_eq_true rfl, Nat.le_of_ble_eq_true rfl⟩) (g_preV hK hW 0 (0) (mM (by decide) (by decide)) rfl rfl) rfl rfl hl.1 rfl (lv_room (Nat.le_of_ble_eq_true rfl)) dX6_needs_130 ⟨Nat.le_refl _, Nat.le_refl _⟩) hS (fun x18 I18 H locs hp hW hS => ?_)
                          obtain ⟨ex18, eI18⟩ := hp
                          have huI18 : Sm gM J I18 := by rw [eI18]; exact sq_tc hu _ _ _
                          refine lv_if_eq (tgt := 140) hx hb dX6_needs_133 (by decide) (fun c133_18 => ?_) (fun c133_18 => ?_)
                          · rw [ex18] at c133_18
                            replace c133_18 := bI_0.mp c133_18
                            try simp only [decide_eq_true_eq, decide_eq_false_iff_not] at c133_18
                            rw [sq_wt hu, sq_kd hu, tcM_wth hu hM hrN _ hw6] at c133_18
                            refine lv_iinc (v := nI (q + 1)) (lv' := [(9, .int (nI (q + 1))), (8, .int (b9)), (7, .int (m1)), (0, .ref (ad 0 (0))), (1, .int (nI (rN))), (2, .int (nI (aN))), (3, .int (nI (bN))), (4, .long (w)), (6, .int (nI (yN)))]) hx hb dX6_needs_140 hl (k := 0) rfl (nI_inc q 1) (by decide) rfl (fun ls hl => ?_)
                            refine lv_goto (tgt := 76) hx hb dX6_needs_143 (by decide) ?_
                            exact ih76 (q + 1) (b9) (I18) (by omega) huI18 (by subst eI18 ex18 ex12 ex11 ex7 ex6; rw [ftM, ← hbb]; rw [if_neg (fun q9 => c133_18 q9.2.2)]) (by omega) _ _ hW hS _ (lv_sub hl [0, 1, 2, 3, 4, 5, 6, 7, 8] rfl)
                          · rw [ex18] at c133_18
                            replace c133_18 := bI_1.mp c133_18
                            try simp only [decide_eq_true_eq, decide_eq_false_iff_not] at c133_18
                            rw [sq_wt hu, sq_kd hu, tcM_wth hu hM hrN _ hw6] at c133_18
                            refine lv_iload hx hb dX6_needs_136 (lv_at hl 0 rfl) ?_
                            refine lv_istore (lv' := [(8, .int (nI (q))), (9, .int (nI (q))), (7, .int (m1)), (0, .ref (ad 0 (0))), (1, .int (nI (rN))), (2, .int (nI (aN))), (3, .int (nI (bN))), (4, .long (w)), (6, .int (nI (yN)))]) hx hb dX6_needs_138 hl (by decide) rfl (fun ls hl => ?_)
                            refine lv_iinc (v := nI (q + 1)) (lv' := [(9, .int (nI (q + 1))), (8, .int (nI (q))), (7, .int (m1)), (0, .ref (ad 0 (0))), (1, .int (nI (rN))), (2, .int (nI (aN))), (3, .int (nI (bN))), (4, .long (w)), (6, .int (nI (yN)))]) hx hb dX6_needs_140 hl (k := 1) rfl (nI_inc q 1) (by decide) rfl (fun ls hl => ?_)
                            refine lv_goto (tgt := 76) hx hb dX6_needs_143 (by decide) ?_
                            exact ih76 (q + 1) (nI (q)) (I18) (by omega) huI18 (by subst eI18 ex18 ex12 ex11 ex7 ex6; rw [ftM, ← hbb]; rw [if_pos ⟨c94_12, Or.inr c113_16, c133_18⟩]) (by omega) _ _ hW hS _ (lv_sub hl [0, 1, 2, 3, 4, 5, 6, 7, 8] rfl)
                        · refine lv_goto (tgt := 140) hx hb dX6_needs_116 (by decide) ?_
                          refine lv_iinc (v := nI (q + 1)) (lv' := [(9, .int (nI (q + 1))), (8, .int (b9)), (7, .int (m1)), (0, .ref (ad 0 (0))), (1, .int (nI (rN))), (2, .int (nI (aN))), (3, .int (nI (bN))), (4, .long (w)), (6, .int (nI (yN)))]) hx hb dX6_needs_140 hl (k := 0) rfl (nI_inc q 1) (by decide) rfl (fun ls hl => ?_)
                          refine lv_goto (tgt := 76) hx hb dX6_needs_143 (by decide) ?_
                          exact ih76 (q + 1) (b9) (v) (by omega) hu (by subst ex12 ex11 ex7 ex6; rw [ftM, ← hbb]; rw [if_neg (fun q9 => q9.2.1.elim c100_13 (Int32.not_lt.mpr (Int32.not_lt.mp c113_16)))]) (by omega) _ _ hW hS _ (lv_sub hl [0, 1, 2, 3, 4, 5, 6, 7, 8] rfl)
              exact K76 ((2 ^ wt (V J)) + 1) (0) ((-1)) (J) (Nat.zero_le _) Sm.rf rfl (by omega) _ _ hW hS _ (lv_sub hl [0, 1, 2, 3, 4, 5, 6, 7, 8] rfl)
            · replace c41_4 : ¬ (wt (V J) ≤ i) := fun h => c41_4 ((nI_leI (show wt (V J) < 2147483648 by omega) (show i < 2147483648 by omega)).mpr h)
              refine lv_aload_n hx hb dX6_needs_44 rfl (lv_at hl 2 rfl) ?_
              refine r_get hx hb hts hown hK hW 0 (0) 10 (mM (by decide) (by decide)) rfl rfl hinX6 (by decide) hf39 rfl rfl dX6_needs_45 ?_
              refine lv_iload hx hb dX6_needs_48 (lv_at hl 0 rfl) ?_
              refine rM_iald hx hb hK hW 22 (0) (i) (by decide) (by decide) (by decide) (show i < 6 by omega) rfl dX6_needs_50 (fun x20 ex20 => ?_)
              refine lv_iload_n hx hb dX6_needs_51 rfl (lv_at hl 3 rfl) ?_
              refine lv_icmp_ne (tgt := 64) hx hb dX6_needs_52 (by decide) (fun c52_20 => ?_) (fun c52_20 => ?_)
              · refine lv_iinc (v := nI (i + 1)) (lv' := [(8, .int (nI (i + 1))), (7, .int (m1)), (0, .ref (ad 0 (0))), (1, .int (nI (rN))), (2, .int (nI (aN))), (3, .int (nI (bN))), (4, .long (w)), (6, .int (nI (yN)))]) hx hb dX6_needs_64 hl (k := 0) rfl (nI_inc i 1) (by decide) rfl (fun ls hl => ?_)
                refine lv_goto (tgt := 35) hx hb dX6_needs_67 (by decide) ?_
                exact ih35 (i + 1) (m1) (by omega) (by subst ex20 ex4; rw [mnM, if_neg c52_20, ← hm]) (by omega) _ _ hW hS _ (lv_sub hl [0, 1, 2, 3, 4, 5, 6, 7] rfl)
              · refine lv_iload hx hb dX6_needs_55 (lv_at hl 1 rfl) ?_
                refine lv_iconst (v := nI 1) hx hb dX6_needs_57 (by decide) ?_
                refine lv_iload hx hb dX6_needs_58 (lv_at hl 0 rfl) ?_
                refine lv_ishl hx hb dX6_needs_60 (lv_topi (fun x22 ex22 => ?_))
                replace ex22 : x22 = b1 i := ex22
                refine lv_ior hx hb dX6_needs_61 (lv_topi (fun x23 ex23 => ?_))
                refine lv_istore (lv' := [(7, .int (x23)), (8, .int (nI (i))), (0, .ref (ad 0 (0))), (1, .int (nI (rN))), (2, .int (nI (aN))), (3, .int (nI (bN))), (4, .long (w)), (6, .int (nI (yN)))]) hx hb dX6_needs_62 hl (by decide) rfl (fun ls hl => ?_)
                refine lv_iinc (v := nI (i + 1)) (lv' := [(8, .int (nI (i + 1))), (7, .int (x23)), (0, .ref (ad 0 (0))), (1, .int (nI (rN))), (2, .int (nI (aN))), (3, .int (nI (bN))), (4, .long (w)), (6, .int (nI (yN)))]) hx hb dX6_needs_64 hl (k := 1) rfl (nI_inc i 1) (by decide) rfl (fun ls hl => ?_)
                refine lv_goto (tgt := 35) hx hb dX6_needs_67 (by decide) ?_
                exact ih35 (i + 1) (x23) (by omega) (by subst ex23 ex22 ex20 ex4; rw [mnM, if_pos c52_20, ← hm]) (by omega) _ _ hW hS _ (lv_sub hl [0, 1, 2, 3, 4, 5, 6, 7] rfl)
        exact K35 ((wt (V J)) + 1) (0) (nI (0)) (Nat.zero_le _) rfl (by omega) _ _ hW hS _ (lv_sub hl [0, 1, 2, 3, 4, 5, 6, 7] rfl)
      · replace c23_2 := bI_0.mp c23_2
        try simp only [decide_eq_true_eq, decide_eq_false_iff_not] at c23_2
        refine lv_bipush (v := (-2)) hx hb dX6_needs_26 (by decide) ?_
        rw [hQ]
        exact g_iret (wd := wM G ad) hx hb hr rfl hlocks hW hS (by refine ⟨?_, Sm.rf⟩; simp [k_rN, k_aN, k_bN, c23_2]) dX6_needs_28

set_option maxHeartbeats 4000000 in
set_option maxRecDepth 100000 in
theorem c_X6_alikeMet (l : Launch) (D : va_G) (G : Nat → ClassId) (ad : Nat → Nat → Nat) (hI : wI LM ad) (J : St) (b : Nat) (hb29 : b + 4 ≤ 33) : Met l yX6_alikeMet wsX6_alikeMet ({ frames := 1, cells := 0, slots := 0, locals := 23 } : Room) (gPre D G LM ad [.ref (ad 0 (0)), .int (nI (b))] (wM G ad J)) (gQi D LM ad (wM G ad) (fun r9 u => r9 = nI (cntM J b 4) ∧ u = J)) 0 0 (wA LM ad) := by
  refine g_entry (C := RX6) (cc := cX6_alikeMet) (maxL := 4) (ret := (some .int)) rfl (by decide) rfl (Nat.le_of_ble_eq_true rfl) (fun p e s m args below meth c Q ls hQ hx hb hr hts hown hlocks hml hW hK hl => ?_)
  have hl : lv_has ls 4 [(0, .ref (ad 0 (0))), (1, .int (nI (b)))] := hl
  have hS := va_S.rf (A := wA LM ad) (H0 := s.heap)
  refine lv_iconst (v := nI 0) hx hb dX6_alikeMet_0 (by decide) ?_
  refine lv_istore_n (lv' := [(2, .int (nI (0))), (0, .ref (ad 0 (0))), (1, .int (nI (b)))]) hx hb dX6_alikeMet_1 rfl hl (by decide) rfl (fun ls hl => ?_)
  refine lv_iconst (v := nI 0) hx hb dX6_alikeMet_2 (by decide) ?_
  refine lv_istore_n (lv' := [(3, .int (nI (0))), (2, .int (nI (0))), (0, .ref (ad 0 (0))), (1, .int (nI (b)))]) hx hb dX6_alikeMet_3 rfl hl (by decide) rfl (fun ls hl => ?_)
  have K4 : ∀ (n : Nat) (i : Nat) (z : Nat), (i ≤ 4) → (z = cntM J b i) → 4 < i + n → ∀ (H : Heap) (locs : List Loc), va_P D vwCl (wS LM ad (wM G ad J)) H → va_S (wA LM ad) s.heap H locs → ∀ (ls : Array Slot), lv_has ls 4 [(3, .int (nI (i))), (2, .int (nI (z))), (0, .ref (ad 0 (0))), (1, .int (nI (b)))] → W p l e ({ frames := 1, cells := 0, slots := 0, locals := 23 } : Room) s m args below meth c H locs 0 0 Q (F0 m 4 ls []) := by
    intro n4
    induction n4 with
    | zero => intro i z hi hz hfu; exact absurd hfu (by omega)
    | succ n4 ih4 =>
      intro i z hi hz hfu H locs hW hS ls hl
      refine lv_iload_n hx hb dX6_alikeMet_4 rfl (lv_at hl 0 rfl) ?_
      refine lv_iconst (v := nI 4) hx hb dX6_alikeMet_5 (by decide) ?_
      refine lv_icmp_ge (tgt := 30) hx hb dX6_alikeMet_6 (by decide) (fun c6_0 => ?_) (fun c6_0 => ?_)
      · replace c6_0 : 4 ≤ i := (nI_leI (show 4 < 2147483648 by omega) (show i < 2147483648 by omega)).mp c6_0
        refine lv_iload_n hx hb dX6_alikeMet_30 rfl (lv_at hl 1 rfl) ?_
        rw [hQ]
        exact g_iret (wd := wM G ad) hx hb hr rfl hlocks hW hS (by have e4 : i = 4 := (by omega); subst e4; exact ⟨congrArg nI hz, rfl⟩) dX6_alikeMet_31
      · replace c6_0 : ¬ (4 ≤ i) := fun h => c6_0 ((nI_leI (show 4 < 2147483648 by omega) (show i < 2147483648 by omega)).mpr h)
        refine lv_aload_n hx hb dX6_alikeMet_9 rfl (lv_at hl 2 rfl) ?_
        refine lv_iload_n hx hb dX6_alikeMet_10 rfl (lv_at hl 3 rfl) ?_
        refine lv_iload_n hx hb dX6_alikeMet_11 rfl (lv_at hl 0 rfl) ?_
        refine lv_iadd hx hb dX6_alikeMet_12 (r_top (nI_add _ _) ?_)
        refine lv_bipush (v := nI 26) hx hb dX6_alikeMet_13 (by decide) ?_
        refine g_ci (va_runV (As := [.int (nI (b + i)), .int (nI (26))]) (rest := []) ⟨hx, hb, hml, hown, hts⟩ (c_X6_areAlike l D G ad hI J (b + i) 26 (show b + i < 33 by omega) (by decide)) (cwV 2 hts gX6_alikeMet_X6_areAlike rfl rfl rfl (by decide +kernel) ⟨Nat.le_of_ble_eq_true rfl, Nat.le_of_ble_eq_true rfl⟩) (g_preV hK hW 0 (0) (mM (by decide) (by decide)) rfl rfl) rfl rfl hl.1 rfl (lv_room (Nat.le_of_ble_eq_true rfl)) dX6_alikeMet_15 ⟨Nat.le_refl _, Nat.le_refl _⟩) hS (fun x2 I2 H locs hp hW hS => ?_)
        obtain ⟨ex2, eI2⟩ := hp
        rw [eI2] at hW
        clear eI2
        refine lv_if_eq (tgt := 24) hx hb dX6_alikeMet_18 (by decide) (fun c18_2 => ?_) (fun c18_2 => ?_)
        · rw [ex2] at c18_2
          replace c18_2 := bI_0.mp c18_2
          try simp only [decide_eq_true_eq, decide_eq_false_iff_not] at c18_2
          refine lv_iinc (v := nI (i + 1)) (lv' := [(3, .int (nI (i + 1))), (2, .int (nI (z))), (0, .ref (ad 0 (0))), (1, .int (nI (b)))]) hx hb dX6_alikeMet_24 hl (k := 0) rfl (nI_inc i 1) (by decide) rfl (fun ls hl => ?_)
          refine lv_goto (tgt := 4) hx hb dX6_alikeMet_27 (by decide) ?_
          exact ih4 (i + 1) (z) (by omega) (by rw [cntM, if_neg (by rw [c18_2]; exact Bool.false_ne_true), ← hz]) (by omega) _ _ hW hS _ (lv_sub hl [0, 1, 2, 3] rfl)
        · rw [ex2] at c18_2
          replace c18_2 := bI_1.mp c18_2
          try simp only [decide_eq_true_eq, decide_eq_false_iff_not] at c18_2
          refine lv_iinc (v := nI (z + 1)) (lv' := [(2, .int (nI (z + 1))), (3, .int (nI (i))), (0, .ref (ad 0 (0))), (1, .int (nI (b)))]) hx hb dX6_alikeMet_21 hl (k := 1) rfl (nI_inc z 1) (by decide) rfl (fun ls hl => ?_)
          refine lv_iinc (v := nI (i + 1)) (lv' := [(3, .int (nI (i + 1))), (2, .int (nI (z + 1))), (0, .ref (ad 0 (0))), (1, .int (nI (b)))]) hx hb dX6_alikeMet_24 hl (k := 1) rfl (nI_inc i 1) (by decide) rfl (fun ls hl => ?_)
          refine lv_goto (tgt := 4) hx hb dX6_alikeMet_27 (by decide) ?_
          exact ih4 (i + 1) (z + 1) (by omega) (by rw [cntM, if_pos c18_2, ← hz]) (by omega) _ _ hW hS _ (lv_sub hl [0, 1, 2, 3] rfl)
  exact K4 (4 + 1) (0) (0) (by decide) rfl (by omega) _ _ hW hS _ (lv_sub hl [0, 1, 2, 3] rfl)

set_option maxHeartbeats 4000000 in
set_option maxRecDepth 100000 in
theorem c_X6_byLot (l : Launch) (D : va_G) (G : Nat → ClassId) (ad : Nat → Nat → Nat) (hI : wI LM ad) (J : St) (z : Int32) (nd : Nat) (hnd : nd ≤ 20) : Met l yX6_byLot wsX6_byLot ({ frames := 3, cells := 0, slots := 0, locals := 107 } : Room) (gPre D G LM ad [.ref (ad 0 (0)), .int (z), .int (nI (nd))] (wM G ad J)) (gQi D LM ad (wM G ad) (fun r9 u => r9 = nI (lotM J z nd) ∧ u = dwM J z nd)) 0 0 (wA LM ad) := by
  refine g_entry (C := RX6) (cc := cX6_byLot) (maxL := 6) (ret := (some .int)) rfl (by decide) rfl (Nat.le_of_ble_eq_true rfl) (fun p e s m args below meth c Q ls hQ hx hb hr hts hown hlocks hml hW hK hl => ?_)
  have hl : lv_has ls 6 [(0, .ref (ad 0 (0))), (1, .int (z)), (2, .int (nI (nd)))] := hl
  have hS := va_S.rf (A := wA LM ad) (H0 := s.heap)
  refine lv_aload_n hx hb dX6_byLot_0 rfl (lv_at hl 0 rfl) ?_
  refine g_cv (va_runV (As := []) (rest := []) ⟨hx, hb, hml, hown, hts⟩ (c_X6_meets l D G ad hI J  ) (cwV 0 hts gX6_byLot_X6_meets rfl rfl rfl (by decide +kernel) ⟨Nat.le_of_ble_eq_true rfl, Nat.le_of_ble_eq_true rfl⟩) (g_preV hK hW 0 (0) (mM (by decide) (by decide)) rfl rfl) rfl rfl hl.1 rfl (lv_room (Nat.le_of_ble_eq_true rfl)) dX6_byLot_1 ⟨Nat.le_refl _, Nat.le_refl _⟩) hS (fun I1 H locs hp hW hS => ?_)
  have eI1 : I1 = mtM J 3 := hp
  refine lv_iconst (v := nI 0) hx hb dX6_byLot_4 (by decide) ?_
  refine lv_istore_n (lv' := [(3, .int (nI (0))), (0, .ref (ad 0 (0))), (1, .int (z)), (2, .int (nI (nd)))]) hx hb dX6_byLot_5 rfl hl (by decide) rfl (fun ls hl => ?_)
  have K6 : ∀ (n : Nat) (i : Nat), (i ≤ 4) → 4 < i + n → ∀ (H : Heap) (locs : List Loc), va_P D vwCl (wS LM ad (wM G ad (asM J i))) H → va_S (wA LM ad) s.heap H locs → ∀ (ls : Array Slot), lv_has ls 6 [(3, .int (nI (i))), (0, .ref (ad 0 (0))), (1, .int (z)), (2, .int (nI (nd)))] → W p l e ({ frames := 3, cells := 0, slots := 0, locals := 107 } : Room) s m args below meth c H locs 0 0 Q (F0 m 6 ls []) := by
    intro n6
    induction n6 with
    | zero => intro i hi hfu; exact absurd hfu (by omega)
    | succ n6 ih6 =>
      intro i hi hfu H locs hW hS ls hl
      refine lv_iload_n hx hb dX6_byLot_6 rfl (lv_at hl 0 rfl) ?_
      refine lv_iconst (v := nI 4) hx hb dX6_byLot_7 (by decide) ?_
      refine lv_icmp_ge (tgt := 26) hx hb dX6_byLot_8 (by decide) (fun c8_1 => ?_) (fun c8_1 => ?_)
      · replace c8_1 : 4 ≤ i := (nI_leI (show 4 < 2147483648 by omega) (show i < 2147483648 by omega)).mp c8_1
        refine lv_iload_n hx hb dX6_byLot_26 rfl (lv_at hl 2 rfl) ?_
        refine lv_istore_n (lv' := [(3, .int (z)), (0, .ref (ad 0 (0))), (1, .int (z)), (2, .int (nI (nd)))]) hx hb dX6_byLot_27 rfl hl (by decide) rfl (fun ls hl => ?_)
        refine lv_iconst (v := nI 0) hx hb dX6_byLot_28 (by decide) ?_
        refine lv_istore (lv' := [(4, .int (nI (0))), (3, .int (z)), (0, .ref (ad 0 (0))), (1, .int (z)), (2, .int (nI (nd)))]) hx hb dX6_byLot_29 hl (by decide) rfl (fun ls hl => ?_)
        have K31 : ∀ (n : Nat) (q : Nat) (y : Int32), (q ≤ nd) → (y = zs z q) → nd < q + n → ∀ (H : Heap) (locs : List Loc), va_P D vwCl (wS LM ad (wM G ad (dwM J z q))) H → va_S (wA LM ad) s.heap H locs → ∀ (ls : Array Slot), lv_has ls 6 [(4, .int (nI (q))), (3, .int (y)), (0, .ref (ad 0 (0))), (1, .int (z)), (2, .int (nI (nd)))] → W p l e ({ frames := 3, cells := 0, slots := 0, locals := 107 } : Room) s m args below meth c H locs 0 0 Q (F0 m 31 ls []) := by
          intro n31
          induction n31 with
          | zero => intro q y hq hy hfu; exact absurd hfu (by omega)
          | succ n31 ih31 =>
            intro q y hq hy hfu H locs hW hS ls hl
            refine lv_iload hx hb dX6_byLot_31 (lv_at hl 0 rfl) ?_
            refine lv_iload_n hx hb dX6_byLot_33 rfl (lv_at hl 4 rfl) ?_
            refine lv_icmp_ge (tgt := 87) hx hb dX6_byLot_34 (by decide) (fun c34_2 => ?_) (fun c34_2 => ?_)
            · replace c34_2 : nd ≤ q := (nI_leI (show nd < 2147483648 by omega) (show q < 2147483648 by omega)).mp c34_2
              refine lv_aload_n hx hb dX6_byLot_87 rfl (lv_at hl 2 rfl) ?_
              refine lv_bipush (v := nI 28) hx hb dX6_byLot_88 (by decide) ?_
              refine g_ci (va_runV (As := [.int (nI (28))]) (rest := []) ⟨hx, hb, hml, hown, hts⟩ (c_X6_alikeMet l D G ad hI (dwM J z q) 28 (show 28 + 4 ≤ 33 by omega)) (cwV 1 hts gX6_byLot_X6_alikeMet rfl rfl rfl (by decide +kernel) ⟨Nat.le_of_ble_eq_true rfl, Nat.le_of_ble_eq_true rfl⟩) (g_preV hK hW 0 (0) (mM (by decide) (by decide)) rfl rfl) rfl rfl hl.1 rfl (lv_room (Nat.le_of_ble_eq_true rfl)) dX6_byLot_90 ⟨Nat.le_refl _, Nat.le_refl _⟩) hS (fun x4 I4 H locs hp hW hS => ?_)
              obtain ⟨ex4, eI4⟩ := hp
              rw [eI4] at hW
              clear eI4
              refine r_top ex4 ?_
              rw [hQ]
              exact g_iret (wd := wM G ad) hx hb hr rfl hlocks hW hS (by have e4 : q = nd := (by omega); subst e4; subst ex4; exact ⟨rfl, rfl⟩) dX6_byLot_93
            · replace c34_2 : ¬ (nd ≤ q) := fun h => c34_2 ((nI_leI (show nd < 2147483648 by omega) (show q < 2147483648 by omega)).mpr h)
              refine lv_iload_n hx hb dX6_byLot_37 rfl (lv_at hl 1 rfl) ?_
              refine lv_ldc (v := (1103515245)) hx hb hown (hts (.constant RX6 209 (1103515245)) (by decide +kernel)) dX6_byLot_38 ?_
              refine lv_imul hx hb dX6_byLot_40 (lv_topi (fun x5 ex5 => ?_))
              refine lv_sipush (v := nI 12345) hx hb dX6_byLot_41 (by decide) ?_
              refine lv_iadd hx hb dX6_byLot_44 (lv_topi (fun x6 ex6 => ?_))
              refine lv_istore_n (lv' := [(3, .int (x6)), (4, .int (nI (q))), (0, .ref (ad 0 (0))), (1, .int (z)), (2, .int (nI (nd)))]) hx hb dX6_byLot_45 rfl hl (by decide) rfl (fun ls hl => ?_)
              refine lv_iload_n hx hb dX6_byLot_46 rfl (lv_at hl 0 rfl) ?_
              refine lv_bipush (v := nI 9) hx hb dX6_byLot_47 (by decide) ?_
              have hlt49 := (x6).toBitVec.isLt
              refine lv_iushr hx hb dX6_byLot_49 rfl (r_top (us9 _) ?_)
              refine lv_iconst (v := nI 4) hx hb dX6_byLot_50 (by decide) ?_
              refine lv_irem hx hb dX6_byLot_51 (by decide) (r_top (pk_rem (show x6.toBitVec.toNat / 512 < 2147483648 by omega) (by decide) (by decide)) ?_)
              refine lv_istore (lv' := [(5, .int (nI ((x6.toBitVec.toNat / 512) % 4))), (3, .int (x6)), (4, .int (nI (q))), (0, .ref (ad 0 (0))), (1, .int (z)), (2, .int (nI (nd)))]) hx hb dX6_byLot_52 hl (by decide) rfl (fun ls hl => ?_)
              refine lv_iload_n hx hb dX6_byLot_54 rfl (lv_at hl 1 rfl) ?_
              refine lv_ldc (v := (1103515245)) hx hb hown (hts (.constant RX6 209 (1103515245)) (by decide +kernel)) dX6_byLot_55 ?_
              refine lv_imul hx hb dX6_byLot_57 (lv_topi (fun x7 ex7 => ?_))
              refine lv_sipush (v := nI 12345) hx hb dX6_byLot_58 (by decide) ?_
              refine lv_iadd hx hb dX6_byLot_61 (lv_topi (fun x8 ex8 => ?_))
              refine lv_istore_n (lv' := [(3, .int (x8)), (5, .int (nI ((x6.toBitVec.toNat / 512) % 4))), (4, .int (nI (q))), (0, .ref (ad 0 (0))), (1, .int (z)), (2, .int (nI (nd)))]) hx hb dX6_byLot_62 rfl hl (by decide) rfl (fun ls hl => ?_)
              refine lv_aload_n hx hb dX6_byLot_63 rfl (lv_at hl 3 rfl) ?_
              refine lv_bipush (v := nI 28) hx hb dX6_byLot_64 (by decide) ?_
              refine lv_iload_n hx hb dX6_byLot_66 rfl (lv_at hl 0 rfl) ?_
              refine lv_bipush (v := nI 9) hx hb dX6_byLot_67 (by decide) ?_
              have hlt69 := (x8).toBitVec.isLt
              refine lv_iushr hx hb dX6_byLot_69 rfl (r_top (us9 _) ?_)
              refine lv_iconst (v := nI 4) hx hb dX6_byLot_70 (by decide) ?_
              refine lv_irem hx hb dX6_byLot_71 (by decide) (r_top (pk_rem (show x8.toBitVec.toNat / 512 < 2147483648 by omega) (by decide) (by decide)) ?_)
              refine lv_iadd hx hb dX6_byLot_72 (r_top (nI_add _ _) ?_)
              refine lv_bipush (v := nI 28) hx hb dX6_byLot_73 (by decide) ?_
              refine lv_iload hx hb dX6_byLot_75 (lv_at hl 1 rfl) ?_
              refine lv_iadd hx hb dX6_byLot_77 (r_top (nI_add _ _) ?_)
              refine g_cv (va_runV (As := [.int (nI (28 + ((x8.toBitVec.toNat / 512) % 4))), .int (nI (28 + ((x6.toBitVec.toNat / 512) % 4)))]) (rest := []) ⟨hx, hb, hml, hown, hts⟩ (c_X6_join l D G ad hI (dwM J z q) (28 + ((x8.toBitVec.toNat / 512) % 4)) (28 + ((x6.toBitVec.toNat / 512) % 4)) (show 28 + ((x8.toBitVec.toNat / 512) % 4) < 33 by omega) (show 28 + ((x6.toBitVec.toNat / 512) % 4) < 33 by omega)) (cwV 2 hts gX6_byLot_X6_join rfl rfl rfl (by decide +kernel) ⟨Nat.le_of_ble_eq_true rfl, Nat.le_of_ble_eq_true rfl⟩) (g_preV hK hW 0 (0) (mM (by decide) (by decide)) rfl rfl) rfl rfl hl.1 rfl (lv_room (Nat.le_of_ble_eq_true rfl)) dX6_byLot_78 ⟨Nat.le_refl _, Nat.le_refl _⟩) hS (fun I9 H locs hp hW hS => ?_)
              have eI9 : I9 = jn (dwM J z q) (28 + ((x8.toBitVec.toNat / 512) % 4)) (28 + ((x6.toBitVec.toNat / 512) % 4)) := hp
              refine lv_iinc (v := nI (q + 1)) (lv' := [(4, .int (nI (q + 1))), (3, .int (x8)), (5, .int (nI ((x6.toBitVec.toNat / 512) % 4))), (0, .ref (ad 0 (0))), (1, .int (z)), (2, .int (nI (nd)))]) hx hb dX6_byLot_81 hl (k := 2) rfl (nI_inc q 1) (by decide) rfl (fun ls hl => ?_)
              refine lv_goto (tgt := 31) hx hb dX6_byLot_84 (by decide) ?_
              have e9 : I9 = dwM J z (q + 1) := by
                subst eI9 ex8 ex7 ex6 ex5
                rw [hy, n12345]
                rfl
              have hW9 := hW
              rw [e9] at hW9
              exact ih31 (q + 1) (x8) (by omega) (by subst eI9 ex8 ex7 ex6 ex5; rw [hy, n12345]; rfl) (by omega) _ _ hW9 hS _ (lv_sub hl [0, 1, 3, 4, 5] rfl)
        have e9 : asM J i = dwM J z 0 := by
          have e4 : i = 4 := (by omega)
          subst e4
          rfl
        have hW9 := hW
        rw [e9] at hW9
        exact K31 (nd + 1) (0) (z) (Nat.zero_le _) rfl (by omega) _ _ hW9 hS _ (lv_sub hl [0, 1, 2, 3, 4] rfl)
      · replace c8_1 : ¬ (4 ≤ i) := fun h => c8_1 ((nI_leI (show 4 < 2147483648 by omega) (show i < 2147483648 by omega)).mpr h)
        refine lv_aload_n hx hb dX6_byLot_11 rfl (lv_at hl 1 rfl) ?_
        refine lv_iload_n hx hb dX6_byLot_12 rfl (lv_at hl 0 rfl) ?_
        refine lv_bipush (v := nI 28) hx hb dX6_byLot_13 (by decide) ?_
        refine lv_iload_n hx hb dX6_byLot_15 rfl (lv_at hl 0 rfl) ?_
        refine lv_iadd hx hb dX6_byLot_16 (r_top (nI_add _ _) ?_)
        refine g_cv (va_runV (As := [.int (nI (i)), .int (nI (28 + i))]) (rest := []) ⟨hx, hb, hml, hown, hts⟩ (c_X6_again l D G ad hI (asM J i) i (28 + i) (show i < 33 by omega) (show 28 + i < 33 by omega)) (cwV 2 hts gX6_byLot_X6_again rfl rfl rfl (by decide +kernel) ⟨Nat.le_of_ble_eq_true rfl, Nat.le_of_ble_eq_true rfl⟩) (g_preV hK hW 0 (0) (mM (by decide) (by decide)) rfl rfl) rfl rfl hl.1 rfl (lv_room (Nat.le_of_ble_eq_true rfl)) dX6_byLot_17 ⟨Nat.le_refl _, Nat.le_refl _⟩) hS (fun I10 H locs hp hW hS => ?_)
        have eI10 : I10 = cpy (asM J i) (28 + i) i := hp
        refine lv_iinc (v := nI (i + 1)) (lv' := [(3, .int (nI (i + 1))), (0, .ref (ad 0 (0))), (1, .int (z)), (2, .int (nI (nd)))]) hx hb dX6_byLot_20 hl (k := 0) rfl (nI_inc i 1) (by decide) rfl (fun ls hl => ?_)
        refine lv_goto (tgt := 6) hx hb dX6_byLot_23 (by decide) ?_
        have e9 : I10 = asM J (i + 1) := by
          subst eI10
          rfl
        have hW9 := hW
        rw [e9] at hW9
        exact ih6 (i + 1) (by omega) (by omega) _ _ hW9 hS _ (lv_sub hl [0, 1, 2, 3] rfl)
  have e9 : I1 = asM J 0 := by
    subst eI1
    rfl
  have hW9 := hW
  rw [e9] at hW9
  exact K6 (4 + 1) (0) (by omega) (by omega) _ _ hW9 hS _ (lv_sub hl [0, 1, 2, 3] rfl)

set_option maxHeartbeats 4000000 in
set_option maxRecDepth 100000 in
theorem c_X6_drawn (l : Launch) (D : va_G) (G : Nat → ClassId) (ad : Nat → Nat → Nat) (hI : wI LM ad) (J : St) (z d : Int32) : Met l yX6_drawn wsX6_drawn ({ frames := 4, cells := 0, slots := 0, locals := 132 } : Room) (gPre D G LM ad [.ref (ad 0 (0)), .int (z), .int (d)] (wM G ad J)) (gQi D LM ad (wM G ad) (fun r9 u => r9 = (if okN (nI 21) d = true then nI (lotM J z (tn d)) else -2) ∧ Sm gM J u)) 0 0 (wA LM ad) := by
  refine g_entry (C := RX6) (cc := cX6_drawn) (maxL := 3) (ret := (some .int)) rfl (by decide) rfl (Nat.le_of_ble_eq_true rfl) (fun p e s m args below meth c Q ls hQ hx hb hr hts hown hlocks hml hW hK hl => ?_)
  have hl : lv_has ls 3 [(0, .ref (ad 0 (0))), (1, .int (z)), (2, .int (d))] := hl
  have hS := va_S.rf (A := wA LM ad) (H0 := s.heap)
  refine lv_iload_n hx hb dX6_drawn_0 rfl (lv_at hl 2 rfl) ?_
  refine lv_i2l hx hb dX6_drawn_1 rfl ?_
  refine lv_lconst (v := lN 0) hx hb dX6_drawn_2 (by decide) ?_
  refine lv_ldc2 (v := (20)) hx hb hown (hts (.constantLong RX6 213 (20)) (by decide +kernel)) dX6_drawn_3 ?_
  refine g_pi (va_runS (As := [.long (d.toInt64), .long (lN 0), .long ((20))]) (rest := []) ⟨hx, hb, hml, hown, hts⟩ (c_X6_inB l d.toInt64 (lN 0) ((20)) (okN (nI 21) d) (inL_N (k := 21) (by decide) (by decide) _)) (va_cwS 3 hts gX6_drawn_X6_in rfl rfl rfl (by decide +kernel) ⟨Nat.le_of_ble_eq_true rfl, Nat.le_of_ble_eq_true rfl⟩) p_preS rfl rfl hl.1 rfl (lv_room (Nat.le_of_ble_eq_true rfl)) dX6_drawn_6 ⟨Nat.le_refl _, Nat.le_refl _⟩) hW hS (fun H locs hW hS => ?_)
  refine lv_if_eq (tgt := 21) hx hb dX6_drawn_9 (by decide) (fun c9_0 => ?_) (fun c9_0 => ?_)
  · replace c9_0 := bI_0.mp c9_0
    try simp only [decide_eq_true_eq, decide_eq_false_iff_not] at c9_0
    refine lv_bipush (v := (-2)) hx hb dX6_drawn_21 (by decide) ?_
    rw [hQ]
    exact g_iret (wd := wM G ad) hx hb hr rfl hlocks hW hS (by refine ⟨?_, Sm.rf⟩; simp [c9_0]) dX6_drawn_23
  · replace c9_0 := bI_1.mp c9_0
    obtain ⟨dN, hdN, edN⟩ := okN_nI (k := 21) (by decide) c9_0
    subst edN
    have t_dN : tn (nI dN) = dN := tn_nI (by omega)
    have k_dN : okN (nI 21) (nI dN) = true := okN_of (by decide) hdN
    refine lv_aload_n hx hb dX6_drawn_12 rfl (lv_at hl 0 rfl) ?_
    refine lv_iload_n hx hb dX6_drawn_13 rfl (lv_at hl 1 rfl) ?_
    refine lv_iload_n hx hb dX6_drawn_14 rfl (lv_at hl 2 rfl) ?_
    refine g_ci (va_runV (As := [.int (z), .int (nI (dN))]) (rest := []) ⟨hx, hb, hml, hown, hts⟩ (c_X6_byLot l D G ad hI J z dN (show dN ≤ 20 by omega)) (cwV 2 hts gX6_drawn_X6_byLot rfl rfl rfl (by decide +kernel) ⟨Nat.le_of_ble_eq_true rfl, Nat.le_of_ble_eq_true rfl⟩) (g_preV hK hW 0 (0) (mM (by decide) (by decide)) rfl rfl) rfl rfl hl.1 rfl (lv_room (Nat.le_of_ble_eq_true rfl)) dX6_drawn_15 ⟨Nat.le_refl _, Nat.le_refl _⟩) hS (fun x2 I2 H locs hp hW hS => ?_)
    obtain ⟨ex2, eI2⟩ := hp
    refine r_top ex2 ?_
    refine lv_goto (tgt := 23) hx hb dX6_drawn_18 (by decide) ?_
    rw [hQ]
    exact g_iret (wd := wM G ad) hx hb hr rfl hlocks hW hS (by subst eI2 ex2; refine ⟨?_, sq_dw Sm.rf _ _⟩; rw [if_pos (by simp [k_dN])]; simp only [t_dN]) dX6_drawn_23

set_option maxHeartbeats 4000000 in
set_option maxRecDepth 100000 in
theorem c_X6_common_0 (l : Launch) (a b : Nat) (ha : a ≤ 8) (hb1 : b ≤ 0) : Met l yX6_common wsX6_common ({ frames := 0, cells := 0, slots := 0, locals := 0 } : Room) (pPre [.int (nI (a)), .int (nI (b))]) (pQi (nI (Nat.gcd b a))) 0 0 (fun _ => False) := by
  refine p_entry (C := RX6) (cc := cX6_common) (maxL := 2) (ret := (some .int)) rfl (by decide) rfl (Nat.le_of_ble_eq_true rfl) (fun p e s m args below meth c Q ls hQ hx hb hr hts hown hlocks hml hl => ?_)
  have hl : lv_has ls 2 [(0, .int (nI (a))), (1, .int (nI (b)))] := hl
  have hS := va_S.rf (A := fun _ => False) (H0 := s.heap)
  refine lv_iload_n hx hb dX6_common_0 rfl (lv_at hl 1 rfl) ?_
  refine lv_if_ne (tgt := 8) hx hb dX6_common_1 (by decide) (fun c1_0 => absurd c1_0 (fun h => h (by have e0 : b = 0 := (by omega); rw [e0]; rfl))) (fun c1_0 => ?_)
  replace c1_0 : b = 0 := (nI_eq (show b < 2147483648 by omega) (show 0 < 2147483648 by omega)).mp c1_0
  refine lv_iload_n hx hb dX6_common_4 rfl (lv_at hl 0 rfl) ?_
  refine lv_goto (tgt := 15) hx hb dX6_common_5 (by decide) ?_
  rw [hQ]
  exact p_iret hx hb hr rfl hlocks hS (by rw [c1_0, Nat.gcd_zero_left]) dX6_common_15

set_option maxHeartbeats 4000000 in
set_option maxRecDepth 100000 in
theorem c_X6_common_1 (l : Launch) (a b : Nat) (ha : a ≤ 8) (hb1 : b ≤ 1) : Met l yX6_common wsX6_common ({ frames := 1, cells := 0, slots := 0, locals := 21 } : Room) (pPre [.int (nI (a)), .int (nI (b))]) (pQi (nI (Nat.gcd b a))) 0 0 (fun _ => False) := by
  refine p_entry (C := RX6) (cc := cX6_common) (maxL := 2) (ret := (some .int)) rfl (by decide) rfl (Nat.le_of_ble_eq_true rfl) (fun p e s m args below meth c Q ls hQ hx hb hr hts hown hlocks hml hl => ?_)
  have hl : lv_has ls 2 [(0, .int (nI (a))), (1, .int (nI (b)))] := hl
  have hS := va_S.rf (A := fun _ => False) (H0 := s.heap)
  refine lv_iload_n hx hb dX6_common_0 rfl (lv_at hl 1 rfl) ?_
  refine lv_if_ne (tgt := 8) hx hb dX6_common_1 (by decide) (fun c1_0 => ?_) (fun c1_0 => ?_)
  · replace c1_0 : ¬ b = 0 := fun h => c1_0 ((nI_eq (show b < 2147483648 by omega) (show 0 < 2147483648 by omega)).mpr h)
    refine lv_iload_n hx hb dX6_common_8 rfl (lv_at hl 1 rfl) ?_
    refine lv_iload_n hx hb dX6_common_9 rfl (lv_at hl 0 rfl) ?_
    refine lv_iload_n hx hb dX6_common_10 rfl (lv_at hl 1 rfl) ?_
    have hmd := Nat.mod_lt a (show b > 0 by omega)
    refine lv_irem hx hb dX6_common_11 (nI_ne0 (by omega) (by omega)) (r_top (pk_rem (show a < 2147483648 by omega) (show 0 < b by omega) (show b < 2147483648 by omega)) ?_)
    refine q_pi (va_runS (As := [.int (nI (b)), .int (nI (a % b))]) (rest := []) ⟨hx, hb, hml, hown, hts⟩ (c_X6_common_0 l (b) (a % b) (by omega) (by omega)) (va_cwS 2 hts gX6_common_X6_common rfl rfl rfl (by decide +kernel) ⟨Nat.le_of_ble_eq_true rfl, Nat.le_of_ble_eq_true rfl⟩) p_preS rfl rfl hl.1 rfl (lv_room (Nat.le_of_ble_eq_true rfl)) dX6_common_12 ⟨Nat.le_refl _, Nat.le_refl _⟩) hS (fun H locs hS => ?_)
    rw [hQ]
    exact p_iret hx hb hr rfl hlocks hS (by rw [Nat.gcd_rec b a]) dX6_common_15
  · replace c1_0 : b = 0 := (nI_eq (show b < 2147483648 by omega) (show 0 < 2147483648 by omega)).mp c1_0
    refine lv_iload_n hx hb dX6_common_4 rfl (lv_at hl 0 rfl) ?_
    refine lv_goto (tgt := 15) hx hb dX6_common_5 (by decide) ?_
    rw [hQ]
    exact p_iret hx hb hr rfl hlocks hS (by rw [c1_0, Nat.gcd_zero_left]) dX6_common_15

set_option maxHeartbeats 4000000 in
set_option maxRecDepth 100000 in
theorem c_X6_common_2 (l : Launch) (a b : Nat) (ha : a ≤ 8) (hb1 : b ≤ 2) : Met l yX6_common wsX6_common ({ frames := 2, cells := 0, slots := 0, locals := 42 } : Room) (pPre [.int (nI (a)), .int (nI (b))]) (pQi (nI (Nat.gcd b a))) 0 0 (fun _ => False) := by
  refine p_entry (C := RX6) (cc := cX6_common) (maxL := 2) (ret := (some .int)) rfl (by decide) rfl (Nat.le_of_ble_eq_true rfl) (fun p e s m args below meth c Q ls hQ hx hb hr hts hown hlocks hml hl => ?_)
  have hl : lv_has ls 2 [(0, .int (nI (a))), (1, .int (nI (b)))] := hl
  have hS := va_S.rf (A := fun _ => False) (H0 := s.heap)
  refine lv_iload_n hx hb dX6_common_0 rfl (lv_at hl 1 rfl) ?_
  refine lv_if_ne (tgt := 8) hx hb dX6_common_1 (by decide) (fun c1_0 => ?_) (fun c1_0 => ?_)
  · replace c1_0 : ¬ b = 0 := fun h => c1_0 ((nI_eq (show b < 2147483648 by omega) (show 0 < 2147483648 by omega)).mpr h)
    refine lv_iload_n hx hb dX6_common_8 rfl (lv_at hl 1 rfl) ?_
    refine lv_iload_n hx hb dX6_common_9 rfl (lv_at hl 0 rfl) ?_
    refine lv_iload_n hx hb dX6_common_10 rfl (lv_at hl 1 rfl) ?_
    have hmd := Nat.mod_lt a (show b > 0 by omega)
    refine lv_irem hx hb dX6_common_11 (nI_ne0 (by omega) (by omega)) (r_top (pk_rem (show a < 2147483648 by omega) (show 0 < b by omega) (show b < 2147483648 by omega)) ?_)
    refine q_pi (va_runS (As := [.int (nI (b)), .int (nI (a % b))]) (rest := []) ⟨hx, hb, hml, hown, hts⟩ (c_X6_common_1 l (b) (a % b) (by omega) (by omega)) (va_cwS 2 hts gX6_common_X6_common rfl rfl rfl (by decide +kernel) ⟨Nat.le_of_ble_eq_true rfl, Nat.le_of_ble_eq_true rfl⟩) p_preS rfl rfl hl.1 rfl (lv_room (Nat.le_of_ble_eq_true rfl)) dX6_common_12 ⟨Nat.le_refl _, Nat.le_refl _⟩) hS (fun H locs hS => ?_)
    rw [hQ]
    exact p_iret hx hb hr rfl hlocks hS (by rw [Nat.gcd_rec b a]) dX6_common_15
  · replace c1_0 : b = 0 := (nI_eq (show b < 2147483648 by omega) (show 0 < 2147483648 by omega)).mp c1_0
    refine lv_iload_n hx hb dX6_common_4 rfl (lv_at hl 0 rfl) ?_
    refine lv_goto (tgt := 15) hx hb dX6_common_5 (by decide) ?_
    rw [hQ]
    exact p_iret hx hb hr rfl hlocks hS (by rw [c1_0, Nat.gcd_zero_left]) dX6_common_15

set_option maxHeartbeats 4000000 in
set_option maxRecDepth 100000 in
theorem c_X6_common_3 (l : Launch) (a b : Nat) (ha : a ≤ 8) (hb1 : b ≤ 3) : Met l yX6_common wsX6_common ({ frames := 3, cells := 0, slots := 0, locals := 63 } : Room) (pPre [.int (nI (a)), .int (nI (b))]) (pQi (nI (Nat.gcd b a))) 0 0 (fun _ => False) := by
  refine p_entry (C := RX6) (cc := cX6_common) (maxL := 2) (ret := (some .int)) rfl (by decide) rfl (Nat.le_of_ble_eq_true rfl) (fun p e s m args below meth c Q ls hQ hx hb hr hts hown hlocks hml hl => ?_)
  have hl : lv_has ls 2 [(0, .int (nI (a))), (1, .int (nI (b)))] := hl
  have hS := va_S.rf (A := fun _ => False) (H0 := s.heap)
  refine lv_iload_n hx hb dX6_common_0 rfl (lv_at hl 1 rfl) ?_
  refine lv_if_ne (tgt := 8) hx hb dX6_common_1 (by decide) (fun c1_0 => ?_) (fun c1_0 => ?_)
  · replace c1_0 : ¬ b = 0 := fun h => c1_0 ((nI_eq (show b < 2147483648 by omega) (show 0 < 2147483648 by omega)).mpr h)
    refine lv_iload_n hx hb dX6_common_8 rfl (lv_at hl 1 rfl) ?_
    refine lv_iload_n hx hb dX6_common_9 rfl (lv_at hl 0 rfl) ?_
    refine lv_iload_n hx hb dX6_common_10 rfl (lv_at hl 1 rfl) ?_
    have hmd := Nat.mod_lt a (show b > 0 by omega)
    refine lv_irem hx hb dX6_common_11 (nI_ne0 (by omega) (by omega)) (r_top (pk_rem (show a < 2147483648 by omega) (show 0 < b by omega) (show b < 2147483648 by omega)) ?_)
    refine q_pi (va_runS (As := [.int (nI (b)), .int (nI (a % b))]) (rest := []) ⟨hx, hb, hml, hown, hts⟩ (c_X6_common_2 l (b) (a % b) (by omega) (by omega)) (va_cwS 2 hts gX6_common_X6_common rfl rfl rfl (by decide +kernel) ⟨Nat.le_of_ble_eq_true rfl, Nat.le_of_ble_eq_true rfl⟩) p_preS rfl rfl hl.1 rfl (lv_room (Nat.le_of_ble_eq_true rfl)) dX6_common_12 ⟨Nat.le_refl _, Nat.le_refl _⟩) hS (fun H locs hS => ?_)
    rw [hQ]
    exact p_iret hx hb hr rfl hlocks hS (by rw [Nat.gcd_rec b a]) dX6_common_15
  · replace c1_0 : b = 0 := (nI_eq (show b < 2147483648 by omega) (show 0 < 2147483648 by omega)).mp c1_0
    refine lv_iload_n hx hb dX6_common_4 rfl (lv_at hl 0 rfl) ?_
    refine lv_goto (tgt := 15) hx hb dX6_common_5 (by decide) ?_
    rw [hQ]
    exact p_iret hx hb hr rfl hlocks hS (by rw [c1_0, Nat.gcd_zero_left]) dX6_common_15

set_option maxHeartbeats 4000000 in
set_option maxRecDepth 100000 in
theorem c_X6_common_4 (l : Launch) (a b : Nat) (ha : a ≤ 8) (hb1 : b ≤ 4) : Met l yX6_common wsX6_common ({ frames := 4, cells := 0, slots := 0, locals := 84 } : Room) (pPre [.int (nI (a)), .int (nI (b))]) (pQi (nI (Nat.gcd b a))) 0 0 (fun _ => False) := by
  refine p_entry (C := RX6) (cc := cX6_common) (maxL := 2) (ret := (some .int)) rfl (by decide) rfl (Nat.le_of_ble_eq_true rfl) (fun p e s m args below meth c Q ls hQ hx hb hr hts hown hlocks hml hl => ?_)
  have hl : lv_has ls 2 [(0, .int (nI (a))), (1, .int (nI (b)))] := hl
  have hS := va_S.rf (A := fun _ => False) (H0 := s.heap)
  refine lv_iload_n hx hb dX6_common_0 rfl (lv_at hl 1 rfl) ?_
  refine lv_if_ne (tgt := 8) hx hb dX6_common_1 (by decide) (fun c1_0 => ?_) (fun c1_0 => ?_)
  · replace c1_0 : ¬ b = 0 := fun h => c1_0 ((nI_eq (show b < 2147483648 by omega) (show 0 < 2147483648 by omega)).mpr h)
    refine lv_iload_n hx hb dX6_common_8 rfl (lv_at hl 1 rfl) ?_
    refine lv_iload_n hx hb dX6_common_9 rfl (lv_at hl 0 rfl) ?_
    refine lv_iload_n hx hb dX6_common_10 rfl (lv_at hl 1 rfl) ?_
    have hmd := Nat.mod_lt a (show b > 0 by omega)
    refine lv_irem hx hb dX6_common_11 (nI_ne0 (by omega) (by omega)) (r_top (pk_rem (show a < 2147483648 by omega) (show 0 < b by omega) (show b < 2147483648 by omega)) ?_)
    refine q_pi (va_runS (As := [.int (nI (b)), .int (nI (a % b))]) (rest := []) ⟨hx, hb, hml, hown, hts⟩ (c_X6_common_3 l (b) (a % b) (by omega) (by omega)) (va_cwS 2 hts gX6_common_X6_common rfl rfl rfl (by decide +kernel) ⟨Nat.le_of_ble_eq_true rfl, Nat.le_of_ble_eq_true rfl⟩) p_preS rfl rfl hl.1 rfl (lv_room (Nat.le_of_ble_eq_true rfl)) dX6_common_12 ⟨Nat.le_refl _, Nat.le_refl _⟩) hS (fun H locs hS => ?_)
    rw [hQ]
    exact p_iret hx hb hr rfl hlocks hS (by rw [Nat.gcd_rec b a]) dX6_common_15
  · replace c1_0 : b = 0 := (nI_eq (show b < 2147483648 by omega) (show 0 < 2147483648 by omega)).mp c1_0
    refine lv_iload_n hx hb dX6_common_4 rfl (lv_at hl 0 rfl) ?_
    refine lv_goto (tgt := 15) hx hb dX6_common_5 (by decide) ?_
    rw [hQ]
    exact p_iret hx hb hr rfl hlocks hS (by rw [c1_0, Nat.gcd_zero_left]) dX6_common_15

set_option maxHeartbeats 4000000 in
set_option maxRecDepth 100000 in
theorem c_X6_common_5 (l : Launch) (a b : Nat) (ha : a ≤ 8) (hb1 : b ≤ 5) : Met l yX6_common wsX6_common ({ frames := 5, cells := 0, slots := 0, locals := 105 } : Room) (pPre [.int (nI (a)), .int (nI (b))]) (pQi (nI (Nat.gcd b a))) 0 0 (fun _ => False) := by
  refine p_entry (C := RX6) (cc := cX6_common) (maxL := 2) (ret := (some .int)) rfl (by decide) rfl (Nat.le_of_ble_eq_true rfl) (fun p e s m args below meth c Q ls hQ hx hb hr hts hown hlocks hml hl => ?_)
  have hl : lv_has ls 2 [(0, .int (nI (a))), (1, .int (nI (b)))] := hl
  have hS := va_S.rf (A := fun _ => False) (H0 := s.heap)
  refine lv_iload_n hx hb dX6_common_0 rfl (lv_at hl 1 rfl) ?_
  refine lv_if_ne (tgt := 8) hx hb dX6_common_1 (by decide) (fun c1_0 => ?_) (fun c1_0 => ?_)
  · replace c1_0 : ¬ b = 0 := fun h => c1_0 ((nI_eq (show b < 2147483648 by omega) (show 0 < 2147483648 by omega)).mpr h)
    refine lv_iload_n hx hb dX6_common_8 rfl (lv_at hl 1 rfl) ?_
    refine lv_iload_n hx hb dX6_common_9 rfl (lv_at hl 0 rfl) ?_
    refine lv_iload_n hx hb dX6_common_10 rfl (lv_at hl 1 rfl) ?_
    have hmd := Nat.mod_lt a (show b > 0 by omega)
    refine lv_irem hx hb dX6_common_11 (nI_ne0 (by omega) (by omega)) (r_top (pk_rem (show a < 2147483648 by omega) (show 0 < b by omega) (show b < 2147483648 by omega)) ?_)
    refine q_pi (va_runS (As := [.int (nI (b)), .int (nI (a % b))]) (rest := []) ⟨hx, hb, hml, hown, hts⟩ (c_X6_common_4 l (b) (a % b) (by omega) (by omega)) (va_cwS 2 hts gX6_common_X6_common rfl rfl rfl (by decide +kernel) ⟨Nat.le_of_ble_eq_true rfl, Nat.le_of_ble_eq_true rfl⟩) p_preS rfl rfl hl.1 rfl (lv_room (Nat.le_of_ble_eq_true rfl)) dX6_common_12 ⟨Nat.le_refl _, Nat.le_refl _⟩) hS (fun H locs hS => ?_)
    rw [hQ]
    exact p_iret hx hb hr rfl hlocks hS (by rw [Nat.gcd_rec b a]) dX6_common_15
  · replace c1_0 : b = 0 := (nI_eq (show b < 2147483648 by omega) (show 0 < 2147483648 by omega)).mp c1_0
    refine lv_iload_n hx hb dX6_common_4 rfl (lv_at hl 0 rfl) ?_
    refine lv_goto (tgt := 15) hx hb dX6_common_5 (by decide) ?_
    rw [hQ]
    exact p_iret hx hb hr rfl hlocks hS (by rw [c1_0, Nat.gcd_zero_left]) dX6_common_15

set_option maxHeartbeats 4000000 in
set_option maxRecDepth 100000 in
theorem c_X6_common_6 (l : Launch) (a b : Nat) (ha : a ≤ 8) (hb1 : b ≤ 6) : Met l yX6_common wsX6_common ({ frames := 6, cells := 0, slots := 0, locals := 126 } : Room) (pPre [.int (nI (a)), .int (nI (b))]) (pQi (nI (Nat.gcd b a))) 0 0 (fun _ => False) := by
  refine p_entry (C := RX6) (cc := cX6_common) (maxL := 2) (ret := (some .int)) rfl (by decide) rfl (Nat.le_of_ble_eq_true rfl) (fun p e s m args below meth c Q ls hQ hx hb hr hts hown hlocks hml hl => ?_)
  have hl : lv_has ls 2 [(0, .int (nI (a))), (1, .int (nI (b)))] := hl
  have hS := va_S.rf (A := fun _ => False) (H0 := s.heap)
  refine lv_iload_n hx hb dX6_common_0 rfl (lv_at hl 1 rfl) ?_
  refine lv_if_ne (tgt := 8) hx hb dX6_common_1 (by decide) (fun c1_0 => ?_) (fun c1_0 => ?_)
  · replace c1_0 : ¬ b = 0 := fun h => c1_0 ((nI_eq (show b < 2147483648 by omega) (show 0 < 2147483648 by omega)).mpr h)
    refine lv_iload_n hx hb dX6_common_8 rfl (lv_at hl 1 rfl) ?_
    refine lv_iload_n hx hb dX6_common_9 rfl (lv_at hl 0 rfl) ?_
    refine lv_iload_n hx hb dX6_common_10 rfl (lv_at hl 1 rfl) ?_
    have hmd := Nat.mod_lt a (show b > 0 by omega)
    refine lv_irem hx hb dX6_common_11 (nI_ne0 (by omega) (by omega)) (r_top (pk_rem (show a < 2147483648 by omega) (show 0 < b by omega) (show b < 2147483648 by omega)) ?_)
    refine q_pi (va_runS (As := [.int (nI (b)), .int (nI (a % b))]) (rest := []) ⟨hx, hb, hml, hown, hts⟩ (c_X6_common_5 l (b) (a % b) (by omega) (by omega)) (va_cwS 2 hts gX6_common_X6_common rfl rfl rfl (by decide +kernel) ⟨Nat.le_of_ble_eq_true rfl, Nat.le_of_ble_eq_true rfl⟩) p_preS rfl rfl hl.1 rfl (lv_room (Nat.le_of_ble_eq_true rfl)) dX6_common_12 ⟨Nat.le_refl _, Nat.le_refl _⟩) hS (fun H locs hS => ?_)
    rw [hQ]
    exact p_iret hx hb hr rfl hlocks hS (by rw [Nat.gcd_rec b a]) dX6_common_15
  · replace c1_0 : b = 0 := (nI_eq (show b < 2147483648 by omega) (show 0 < 2147483648 by omega)).mp c1_0
    refine lv_iload_n hx hb dX6_common_4 rfl (lv_at hl 0 rfl) ?_
    refine lv_goto (tgt := 15) hx hb dX6_common_5 (by decide) ?_
    rw [hQ]
    exact p_iret hx hb hr rfl hlocks hS (by rw [c1_0, Nat.gcd_zero_left]) dX6_common_15

set_option maxHeartbeats 4000000 in
set_option maxRecDepth 100000 in
theorem c_X6_common_7 (l : Launch) (a b : Nat) (ha : a ≤ 8) (hb1 : b ≤ 7) : Met l yX6_common wsX6_common ({ frames := 7, cells := 0, slots := 0, locals := 147 } : Room) (pPre [.int (nI (a)), .int (nI (b))]) (pQi (nI (Nat.gcd b a))) 0 0 (fun _ => False) := by
  refine p_entry (C := RX6) (cc := cX6_common) (maxL := 2) (ret := (some .int)) rfl (by decide) rfl (Nat.le_of_ble_eq_true rfl) (fun p e s m args below meth c Q ls hQ hx hb hr hts hown hlocks hml hl => ?_)
  have hl : lv_has ls 2 [(0, .int (nI (a))), (1, .int (nI (b)))] := hl
  have hS := va_S.rf (A := fun _ => False) (H0 := s.heap)
  refine lv_iload_n hx hb dX6_common_0 rfl (lv_at hl 1 rfl) ?_
  refine lv_if_ne (tgt := 8) hx hb dX6_common_1 (by decide) (fun c1_0 => ?_) (fun c1_0 => ?_)
  · replace c1_0 : ¬ b = 0 := fun h => c1_0 ((nI_eq (show b < 2147483648 by omega) (show 0 < 2147483648 by omega)).mpr h)
    refine lv_iload_n hx hb dX6_common_8 rfl (lv_at hl 1 rfl) ?_
    refine lv_iload_n hx hb dX6_common_9 rfl (lv_at hl 0 rfl) ?_
    refine lv_iload_n hx hb dX6_common_10 rfl (lv_at hl 1 rfl) ?_
    have hmd := Nat.mod_lt a (show b > 0 by omega)
    refine lv_irem hx hb dX6_common_11 (nI_ne0 (by omega) (by omega)) (r_top (pk_rem (show a < 2147483648 by omega) (show 0 < b by omega) (show b < 2147483648 by omega)) ?_)
    refine q_pi (va_runS (As := [.int (nI (b)), .int (nI (a % b))]) (rest := []) ⟨hx, hb, hml, hown, hts⟩ (c_X6_common_6 l (b) (a % b) (by omega) (by omega)) (va_cwS 2 hts gX6_common_X6_common rfl rfl rfl (by decide +kernel) ⟨Nat.le_of_ble_eq_true rfl, Nat.le_of_ble_eq_true rfl⟩) p_preS rfl rfl hl.1 rfl (lv_room (Nat.le_of_ble_eq_true rfl)) dX6_common_12 ⟨Nat.le_refl _, Nat.le_refl _⟩) hS (fun H locs hS => ?_)
    rw [hQ]
    exact p_iret hx hb hr rfl hlocks hS (by rw [Nat.gcd_rec b a]) dX6_common_15
  · replace c1_0 : b = 0 := (nI_eq (show b < 2147483648 by omega) (show 0 < 2147483648 by omega)).mp c1_0
    refine lv_iload_n hx hb dX6_common_4 rfl (lv_at hl 0 rfl) ?_
    refine lv_goto (tgt := 15) hx hb dX6_common_5 (by decide) ?_
    rw [hQ]
    exact p_iret hx hb hr rfl hlocks hS (by rw [c1_0, Nat.gcd_zero_left]) dX6_common_15

set_option maxHeartbeats 4000000 in
set_option maxRecDepth 100000 in
theorem c_X6_common_8 (l : Launch) (a b : Nat) (ha : a ≤ 8) (hb1 : b ≤ 8) : Met l yX6_common wsX6_common ({ frames := 8, cells := 0, slots := 0, locals := 168 } : Room) (pPre [.int (nI (a)), .int (nI (b))]) (pQi (nI (Nat.gcd b a))) 0 0 (fun _ => False) := by
  refine p_entry (C := RX6) (cc := cX6_common) (maxL := 2) (ret := (some .int)) rfl (by decide) rfl (Nat.le_of_ble_eq_true rfl) (fun p e s m args below meth c Q ls hQ hx hb hr hts hown hlocks hml hl => ?_)
  have hl : lv_has ls 2 [(0, .int (nI (a))), (1, .int (nI (b)))] := hl
  have hS := va_S.rf (A := fun _ => False) (H0 := s.heap)
  refine lv_iload_n hx hb dX6_common_0 rfl (lv_at hl 1 rfl) ?_
  refine lv_if_ne (tgt := 8) hx hb dX6_common_1 (by decide) (fun c1_0 => ?_) (fun c1_0 => ?_)
  · replace c1_0 : ¬ b = 0 := fun h => c1_0 ((nI_eq (show b < 2147483648 by omega) (show 0 < 2147483648 by omega)).mpr h)
    refine lv_iload_n hx hb dX6_common_8 rfl (lv_at hl 1 rfl) ?_
    refine lv_iload_n hx hb dX6_common_9 rfl (lv_at hl 0 rfl) ?_
    refine lv_iload_n hx hb dX6_common_10 rfl (lv_at hl 1 rfl) ?_
    have hmd := Nat.mod_lt a (show b > 0 by omega)
    refine lv_irem hx hb dX6_common_11 (nI_ne0 (by omega) (by omega)) (r_top (pk_rem (show a < 2147483648 by omega) (show 0 < b by omega) (show b < 2147483648 by omega)) ?_)
    refine q_pi (va_runS (As := [.int (nI (b)), .int (nI (a % b))]) (rest := []) ⟨hx, hb, hml, hown, hts⟩ (c_X6_common_7 l (b) (a % b) (by omega) (by omega)) (va_cwS 2 hts gX6_common_X6_common rfl rfl rfl (by decide +kernel) ⟨Nat.le_of_ble_eq_true rfl, Nat.le_of_ble_eq_true rfl⟩) p_preS rfl rfl hl.1 rfl (lv_room (Nat.le_of_ble_eq_true rfl)) dX6_common_12 ⟨Nat.le_refl _, Nat.le_refl _⟩) hS (fun H locs hS => ?_)
    rw [hQ]
    exact p_iret hx hb hr rfl hlocks hS (by rw [Nat.gcd_rec b a]) dX6_common_15
  · replace c1_0 : b = 0 := (nI_eq (show b < 2147483648 by omega) (show 0 < 2147483648 by omega)).mp c1_0
    refine lv_iload_n hx hb dX6_common_4 rfl (lv_at hl 0 rfl) ?_
    refine lv_goto (tgt := 15) hx hb dX6_common_5 (by decide) ?_
    rw [hQ]
    exact p_iret hx hb hr rfl hlocks hS (by rw [c1_0, Nat.gcd_zero_left]) dX6_common_15

set_option maxHeartbeats 4000000 in
set_option maxRecDepth 100000 in
theorem c_X6_chance (l : Launch) (D : va_G) (G : Nat → ClassId) (ad : Nat → Nat → Nat) (hI : wI LM ad) (J : St) (z m0 y : Int32) : Met l yX6_chance wsX6_chance ({ frames := 9, cells := 0, slots := 0, locals := 189 } : Room) (gPre D G LM ad [.ref (ad 0 (0)), .int (z), .int (m0), .int (y)] (wM G ad J)) (gQi D LM ad (wM G ad) (fun r9 u => r9 = (if (okR (nI 1) (nI 8) m0 && okN (nI 2) y) = true then cvM J z (tn m0) (tn y) else -2) ∧ Sm gM J u)) 0 0 (wA LM ad) := by
  refine g_entry (C := RX6) (cc := cX6_chance) (maxL := 6) (ret := (some .int)) rfl (by decide) rfl (Nat.le_of_ble_eq_true rfl) (fun p e s m args below meth c Q ls hQ hx hb hr hts hown hlocks hml hW hK hl => ?_)
  have hl : lv_has ls 6 [(0, .ref (ad 0 (0))), (1, .int (z)), (2, .int (m0)), (3, .int (y))] := hl
  have hS := va_S.rf (A := wA LM ad) (H0 := s.heap)
  refine lv_iload_n hx hb dX6_chance_0 rfl (lv_at hl 2 rfl) ?_
  refine lv_i2l hx hb dX6_chance_1 rfl ?_
  refine lv_lconst (v := lN 1) hx hb dX6_chance_2 (by decide) ?_
  refine lv_ldc2 (v := (8)) hx hb hown (hts (.constantLong RX6 221 (8)) (by decide +kernel)) dX6_chance_3 ?_
  refine g_pi (va_runS (As := [.long (m0.toInt64), .long (lN 1), .long ((8))]) (rest := []) ⟨hx, hb, hml, hown, hts⟩ (c_X6_inB l m0.toInt64 (lN 1) ((8)) (okR (nI 1) (nI 8) m0) (inL_R (by decide) (by decide) _)) (va_cwS 3 hts gX6_chance_X6_in rfl rfl rfl (by decide +kernel) ⟨Nat.le_of_ble_eq_true rfl, Nat.le_of_ble_eq_true rfl⟩) p_preS rfl rfl hl.1 rfl (lv_room (Nat.le_of_ble_eq_true rfl)) dX6_chance_6 ⟨Nat.le_refl _, Nat.le_refl _⟩) hW hS (fun H locs hW hS => ?_)
  refine lv_if_eq (tgt := 22) hx hb dX6_chance_9 (by decide) (fun c9_0 => ?_) (fun c9_0 => ?_)
  · replace c9_0 := bI_0.mp c9_0
    try simp only [decide_eq_true_eq, decide_eq_false_iff_not] at c9_0
    refine lv_bipush (v := (-2)) hx hb dX6_chance_22 (by decide) ?_
    rw [hQ]
    exact g_iret (wd := wM G ad) hx hb hr rfl hlocks hW hS (by refine ⟨?_, Sm.rf⟩; simp [c9_0]) dX6_chance_24
  · replace c9_0 := bI_1.mp c9_0
    try simp only [decide_eq_true_eq, decide_eq_false_iff_not] at c9_0
    obtain ⟨m0N, hlm, hm8, em0⟩ := okR_nI (by decide) (by decide) c9_0
    subst em0
    have t_m0N : tn (nI m0N) = m0N := tn_nI (by omega)
    have k_m0N : okR (nI 1) (nI 8) (nI m0N) = true := okR_nN (by decide) (by decide) hlm hm8
    refine lv_iload_n hx hb dX6_chance_12 rfl (lv_at hl 3 rfl) ?_
    refine lv_i2l hx hb dX6_chance_13 rfl ?_
    refine lv_lconst (v := lN 0) hx hb dX6_chance_14 (by decide) ?_
    refine lv_lconst (v := lN 1) hx hb dX6_chance_15 (by decide) ?_
    refine g_pi (va_runS (As := [.long (y.toInt64), .long (lN 0), .long (lN 1)]) (rest := []) ⟨hx, hb, hml, hown, hts⟩ (c_X6_inB l y.toInt64 (lN 0) (lN 1) (okN (nI 2) y) (inL_N (k := 2) (by decide) (by decide) _)) (va_cwS 3 hts gX6_chance_X6_in rfl rfl rfl (by decide +kernel) ⟨Nat.le_of_ble_eq_true rfl, Nat.le_of_ble_eq_true rfl⟩) p_preS rfl rfl hl.1 rfl (lv_room (Nat.le_of_ble_eq_true rfl)) dX6_chance_16 ⟨Nat.le_refl _, Nat.le_refl _⟩) hW hS (fun H locs hW hS => ?_)
    refine lv_if_ne (tgt := 25) hx hb dX6_chance_19 (by decide) (fun c19_1 => ?_) (fun c19_1 => ?_)
    · replace c19_1 := bI_1.mp c19_1
      obtain ⟨yN, hyN, eyN⟩ := okN_nI (k := 2) (by decide) c19_1
      subst eyN
      have t_yN : tn (nI yN) = yN := tn_nI (by omega)
      have k_yN : okN (nI 2) (nI yN) = true := okN_of (by decide) hyN
      refine lv_iconst (v := nI 0) hx hb dX6_chance_25 (by decide) ?_
      refine lv_istore (lv' := [(4, .int (nI (0))), (0, .ref (ad 0 (0))), (1, .int (z)), (2, .int (nI (m0N))), (3, .int (nI (yN)))]) hx hb dX6_chance_26 hl (by decide) rfl (fun ls hl => ?_)
      refine lv_iconst (v := nI 0) hx hb dX6_chance_28 (by decide) ?_
      refine lv_istore (lv' := [(5, .int (nI (0))), (4, .int (nI (0))), (0, .ref (ad 0 (0))), (1, .int (z)), (2, .int (nI (m0N))), (3, .int (nI (yN)))]) hx hb dX6_chance_29 hl (by decide) rfl (fun ls hl => ?_)
      have K31 : ∀ (n : Nat) (i : Nat) (g : Nat) (v : St), (i ≤ m0N) → (g = chM J z i) → (Sm gM J v) → m0N < i + n → ∀ (H : Heap) (locs : List Loc), va_P D vwCl (wS LM ad (wM G ad v)) H → va_S (wA LM ad) s.heap H locs → ∀ (ls : Array Slot), lv_has ls 6 [(5, .int (nI (i))), (4, .int (nI (g))), (0, .ref (ad 0 (0))), (1, .int (z)), (2, .int (nI (m0N))), (3, .int (nI (yN)))] → W p l e ({ frames := 9, cells := 0, slots := 0, locals := 189 } : Room) s m args below meth c H locs 0 0 Q (F0 m 31 ls []) := by
        intro n31
        induction n31 with
        | zero => intro i g v hi hg hu hfu; exact absurd hfu (by omega)
        | succ n31 ih31 =>
          intro i g v hi hg hu hfu H locs hW hS ls hl
          refine lv_iload hx hb dX6_chance_31 (lv_at hl 0 rfl) ?_
          refine lv_iload_n hx hb dX6_chance_33 rfl (lv_at hl 4 rfl) ?_
          refine lv_icmp_ge (tgt := 60) hx hb dX6_chance_34 (by decide) (fun c34_2 => ?_) (fun c34_2 => ?_)
          · replace c34_2 : m0N ≤ i := (nI_leI (show m0N < 2147483648 by omega) (show i < 2147483648 by omega)).mp c34_2
            have hi8 : i = m0N := by omega
            have hgl := chM_le J z i
            refine lv_iload_n hx hb dX6_chance_60 rfl (lv_at hl 5 rfl) ?_
            refine lv_if_ne (tgt := 69) hx hb dX6_chance_61 (by decide) (fun c61_3 => ?_) (fun c61_3 => ?_)
            · replace c61_3 : ¬ yN = 0 := fun h => c61_3 ((nI_eq (show yN < 2147483648 by omega) (show 0 < 2147483648 by omega)).mpr h)
              refine lv_iload_n hx hb dX6_chance_69 rfl (lv_at hl 4 rfl) ?_
              refine lv_iload hx hb dX6_chance_70 (lv_at hl 1 rfl) ?_
              refine lv_iload_n hx hb dX6_chance_72 rfl (lv_at hl 4 rfl) ?_
              refine g_pi (va_runS (As := [.int (nI (g)), .int (nI (m0N))]) (rest := [.int (nI (m0N))]) ⟨hx, hb, hml, hown, hts⟩ (c_X6_common_8 l (g) (m0N) (by omega) (by omega)) (va_cwS 2 hts gX6_chance_X6_common rfl rfl rfl (by decide +kernel) ⟨Nat.le_of_ble_eq_true rfl, Nat.le_of_ble_eq_true rfl⟩) p_preS rfl rfl hl.1 rfl (lv_room (Nat.le_of_ble_eq_true rfl)) dX6_chance_73 ⟨Nat.le_refl _, Nat.le_refl _⟩) hW hS (fun H locs hW hS => ?_)
              have hgb := Nat.gcd_pos_of_pos_left g (show 0 < m0N by omega)
              have hgc := Nat.gcd_le_left g (show 0 < m0N by omega)
              refine lv_idiv hx hb dX6_chance_76 (nI_ne0 (by omega) (by omega)) (r_top (pk_div (by omega) (by omega) (by omega)) ?_)
              rw [hQ]
              exact g_iret (wd := wM G ad) hx hb hr rfl hlocks hW hS (by refine ⟨?_, hu⟩; rw [if_pos (by simp [k_m0N, k_yN])]; simp only [t_m0N, t_yN, cvM]; subst hi8; subst hg; (repeat' split) <;> first | rfl | contradiction | (exfalso; omega)) dX6_chance_77
            · replace c61_3 : yN = 0 := (nI_eq (show yN < 2147483648 by omega) (show 0 < 2147483648 by omega)).mp c61_3
              refine lv_iload hx hb dX6_chance_64 (lv_at hl 1 rfl) ?_
              refine lv_goto (tgt := 70) hx hb dX6_chance_66 (by decide) ?_
              refine lv_iload hx hb dX6_chance_70 (lv_at hl 1 rfl) ?_
              refine lv_iload_n hx hb dX6_chance_72 rfl (lv_at hl 4 rfl) ?_
              refine g_pi (va_runS (As := [.int (nI (g)), .int (nI (m0N))]) (rest := [.int (nI (g))]) ⟨hx, hb, hml, hown, hts⟩ (c_X6_common_8 l (g) (m0N) (by omega) (by omega)) (va_cwS 2 hts gX6_chance_X6_common rfl rfl rfl (by decide +kernel) ⟨Nat.le_of_ble_eq_true rfl, Nat.le_of_ble_eq_true rfl⟩) p_preS rfl rfl hl.1 rfl (lv_room (Nat.le_of_ble_eq_true rfl)) dX6_chance_73 ⟨Nat.le_refl _, Nat.le_refl _⟩) hW hS (fun H locs hW hS => ?_)
              have hgb := Nat.gcd_pos_of_pos_left g (show 0 < m0N by omega)
              have hgc := Nat.gcd_le_left g (show 0 < m0N by omega)
              refine lv_idiv hx hb dX6_chance_76 (nI_ne0 (by omega) (by omega)) (r_top (pk_div (by omega) (by omega) (by omega)) ?_)
              rw [hQ]
              exact g_iret (wd := wM G ad) hx hb hr rfl hlocks hW hS (by refine ⟨?_, hu⟩; rw [if_pos (by simp [k_m0N, k_yN])]; simp only [t_m0N, t_yN, cvM]; subst hi8; subst hg; (repeat' split) <;> first | rfl | contradiction | (exfalso; omega)) dX6_chance_77
          · replace c34_2 : ¬ (m0N ≤ i) := fun h => c34_2 ((nI_leI (show m0N < 2147483648 by omega) (show i < 2147483648 by omega)).mpr h)
            refine lv_aload_n hx hb dX6_chance_37 rfl (lv_at hl 2 rfl) ?_
            refine lv_iload_n hx hb dX6_chance_38 rfl (lv_at hl 3 rfl) ?_
            refine lv_iload hx hb dX6_chance_39 (lv_at hl 0 rfl) ?_
            refine lv_iadd hx hb dX6_chance_41 (lv_topi (fun x5 ex5 => ?_))
            refine lv_bipush (v := nI 8) hx hb dX6_chance_42 (by decide) ?_
            refine g_ci (va_runV (As := [.int (x5), .int (nI (8))]) (rest := []) ⟨hx, hb, hml, hown, hts⟩ (c_X6_byLot l D G ad hI v x5 8 (by decide)) (cwV 2 hts gX6_chance_X6_byLot rfl rfl rfl (by decide +kernel) ⟨Nat.le_of_ble_eq_true rfl, Nat.le_of_ble_eq_true rfl⟩) (g_preV hK hW 0 (0) (mM (by decide) (by decide)) rfl rfl) rfl rfl hl.1 rfl (lv_room (Nat.le_of_ble_eq_true rfl)) dX6_chance_44 ⟨Nat.le_refl _, Nat.le_refl _⟩) hS (fun x6 I6 H locs hp hW hS => ?_)
            obtain ⟨ex6, eI6⟩ := hp
            refine r_top ex6 ?_
            have hc4 := lotM_le v x5 8
            have hdc : lotM v x5 8 = lotM J (z + nI i) 8 := by rw [ex5]; exact lotM_e hu _ _
            have huI6 : Sm gM J I6 := by rw [eI6]; exact sq_dw hu _ _
            refine lv_iconst (v := nI 4) hx hb dX6_chance_47 (by decide) ?_
            refine lv_icmp_ne (tgt := 54) hx hb dX6_chance_48 (by decide) (fun c48_6 => ?_) (fun c48_6 => ?_)
            · replace c48_6 : ¬ lotM v x5 8 = 4 := fun h => c48_6 ((nI_eq (show lotM v x5 8 < 2147483648 by omega) (show 4 < 2147483648 by omega)).mpr h)
              refine lv_iinc (v := nI (i + 1)) (lv' := [(5, .int (nI (i + 1))), (4, .int (nI (g))), (0, .ref (ad 0 (0))), (1, .int (z)), (2, .int (nI (m0N))), (3, .int (nI (yN)))]) hx hb dX6_chance_54 hl (k := 0) rfl (nI_inc i 1) (by decide) rfl (fun ls hl => ?_)
              refine lv_goto (tgt := 31) hx hb dX6_chance_57 (by decide) ?_
              exact ih31 (i + 1) (g) (I6) (by omega) (by rw [chM, if_neg (fun q9 => c48_6 (hdc.trans q9)), hg]) huI6 (by omega) _ _ hW hS _ (lv_sub hl [0, 1, 2, 3, 4, 5] rfl)
            · replace c48_6 : lotM v x5 8 = 4 := (nI_eq (show lotM v x5 8 < 2147483648 by omega) (show 4 < 2147483648 by omega)).mp c48_6
              refine lv_iinc (v := nI (g + 1)) (lv' := [(4, .int (nI (g + 1))), (5, .int (nI (i))), (0, .ref (ad 0 (0))), (1, .int (z)), (2, .int (nI (m0N))), (3, .int (nI (yN)))]) hx hb dX6_chance_51 hl (k := 1) rfl (nI_inc g 1) (by decide) rfl (fun ls hl => ?_)
              refine lv_iinc (v := nI (i + 1)) (lv' := [(5, .int (nI (i + 1))), (4, .int (nI (g + 1))), (0, .ref (ad 0 (0))), (1, .int (z)), (2, .int (nI (m0N))), (3, .int (nI (yN)))]) hx hb dX6_chance_54 hl (k := 1) rfl (nI_inc i 1) (by decide) rfl (fun ls hl => ?_)
              refine lv_goto (tgt := 31) hx hb dX6_chance_57 (by decide) ?_
              exact ih31 (i + 1) (g + 1) (I6) (by omega) (by rw [chM, if_pos (hdc.symm.trans c48_6), hg]) huI6 (by omega) _ _ hW hS _ (lv_sub hl [0, 1, 2, 3, 4, 5] rfl)
      exact K31 (m0N + 1) (0) (0) (J) (Nat.zero_le _) rfl Sm.rf (by omega) _ _ hW hS _ (lv_sub hl [0, 1, 2, 3, 4, 5] rfl)
    · replace c19_1 := bI_0.mp c19_1
      try simp only [decide_eq_true_eq, decide_eq_false_iff_not] at c19_1
      refine lv_bipush (v := (-2)) hx hb dX6_chance_22 (by decide) ?_
      rw [hQ]
      exact g_iret (wd := wM G ad) hx hb hr rfl hlocks hW hS (by refine ⟨?_, Sm.rf⟩; simp [k_m0N, c19_1]) dX6_chance_24
