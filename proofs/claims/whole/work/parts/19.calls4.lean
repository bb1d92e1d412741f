/-! ===== goes on ===== -/
set_option maxHeartbeats 4000000 in
set_option maxRecDepth 100000 in
theorem c_X5_met (l : Launch) (D : va_G) (G : Nat → ClassId) (ad : Nat → Nat → Nat) (hI : wI LC ad) (I : St) (a b : Int32) (hM : okM I) (hKd : okK I) : Met l yX5_met wsX5_met ({ frames := 6, cells := 0, slots := 0, locals := 269 } : Room) (gPre D G LC ad [.ref (ad 0 (0)), .int (a), .int (b)] (wC G ad I)) (gQl D LC ad (wC G ad) (fun r9 u => r9 = (if (okN (nI 3) a && okN (nI 4) b) = true then wth (mtP I 0 4) 32 (tn a * 4 + tn b) (kd I (tn a * 4 + tn b)) else -1000000000002) ∧ Sm gC I u)) 0 0 (wA LC ad) := by
  refine g_entry (C := RX5) (cc := cX5_met) (maxL := 3) (ret := (some .long)) rfl (by decide) rfl (Nat.le_of_ble_eq_true rfl) (fun p e s m args below meth c Q ls hQ hx hb hr hts hown hlocks hml hW hK hl => ?_)
  have hl : lv_has ls 3 [(0, .ref (ad 0 (0))), (1, .int (a)), (2, .int (b))] := hl
  have hS := va_S.rf (A := wA LC ad) (H0 := s.heap)
  have hinX2 : ∀ w ∈ wsX20, w ∈ wsX5_met := by decide +kernel
  have hinX5 : ∀ w ∈ wsX50, w ∈ wsX5_met := by decide +kernel
  have hf10 := hts (.fieldLink RX5 10 "JoinedStores" "now" "LJoinedStores$Network;") (by decide +kernel)
  have hf32 := hts (.fieldLink RX5 32 "JoinedStores" "all" "LJoinedStores$Store;") (by decide +kernel)
  have hf68 := hts (.fieldLink RX5 68 "JoinedStores$Network" "stores" "[LJoinedStores$Store;") (by decide +kernel)
  refine lv_iload_n hx hb dX5_met_0 rfl (lv_at hl 1 rfl) ?_
  refine lv_iload_n hx hb dX5_met_1 rfl (lv_at hl 2 rfl) ?_
  refine g_pi (va_runS (As := [.int (a), .int (b)]) (rest := []) ⟨hx, hb, hml, hown, hts⟩ (c_X5_isObject l a b) (va_cwS 2 hts gX5_met_X5_isObject rfl rfl rfl (by decide +kernel) ⟨Nat.le_of_ble_eq_true rfl, Nat.le_of_ble_eq_true rfl⟩) p_preS rfl rfl hl.1 rfl (lv_room (Nat.le_of_ble_eq_true rfl)) dX5_met_2 ⟨Nat.le_refl _, Nat.le_refl _⟩) hW hS (fun H locs hW hS => ?_)
  refine lv_if_ne (tgt := 12) hx hb dX5_met_5 (by decide) (fun c5_0 => ?_) (fun c5_0 => ?_)
  · replace c5_0 := bI_1.mp c5_0
    obtain ⟨aN, haN, eaN⟩ := okN_nI (k := 3) (by decide) (okAnd c5_0).1
    subst eaN
    have t_aN : tn (nI aN) = aN := tn_nI (by omega)
    have k_aN : okN (nI 3) (nI aN) = true := okN_of (by decide) haN
    obtain ⟨bN, hbN, ebN⟩ := okN_nI (k := 4) (by decide) (okAnd c5_0).2
    subst ebN
    have t_bN : tn (nI bN) = bN := tn_nI (by omega)
    have k_bN : okN (nI 4) (nI bN) = true := okN_of (by decide) hbN
    refine lv_aload_n hx hb dX5_met_12 rfl (lv_at hl 0 rfl) ?_
    refine lv_aload_n hx hb dX5_met_13 rfl (lv_at hl 0 rfl) ?_
    refine r_get hx hb hts hown hK hW 0 (0) 0 (mC (by decide) (by decide)) rfl rfl hinX5 (by decide) hf10 rfl rfl dX5_met_14 ?_
    refine r_get hx hb hts hown hK hW 1 (0) 2 (mC (by decide) (by decide)) rfl rfl hinX2 (by decide) hf68 rfl rfl dX5_met_17 ?_
    refine g_cv (va_runV (As := [.ref (ad 3 (0))]) (rest := []) ⟨hx, hb, hml, hown, hts⟩ (c_X5_meet_now l D G ad hI I  ) (cwV 1 hts gX5_met_X5_meet rfl rfl rfl (by decide +kernel) ⟨Nat.le_of_ble_eq_true rfl, Nat.le_of_ble_eq_true rfl⟩) (g_preV hK hW 0 (0) (mC (by decide) (by decide)) rfl rfl) rfl rfl hl.1 rfl (lv_room (Nat.le_of_ble_eq_true rfl)) dX5_met_20 ⟨Nat.le_refl _, Nat.le_refl _⟩) hS (fun I2 H locs hp hW hS => ?_)
    have eI2 : I2 = mtP I 0 4 := hp
    have huI2 : Sm gC I I2 := by rw [eI2]; exact Sm.mtP Sm.rf 0 4
    refine lv_aload_n hx hb dX5_met_23 rfl (lv_at hl 0 rfl) ?_
    refine r_get hx hb hts hown hK hW 0 (0) 0 (mC (by decide) (by decide)) rfl rfl hinX5 (by decide) hf10 rfl rfl dX5_met_24 ?_
    refine lv_aload_n hx hb dX5_met_27 rfl (lv_at hl 0 rfl) ?_
    refine r_get hx hb hts hown hK hW 0 (0) 5 (mC (by decide) (by decide)) rfl rfl hinX5 (by decide) hf32 rfl rfl dX5_met_28 ?_
    refine lv_iload_n hx hb dX5_met_31 rfl (lv_at hl 1 rfl) ?_
    refine lv_iload_n hx hb dX5_met_32 rfl (lv_at hl 2 rfl) ?_
    refine g_pi (va_runS (As := [.int (nI (aN)), .int (nI (bN))]) (rest := [.ref (ad 4 (32)), .ref (ad 1 (0))]) ⟨hx, hb, hml, hown, hts⟩ (c_X5_objectAt l (aN) (bN)) (va_cwS 2 hts gX5_met_X5_objectAt rfl rfl rfl (by decide +kernel) ⟨Nat.le_of_ble_eq_true rfl, Nat.le_of_ble_eq_true rfl⟩) p_preS rfl rfl hl.1 rfl (lv_room (Nat.le_of_ble_eq_true rfl)) dX5_met_33 ⟨Nat.le_refl _, Nat.le_refl _⟩) hW hS (fun H locs hW hS => ?_)
    refine g_cl (va_runV (As := [.ref (ad 4 (32)), .int (nI (aN * 4 + bN))]) (rest := []) ⟨hx, hb, hml, hown, hts⟩ (c_X2_worthIn l D G ad hI I2 32 (aN * 4 + bN) (by decide) (show aN * 4 + bN < 12 by omega) (Sm.M huI2 hM) (Sm.K huI2 hKd)) (cwV 2 hts gX5_met_X2_worthIn rfl rfl rfl (by decide +kernel) ⟨Nat.le_of_ble_eq_true rfl, Nat.le_of_ble_eq_true rfl⟩) (g_preV hK hW 1 (0) (mC (by decide) (by decide)) rfl rfl) rfl rfl hl.1 rfl (lv_room (Nat.le_of_ble_eq_true rfl)) dX5_met_36 ⟨Nat.le_refl _, Nat.le_refl _⟩) hS (fun x3 I3 H locs hp hW hS => ?_)
    obtain ⟨ex3, eI3⟩ := hp
    rw [hQ]
    exact g_lret (wd := wC G ad) hx hb hr hlocks hW hS (by have hk9 := Sm.kd huI2 (aN * 4 + bN); subst eI3 ex3 eI2; refine ⟨?_, Sm.gst (fun _ => Or.inl rfl) (Sm.mtP Sm.rf 0 4) _⟩; rw [if_pos (by simp [k_aN, k_bN])]; simp only [t_aN, t_bN]; rw [← hk9]) dX5_met_39
  · replace c5_0 := bI_0.mp c5_0
    try simp only [decide_eq_true_eq, decide_eq_false_iff_not] at c5_0
    refine lv_ldc2 (v := (-1000000000002)) hx hb hown (hts (.constantLong RX5 114 (-1000000000002)) (by decide +kernel)) dX5_met_8 ?_
    rw [hQ]
    exact g_lret (wd := wC G ad) hx hb hr hlocks hW hS (by refine ⟨?_, Sm.rf⟩; simp [c5_0]) dX5_met_11

set_option maxHeartbeats 4000000 in
set_option maxRecDepth 100000 in
theorem c_X5_apart (l : Launch) (D : va_G) (G : Nat → ClassId) (ad : Nat → Nat → Nat) (hI : wI LC ad) (I : St) (r o w : Int32) : Met l yX5_apart wsX5_apart ({ frames := 4, cells := 0, slots := 0, locals := 86 } : Room) (gPre D G LC ad [.ref (ad 0 (0)), .int (r), .int (o), .int (w)] (wC G ad I)) (gQi D LC ad (wC G ad) (fun r9 u => r9 = (if (okN (nI 4) r && okN (nI 4) o) = true then apt I (tn r) (tn o) w else -2) ∧ Sm gC I u)) 0 0 (wA LC ad) := by
  refine g_entry (C := RX5) (cc := cX5_apart) (maxL := 6) (ret := (some .int)) rfl (by decide) rfl (Nat.le_of_ble_eq_true rfl) (fun p e s m args below meth c Q ls hQ hx hb hr hts hown hlocks hml hW hK hl => ?_)
  have hl : lv_has ls 6 [(0, .ref (ad 0 (0))), (1, .int (r)), (2, .int (o)), (3, .int (w))] := hl
  have hS := va_S.rf (A := wA LC ad) (H0 := s.heap)
  have hinX2 : ∀ w ∈ wsX20, w ∈ wsX5_apart := by decide +kernel
  have hinX4 : ∀ w ∈ wsX40, w ∈ wsX5_apart := by decide +kernel
  have hinX5 : ∀ w ∈ wsX50, w ∈ wsX5_apart := by decide +kernel
  have hf10 := hts (.fieldLink RX5 10 "JoinedStores" "now" "LJoinedStores$Network;") (by decide +kernel)
  have hf68 := hts (.fieldLink RX5 68 "JoinedStores$Network" "stores" "[LJoinedStores$Store;") (by decide +kernel)
  have hf120 := hts (.fieldLink RX5 120 "JoinedStores$Store" "heard" "[I") (by decide +kernel)
  have hf123 := hts (.fieldLink RX5 123 "JoinedStores$Store" "alive" "[I") (by decide +kernel)
  refine lv_iload_n hx hb dX5_apart_0 rfl (lv_at hl 1 rfl) ?_
  refine g_pi (va_runS (As := [.int (r)]) (rest := []) ⟨hx, hb, hml, hown, hts⟩ (c_X5_isReplica l r) (va_cwS 1 hts gX5_apart_X5_isReplica rfl rfl rfl (by decide +kernel) ⟨Nat.le_of_ble_eq_true rfl, Nat.le_of_ble_eq_true rfl⟩) p_preS rfl rfl hl.1 rfl (lv_room (Nat.le_of_ble_eq_true rfl)) dX5_apart_1 ⟨Nat.le_refl _, Nat.le_refl _⟩) hW hS (fun H locs hW hS => ?_)
  refine lv_if_eq (tgt := 14) hx hb dX5_apart_4 (by decide) (fun c4_0 => ?_) (fun c4_0 => ?_)
  · replace c4_0 := bI_0.mp c4_0
    try simp only [decide_eq_true_eq, decide_eq_false_iff_not] at c4_0
    refine lv_bipush (v := (-2)) hx hb dX5_apart_14 (by decide) ?_
    rw [hQ]
    exact g_iret (wd := wC G ad) hx hb hr rfl hlocks hW hS (by refine ⟨?_, Sm.rf⟩; simp [c4_0]) dX5_apart_16
  · replace c4_0 := bI_1.mp c4_0
    obtain ⟨rN, hrN, erN⟩ := okN_nI (k := 4) (by decide) c4_0
    subst erN
    have t_rN : tn (nI rN) = rN := tn_nI (by omega)
    have k_rN : okN (nI 4) (nI rN) = true := okN_of (by decide) hrN
    refine lv_iload_n hx hb dX5_apart_7 rfl (lv_at hl 2 rfl) ?_
    refine g_pi (va_runS (As := [.int (o)]) (rest := []) ⟨hx, hb, hml, hown, hts⟩ (c_X5_isReplica l o) (va_cwS 1 hts gX5_apart_X5_isReplica rfl rfl rfl (by decide +kernel) ⟨Nat.le_of_ble_eq_true rfl, Nat.le_of_ble_eq_true rfl⟩) p_preS rfl rfl hl.1 rfl (lv_room (Nat.le_of_ble_eq_true rfl)) dX5_apart_8 ⟨Nat.le_refl _, Nat.le_refl _⟩) hW hS (fun H locs hW hS => ?_)
    refine lv_if_ne (tgt := 17) hx hb dX5_apart_11 (by decide) (fun c11_1 => ?_) (fun c11_1 => ?_)
    · replace c11_1 := bI_1.mp c11_1
      obtain ⟨oN, hoN, eoN⟩ := okN_nI (k := 4) (by decide) c11_1
      subst eoN
      have t_oN : tn (nI oN) = oN := tn_nI (by omega)
      have k_oN : okN (nI 4) (nI oN) = true := okN_of (by decide) hoN
      refine lv_aload_n hx hb dX5_apart_17 rfl (lv_at hl 0 rfl) ?_
      refine r_get hx hb hts hown hK hW 0 (0) 0 (mC (by decide) (by decide)) rfl rfl hinX5 (by decide) hf10 rfl rfl dX5_apart_18 ?_
      refine r_get hx hb hts hown hK hW 1 (0) 2 (mC (by decide) (by decide)) rfl rfl hinX2 (by decide) hf68 rfl rfl dX5_apart_21 ?_
      refine lv_iload_n hx hb dX5_apart_24 rfl (lv_at hl 1 rfl) ?_
      refine r_aald hx hb hK hW 1 3 (0) (rN) (mC (by decide) (by decide)) rfl rfl (show rN < 4 by omega) (by decide) rfl rfl dX5_apart_25 ?_
      refine lv_astore (lv' := [(4, .ref (ad 4 (rN))), (0, .ref (ad 0 (0))), (1, .int (nI (rN))), (2, .int (nI (oN))), (3, .int (w))]) hx hb dX5_apart_26 hl (by decide) rfl (fun ls hl => ?_)
      refine lv_aload_n hx hb dX5_apart_28 rfl (lv_at hl 1 rfl) ?_
      refine r_get hx hb hts hown hK hW 0 (0) 0 (mC (by decide) (by decide)) rfl rfl hinX5 (by decide) hf10 rfl rfl dX5_apart_29 ?_
      refine r_get hx hb hts hown hK hW 1 (0) 2 (mC (by decide) (by decide)) rfl rfl hinX2 (by decide) hf68 rfl rfl dX5_apart_32 ?_
      refine lv_iload_n hx hb dX5_apart_35 rfl (lv_at hl 3 rfl) ?_
      refine r_aald hx hb hK hW 1 3 (0) (oN) (mC (by decide) (by decide)) rfl rfl (show oN < 4 by omega) (by decide) rfl rfl dX5_apart_36 ?_
      refine lv_astore (lv' := [(5, .ref (ad 4 (oN))), (4, .ref (ad 4 (rN))), (0, .ref (ad 0 (0))), (1, .int (nI (rN))), (2, .int (nI (oN))), (3, .int (w))]) hx hb dX5_apart_37 hl (by decide) rfl (fun ls hl => ?_)
      refine lv_iload_n hx hb dX5_apart_39 rfl (lv_at hl 5 rfl) ?_
      by_cases c40_2_0 : w = nI 0
      · refine lv_tableIn (tgt := 72) (off := 32) hx hb dX5_apart_40 (by rw [c40_2_0]; decide) (by rw [c40_2_0]; decide) (by rw [c40_2_0]; rfl) (by decide) ?_
        refine lv_aload_n hx hb dX5_apart_72 rfl (lv_at hl 2 rfl) ?_
        refine lv_aload hx hb dX5_apart_73 (lv_at hl 1 rfl) ?_
        refine lv_aload hx hb dX5_apart_75 (lv_at hl 0 rfl) ?_
        refine g_ci (va_runV (As := [.ref (ad 4 (rN)), .ref (ad 4 (oN))]) (rest := []) ⟨hx, hb, hml, hown, hts⟩ (c_X5_isAhead l D G ad hI I rN oN (show rN < 59 by omega) (show oN < 59 by omega)) (cwV 2 hts gX5_apart_X5_isAhead rfl rfl rfl (by decide +kernel) ⟨Nat.le_of_ble_eq_true rfl, Nat.le_of_ble_eq_true rfl⟩) (g_preV hK hW 0 (0) (mC (by decide) (by decide)) rfl rfl) rfl rfl hl.1 rfl (lv_room (Nat.le_of_ble_eq_true rfl)) dX5_apart_77 ⟨Nat.le_refl _, Nat.le_refl _⟩) hS (fun x4 I4 H locs hp hW hS => ?_)
        obtain ⟨ex4, eI4⟩ := hp
        refine lv_if_eq (tgt := 87) hx hb dX5_apart_80 (by decide) (fun c80_4 => ?_) (fun c80_4 => ?_)
        · rw [ex4] at c80_4
          replace c80_4 := bI_0.mp c80_4
          try simp only [decide_eq_true_eq, decide_eq_false_iff_not] at c80_4
          refine lv_iconst (v := nI 0) hx hb dX5_apart_87 (by decide) ?_
          rw [hQ]
          exact g_iret (wd := wC G ad) hx hb hr rfl hlocks hW hS (by subst eI4 ex4; refine ⟨?_, Sm.ahS Sm.rf _ _⟩; rw [if_pos (by simp [k_rN, k_oN, c80_4])]; simp only [t_rN, t_oN, apt]; (repeat' split) <;> first | contradiction | (simp [k_rN, k_oN, c80_4, bI, nI_0, nI_one]; done) | rfl) dX5_apart_88
        · rw [ex4] at c80_4
          replace c80_4 := bI_1.mp c80_4
          try simp only [decide_eq_true_eq, decide_eq_false_iff_not] at c80_4
          refine lv_iconst (v := nI 1) hx hb dX5_apart_83 (by decide) ?_
          refine lv_goto (tgt := 88) hx hb dX5_apart_84 (by decide) ?_
          rw [hQ]
          exact g_iret (wd := wC G ad) hx hb hr rfl hlocks hW hS (by subst eI4 ex4; refine ⟨?_, Sm.ahS Sm.rf _ _⟩; rw [if_pos (by simp [k_rN, k_oN, c80_4])]; simp only [t_rN, t_oN, apt]; (repeat' split) <;> first | contradiction | (simp [k_rN, k_oN, c80_4, bI, nI_0, nI_one]; done) | rfl) dX5_apart_88
      by_cases c40_2_1 : w = nI 1
      · refine lv_tableIn (tgt := 89) (off := 49) hx hb dX5_apart_40 (by rw [c40_2_1]; decide) (by rw [c40_2_1]; decide) (by rw [c40_2_1]; rfl) (by decide) ?_
        refine lv_aload_n hx hb dX5_apart_89 rfl (lv_at hl 2 rfl) ?_
        refine lv_aload hx hb dX5_apart_90 (lv_at hl 1 rfl) ?_
        refine lv_aload hx hb dX5_apart_92 (lv_at hl 0 rfl) ?_
        refine g_ci (va_runV (As := [.ref (ad 4 (rN)), .ref (ad 4 (oN))]) (rest := []) ⟨hx, hb, hml, hown, hts⟩ (c_X5_isAhead l D G ad hI I rN oN (show rN < 59 by omega) (show oN < 59 by omega)) (cwV 2 hts gX5_apart_X5_isAhead rfl rfl rfl (by decide +kernel) ⟨Nat.le_of_ble_eq_true rfl, Nat.le_of_ble_eq_true rfl⟩) (g_preV hK hW 0 (0) (mC (by decide) (by decide)) rfl rfl) rfl rfl hl.1 rfl (lv_room (Nat.le_of_ble_eq_true rfl)) dX5_apart_94 ⟨Nat.le_refl _, Nat.le_refl _⟩) hS (fun x6 I6 H locs hp hW hS => ?_)
        obtain ⟨ex6, eI6⟩ := hp
        refine lv_if_eq (tgt := 115) hx hb dX5_apart_97 (by decide) (fun c97_6 => ?_) (fun c97_6 => ?_)
        · rw [ex6] at c97_6
          replace c97_6 := bI_0.mp c97_6
          try simp only [decide_eq_true_eq, decide_eq_false_iff_not] at c97_6
          refine lv_iconst (v := nI 0) hx hb dX5_apart_115 (by decide) ?_
          rw [hQ]
          exact g_iret (wd := wC G ad) hx hb hr rfl hlocks hW hS (by subst eI6 ex6; refine ⟨?_, Sm.ahS Sm.rf _ _⟩; rw [if_pos (by simp [k_rN, k_oN, c97_6])]; simp only [t_rN, t_oN, apt]; (repeat' split) <;> first | contradiction | (simp [k_rN, k_oN, c97_6, bI, nI_0, nI_one]; done) | rfl) dX5_apart_116
        · rw [ex6] at c97_6
          replace c97_6 := bI_1.mp c97_6
          try simp only [decide_eq_true_eq, decide_eq_false_iff_not] at c97_6
          refine lv_aload_n hx hb dX5_apart_100 rfl (lv_at hl 2 rfl) ?_
          refine lv_aload hx hb dX5_apart_101 (lv_at hl 0 rfl) ?_
          refine lv_aload hx hb dX5_apart_103 (lv_at hl 1 rfl) ?_
          refine g_ci (va_runV (As := [.ref (ad 4 (oN)), .ref (ad 4 (rN))]) (rest := []) ⟨hx, hb, hml, hown, hts⟩ (c_X5_isAhead l D G ad hI I6 oN rN (show oN < 59 by omega) (show rN < 59 by omega)) (cwV 2 hts gX5_apart_X5_isAhead rfl rfl rfl (by decide +kernel) ⟨Nat.le_of_ble_eq_true rfl, Nat.le_of_ble_eq_true rfl⟩) (g_preV hK hW 0 (0) (mC (by decide) (by decide)) rfl rfl) rfl rfl hl.1 rfl (lv_room (Nat.le_of_ble_eq_true rfl)) dX5_apart_105 ⟨Nat.le_refl _, Nat.le_refl _⟩) hS (fun x8 I8 H locs hp hW hS => ?_)
          obtain ⟨ex8, eI8⟩ := hp
          refine lv_if_eq (tgt := 115) hx hb dX5_apart_108 (by decide) (fun c108_8 => ?_) (fun c108_8 => ?_)
          · rw [ex8] at c108_8
            replace c108_8 := bI_0.mp c108_8
            try simp only [decide_eq_true_eq, decide_eq_false_iff_not] at c108_8
            refine lv_iconst (v := nI 0) hx hb dX5_apart_115 (by decide) ?_
            rw [hQ]
            exact g_iret (wd := wC G ad) hx hb hr rfl hlocks hW hS (by subst eI8 ex8 eI6 ex6; refine ⟨?_, Sm.ahS (Sm.ahS Sm.rf _ _) _ _⟩; rw [if_pos (by simp [k_rN, k_oN, c97_6, c108_8])]; simp only [t_rN, t_oN, apt]; (repeat' split) <;> first | contradiction | (simp [k_rN, k_oN, c97_6, c108_8, bI, nI_0, nI_one]; done) | rfl) dX5_apart_116
          · rw [ex8] at c108_8
            replace c108_8 := bI_1.mp c108_8
            try simp only [decide_eq_true_eq, decide_eq_false_iff_not] at c108_8
            refine lv_iconst (v := nI 1) hx hb dX5_apart_111 (by decide) ?_
            refine lv_goto (tgt := 116) hx hb dX5_apart_112 (by decide) ?_
            rw [hQ]
            exact g_iret (wd := wC G ad) hx hb hr rfl hlocks hW hS (by subst eI8 ex8 eI6 ex6; refine ⟨?_, Sm.ahS (Sm.ahS Sm.rf _ _) _ _⟩; rw [if_pos (by simp [k_rN, k_oN, c97_6, c108_8])]; simp only [t_rN, t_oN, apt]; (repeat' split) <;> first | contradiction | (simp [k_rN, k_oN, c97_6, c108_8, bI, nI_0, nI_one]; done) | rfl) dX5_apart_116
      by_cases c40_2_2 : w = nI 2
      · refine lv_tableIn (tgt := 117) (off := 77) hx hb dX5_apart_40 (by rw [c40_2_2]; decide) (by rw [c40_2_2]; decide) (by rw [c40_2_2]; rfl) (by decide) ?_
        refine lv_aload hx hb dX5_apart_117 (lv_at hl 1 rfl) ?_
        refine r_get hx hb hts hown hK hW 4 (rN) 0 (mC (by decide) (show rN < 59 by omega)) rfl rfl hinX4 (by decide) hf120 rfl rfl dX5_apart_119 ?_
        refine lv_aload hx hb dX5_apart_122 (lv_at hl 0 rfl) ?_
        refine r_get hx hb hts hown hK hW 4 (oN) 0 (mC (by decide) (show oN < 59 by omega)) rfl rfl hinX4 (by decide) hf120 rfl rfl dX5_apart_124 ?_
        refine g_ci (va_runS (As := [.ref (ad 10 (rN)), .ref (ad 10 (oN))]) (rest := []) ⟨hx, hb, hml, hown, hts⟩ (c_X5_otherwise_10 l D G ad hI I rN oN (show rN < 59 by omega) (show oN < 59 by omega)) (va_cwS 2 hts gX5_apart_X5_otherwise rfl rfl rfl (by decide +kernel) ⟨Nat.le_of_ble_eq_true rfl, Nat.le_of_ble_eq_true rfl⟩) (g_preS hK hW) rfl rfl hl.1 rfl (lv_room (Nat.le_of_ble_eq_true rfl)) dX5_apart_127 ⟨Nat.le_refl _, Nat.le_refl _⟩) hS (fun x10 I10 H locs hp hW hS => ?_)
        obtain ⟨ex10, eI10⟩ := hp
        rw [eI10] at hW
        clear eI10
        rw [hQ]
        exact g_iret (wd := wC G ad) hx hb hr rfl hlocks hW hS (by subst ex10; refine ⟨?_, Sm.rf⟩; rw [if_pos (by simp [k_rN, k_oN])]; simp only [t_rN, t_oN, apt]; (repeat' split) <;> first | contradiction | (simp [k_rN, k_oN, bI, nI_0, nI_one]; done) | rfl) dX5_apart_130
      by_cases c40_2_3 : w = nI 3
      · refine lv_tableIn (tgt := 131) (off := 91) hx hb dX5_apart_40 (by rw [c40_2_3]; decide) (by rw [c40_2_3]; decide) (by rw [c40_2_3]; rfl) (by decide) ?_
        refine lv_aload hx hb dX5_apart_131 (lv_at hl 1 rfl) ?_
        refine r_get hx hb hts hown hK hW 4 (rN) 1 (mC (by decide) (show rN < 59 by omega)) rfl rfl hinX4 (by decide) hf123 rfl rfl dX5_apart_133 ?_
        refine lv_aload hx hb dX5_apart_136 (lv_at hl 0 rfl) ?_
        refine r_get hx hb hts hown hK hW 4 (oN) 1 (mC (by decide) (show oN < 59 by omega)) rfl rfl hinX4 (by decide) hf123 rfl rfl dX5_apart_138 ?_
        refine g_ci (va_runS (As := [.ref (ad 11 (rN)), .ref (ad 11 (oN))]) (rest := []) ⟨hx, hb, hml, hown, hts⟩ (c_X5_otherwise_11 l D G ad hI I rN oN (show rN < 59 by omega) (show oN < 59 by omega)) (va_cwS 2 hts gX5_apart_X5_otherwise rfl rfl rfl (by decide +kernel) ⟨Nat.le_of_ble_eq_true rfl, Nat.le_of_ble_eq_true rfl⟩) (g_preS hK hW) rfl rfl hl.1 rfl (lv_room (Nat.le_of_ble_eq_true rfl)) dX5_apart_141 ⟨Nat.le_refl _, Nat.le_refl _⟩) hS (fun x11 I11 H locs hp hW hS => ?_)
        obtain ⟨ex11, eI11⟩ := hp
        rw [eI11] at hW
        clear eI11
        rw [hQ]
        exact g_iret (wd := wC G ad) hx hb hr rfl hlocks hW hS (by subst ex11; refine ⟨?_, Sm.rf⟩; rw [if_pos (by simp [k_rN, k_oN])]; simp only [t_rN, t_oN, apt]; (repeat' split) <;> first | contradiction | (simp [k_rN, k_oN, bI, nI_0, nI_one]; done) | rfl) dX5_apart_144
      refine lv_tableOut (tgt := 145) hx hb dX5_apart_40 (sw_rng 0 3 (by decide) (fun j h1 h2 => by rcases (by omega : j = 0 ∨ j = 1 ∨ j = 2 ∨ j = 3) with rfl | rfl | rfl | rfl <;> assumption)) (by decide) ?_
      refine lv_bipush (v := (-2)) hx hb dX5_apart_145 (by decide) ?_
      rw [hQ]
      exact g_iret (wd := wC G ad) hx hb hr rfl hlocks hW hS (by skip; refine ⟨?_, Sm.rf⟩; rw [if_pos (by simp [k_rN, k_oN])]; simp only [t_rN, t_oN, apt]; (repeat' split) <;> first | contradiction | (simp [k_rN, k_oN, bI, nI_0, nI_one]; done) | rfl) dX5_apart_147
    · replace c11_1 := bI_0.mp c11_1
      try simp only [decide_eq_true_eq, decide_eq_false_iff_not] at c11_1
      refine lv_bipush (v := (-2)) hx hb dX5_apart_14 (by decide) ?_
      rw [hQ]
      exact g_iret (wd := wC G ad) hx hb hr rfl hlocks hW hS (by refine ⟨?_, Sm.rf⟩; simp [k_rN, c11_1]) dX5_apart_16

set_option maxHeartbeats 4000000 in
set_option maxRecDepth 100000 in
theorem c_X5_needs (l : Launch) (D : va_G) (G : Nat → ClassId) (ad : Nat → Nat → Nat) (hI : wI LC ad) (I : St) (r a b y : Int32) (w : Int64) (hM : okM I) (hKd : okK I) (hT : okT I) (hWt : okW I) : Met l yX5_needs wsX5_needs ({ frames := 7, cells := 0, slots := 0, locals := 297 } : Room) (gPre D G LC ad [.ref (ad 0 (0)), .int (r), .int (a), .int (b), .long (w), .int (y)] (wC G ad I)) (gQi D LC ad (wC G ad) (fun r9 u => r9 = (if ((okN (nI 4) r && (okN (nI 3) a && okN (nI 4) b)) && okR 0 (nI 1) y) = true then ndv (ftb I (tn r) (tn a * 4 + tn b) w (mtoP I (tn r) (wt I)) 64) y else -2) ∧ Sm gC I u)) 0 0 (wA LC ad) := by
  refine g_entry (C := RX5) (cc := cX5_needs) (maxL := 8) (ret := (some .int)) rfl (by decide) rfl (Nat.le_of_ble_eq_true rfl) (fun p e s m args below meth c Q ls hQ hx hb hr hts hown hlocks hml hW hK hl => ?_)
  have hl : lv_has ls 8 [(0, .ref (ad 0 (0))), (1, .int (r)), (2, .int (a)), (3, .int (b)), (4, .long (w)), (6, .int (y))] := hl
  have hS := va_S.rf (A := wA LC ad) (H0 := s.heap)
  refine lv_iload_n hx hb dX5_needs_0 rfl (lv_at hl 1 rfl) ?_
  refine g_pi (va_runS (As := [.int (r)]) (rest := []) ⟨hx, hb, hml, hown, hts⟩ (c_X5_isReplica l r) (va_cwS 1 hts gX5_needs_X5_isReplica rfl rfl rfl (by decide +kernel) ⟨Nat.le_of_ble_eq_true rfl, Nat.le_of_ble_eq_true rfl⟩) p_preS rfl rfl hl.1 rfl (lv_room (Nat.le_of_ble_eq_true rfl)) dX5_needs_1 ⟨Nat.le_refl _, Nat.le_refl _⟩) hW hS (fun H locs hW hS => ?_)
  refine lv_if_eq (tgt := 26) hx hb dX5_needs_4 (by decide) (fun c4_0 => ?_) (fun c4_0 => ?_)
  · replace c4_0 := bI_0.mp c4_0
    try simp only [decide_eq_true_eq, decide_eq_false_iff_not] at c4_0
    refine lv_bipush (v := (-2)) hx hb dX5_needs_26 (by decide) ?_
    rw [hQ]
    exact g_iret (wd := wC G ad) hx hb hr rfl hlocks hW hS (by refine ⟨?_, Sm.rf⟩; simp [c4_0]) dX5_needs_28
  · replace c4_0 := bI_1.mp c4_0
    obtain ⟨rN, hrN, erN⟩ := okN_nI (k := 4) (by decide) c4_0
    subst erN
    have t_rN : tn (nI rN) = rN := tn_nI (by omega)
    have k_rN : okN (nI 4) (nI rN) = true := okN_of (by decide) hrN
    refine lv_iload_n hx hb dX5_needs_7 rfl (lv_at hl 2 rfl) ?_
    refine lv_iload_n hx hb dX5_needs_8 rfl (lv_at hl 3 rfl) ?_
    refine g_pi (va_runS (As := [.int (a), .int (b)]) (rest := []) ⟨hx, hb, hml, hown, hts⟩ (c_X5_isObject l a b) (va_cwS 2 hts gX5_needs_X5_isObject rfl rfl rfl (by decide +kernel) ⟨Nat.le_of_ble_eq_true rfl, Nat.le_of_ble_eq_true rfl⟩) p_preS rfl rfl hl.1 rfl (lv_room (Nat.le_of_ble_eq_true rfl)) dX5_needs_9 ⟨Nat.le_refl _, Nat.le_refl _⟩) hW hS (fun H locs hW hS => ?_)
    refine lv_if_eq (tgt := 26) hx hb dX5_needs_12 (by decide) (fun c12_1 => ?_) (fun c12_1 => ?_)
    · replace c12_1 := bI_0.mp c12_1
      try simp only [decide_eq_true_eq, decide_eq_false_iff_not] at c12_1
      refine lv_bipush (v := (-2)) hx hb dX5_needs_26 (by decide) ?_
      rw [hQ]
      exact g_iret (wd := wC G ad) hx hb hr rfl hlocks hW hS (by refine ⟨?_, Sm.rf⟩; simp [k_rN, c12_1]) dX5_needs_28
    · replace c12_1 := bI_1.mp c12_1
      obtain ⟨aN, haN, eaN⟩ := okN_nI (k := 3) (by decide) (okAnd c12_1).1
      subst eaN
      have t_aN : tn (nI aN) = aN := tn_nI (by omega)
      have k_aN : okN (nI 3) (nI aN) = true := okN_of (by decide) haN
      obtain ⟨bN, hbN, ebN⟩ := okN_nI (k := 4) (by decide) (okAnd c12_1).2
      subst ebN
      have t_bN : tn (nI bN) = bN := tn_nI (by omega)
      have k_bN : okN (nI 4) (nI bN) = true := okN_of (by decide) hbN
      refine lv_iload hx hb dX5_needs_15 (lv_at hl 5 rfl) ?_
      refine lv_if_lt (tgt := 26) hx hb dX5_needs_17 (by decide) (fun c17_2 => ?_) (fun c17_2 => ?_)
      · have k17 : okR 0 (nI 1) y = false := okR_a c17_2
        refine lv_bipush (v := (-2)) hx hb dX5_needs_26 (by decide) ?_
        rw [hQ]
        exact g_iret (wd := wC G ad) hx hb hr rfl hlocks hW hS (by refine ⟨?_, Sm.rf⟩; simp [k_rN, k_aN, k_bN, k17]) dX5_needs_28
      · refine lv_iload hx hb dX5_needs_20 (lv_at hl 5 rfl) ?_
        refine lv_iconst (v := nI 1) hx hb dX5_needs_22 (by decide) ?_
        refine lv_icmp_le (tgt := 29) hx hb dX5_needs_23 (by decide) (fun c23_3 => ?_) (fun c23_3 => ?_)
        · have k17 : okR 0 (nI 1) y = true := okR_y c17_2 c23_3
          refine lv_aload_n hx hb dX5_needs_29 rfl (lv_at hl 0 rfl) ?_
          refine lv_iload_n hx hb dX5_needs_30 rfl (lv_at hl 1 rfl) ?_
          refine lv_iload_n hx hb dX5_needs_31 rfl (lv_at hl 2 rfl) ?_
          refine lv_iload_n hx hb dX5_needs_32 rfl (lv_at hl 3 rfl) ?_
          refine g_pi (va_runS (As := [.int (nI (aN)), .int (nI (bN))]) (rest := [.int (nI (rN)), .ref (ad 0 (0))]) ⟨hx, hb, hml, hown, hts⟩ (c_X5_objectAt l (aN) (bN)) (va_cwS 2 hts gX5_needs_X5_objectAt rfl rfl rfl (by decide +kernel) ⟨Nat.le_of_ble_eq_true rfl, Nat.le_of_ble_eq_true rfl⟩) p_preS rfl rfl hl.1 rfl (lv_room (Nat.le_of_ble_eq_true rfl)) dX5_needs_33 ⟨Nat.le_refl _, Nat.le_refl _⟩) hW hS (fun H locs hW hS => ?_)
          refine lv_lload hx hb dX5_needs_36 (lv_at hl 4 rfl) ?_
          refine g_ci (va_runV (As := [.int (nI (rN)), .int (nI (aN * 4 + bN)), .long (w)]) (rest := []) ⟨hx, hb, hml, hown, hts⟩ (c_X5_fewestToTell l D G ad hI I rN (aN * 4 + bN) w (show rN < 4 by omega) (show aN * 4 + bN < 12 by omega) hM hKd hT hWt) (cwV 3 hts gX5_needs_X5_fewestToTell rfl rfl rfl (by decide +kernel) ⟨Nat.le_of_ble_eq_true rfl, Nat.le_of_ble_eq_true rfl⟩) (g_preV hK hW 0 (0) (mC (by decide) (by decide)) rfl rfl) rfl rfl hl.1 rfl (lv_room (Nat.le_of_ble_eq_true rfl)) dX5_needs_38 ⟨Nat.le_refl _, Nat.le_refl _⟩) hS (fun x5 I5 H locs hp hW hS => ?_)
          obtain ⟨ex5, hu5⟩ := hp
          refine lv_istore (lv' := [(7, .int (x5)), (0, .ref (ad 0 (0))), (1, .int (nI (rN))), (2, .int (nI (aN))), (3, .int (nI (bN))), (4, .long (w)), (6, .int (y))]) hx hb dX5_needs_41 hl (by decide) rfl (fun ls hl => ?_)
          refine lv_iload hx hb dX5_needs_43 (lv_at hl 0 rfl) ?_
          refine lv_iconst (v := (-1)) hx hb dX5_needs_45 (by decide) ?_
          refine lv_icmp_ne (tgt := 51) hx hb dX5_needs_46 (by decide) (fun c46_5 => ?_) (fun c46_5 => ?_)
          · refine lv_iload hx hb dX5_needs_51 (lv_at hl 6 rfl) ?_
            refine lv_if_ne (tgt := 64) hx hb dX5_needs_53 (by decide) (fun c53_6 => ?_) (fun c53_6 => ?_)
            · refine lv_iload hx hb dX5_needs_64 (lv_at hl 0 rfl) ?_
              rw [hQ]
              exact g_iret (wd := wC G ad) hx hb hr rfl hlocks hW hS (by refine ⟨?_, by assumption⟩; rw [if_pos (by simp [k_rN, k_aN, k_bN, k17])]; simp only [t_rN, t_aN, t_bN]; subst ex5; simp only [ndv]; (repeat' split) <;> first | contradiction | rfl) dX5_needs_66
            · refine lv_iload hx hb dX5_needs_56 (lv_at hl 0 rfl) ?_
              refine g_pi (va_runS (As := [.int (x5)]) (rest := []) ⟨hx, hb, hml, hown, hts⟩ (c_J6_bitCount_0f7a4 l x5) (va_cwS 1 hts gX5_needs_J6_bitCount_0f7a4 rfl rfl rfl (by decide +kernel) ⟨Nat.le_of_ble_eq_true rfl, Nat.le_of_ble_eq_true rfl⟩) p_preS rfl rfl hl.1 rfl (lv_room (Nat.le_of_ble_eq_true rfl)) dX5_needs_58 ⟨Nat.le_refl _, Nat.le_refl _⟩) hW hS (fun H locs hW hS => ?_)
              refine lv_goto (tgt := 66) hx hb dX5_needs_61 (by decide) ?_
              rw [hQ]
              exact g_iret (wd := wC G ad) hx hb hr rfl hlocks hW hS (by refine ⟨?_, by assumption⟩; rw [if_pos (by simp [k_rN, k_aN, k_bN, k17])]; simp only [t_rN, t_aN, t_bN]; subst ex5; simp only [ndv]; (repeat' split) <;> first | contradiction | rfl) dX5_needs_66
          · refine lv_iconst (v := (-1)) hx hb dX5_needs_49 (by decide) ?_
            rw [hQ]
            exact g_iret (wd := wC G ad) hx hb hr rfl hlocks hW hS (by refine ⟨?_, by assumption⟩; rw [if_pos (by simp [k_rN, k_aN, k_bN, k17])]; simp only [t_rN, t_aN, t_bN]; subst ex5; simp only [ndv]; (repeat' split) <;> first | contradiction | rfl) dX5_needs_50
        · have k17 : okR 0 (nI 1) y = false := okR_b (Int32.not_le.mp c23_3)
          refine lv_bipush (v := (-2)) hx hb dX5_needs_26 (by decide) ?_
          rw [hQ]
          exact g_iret (wd := wC G ad) hx hb hr rfl hlocks hW hS (by refine ⟨?_, Sm.rf⟩; simp [k_rN, k_aN, k_bN, k17]) dX5_needs_28

set_option maxHeartbeats 4000000 in
set_option maxRecDepth 100000 in
theorem c_X5_drawn (l : Launch) (D : va_G) (G : Nat → ClassId) (ad : Nat → Nat → Nat) (hI : wI LC ad) (I : St) (z d : Int32) : Met l yX5_drawn wsX5_drawn ({ frames := 5, cells := 0, slots := 0, locals := 113 } : Room) (gPre D G LC ad [.ref (ad 0 (0)), .int (z), .int (d)] (wC G ad I)) (gQi D LC ad (wC G ad) (fun r9 u => r9 = (if okR 0 (nI 20) d = true then nI (cntS (dwP I z (tn d)) 35 4) else -2) ∧ Sm gC I u)) 0 0 (wA LC ad) := by
  refine g_entry (C := RX5) (cc := cX5_drawn) (maxL := 3) (ret := (some .int)) rfl (by decide) rfl (Nat.le_of_ble_eq_true rfl) (fun p e s m args below meth c Q ls hQ hx hb hr hts hown hlocks hml hW hK hl => ?_)
  have hl : lv_has ls 3 [(0, .ref (ad 0 (0))), (1, .int (z)), (2, .int (d))] := hl
  have hS := va_S.rf (A := wA LC ad) (H0 := s.heap)
  refine lv_iload_n hx hb dX5_drawn_0 rfl (lv_at hl 2 rfl) ?_
  refine lv_if_lt (tgt := 10) hx hb dX5_drawn_1 (by decide) (fun c1_0 => ?_) (fun c1_0 => ?_)
  · refine lv_bipush (v := (-2)) hx hb dX5_drawn_10 (by decide) ?_
    rw [hQ]
    exact g_iret (wd := wC G ad) hx hb hr rfl hlocks hW hS (by refine ⟨?_, Sm.rf⟩; simp [okR, c1_0]) dX5_drawn_12
  · refine lv_iload_n hx hb dX5_drawn_4 rfl (lv_at hl 2 rfl) ?_
    refine lv_bipush (v := nI 20) hx hb dX5_drawn_5 (by decide) ?_
    refine lv_icmp_le (tgt := 13) hx hb dX5_drawn_7 (by decide) (fun c7_1 => ?_) (fun c7_1 => ?_)
    · replace c7_1 := Int32.not_lt.mpr c7_1
      obtain ⟨dN, hdN, edN⟩ := rng (k := 20) (by decide) c1_0 c7_1
      subst edN
      have t_dN : tn (nI dN) = dN := tn_nI (by omega)
      have k_dN : okR 0 (nI 20) (nI dN) = true := okR_of (by decide) hdN
      refine lv_aload_n hx hb dX5_drawn_13 rfl (lv_at hl 0 rfl) ?_
      refine lv_iload_n hx hb dX5_drawn_14 rfl (lv_at hl 1 rfl) ?_
      refine lv_iload_n hx hb dX5_drawn_15 rfl (lv_at hl 2 rfl) ?_
      refine g_ci (va_runV (As := [.int (z), .int (nI (dN))]) (rest := []) ⟨hx, hb, hml, hown, hts⟩ (c_X5_alikeAfterDrawing l D G ad hI I z dN (show dN ≤ 20 by omega)) (cwV 2 hts gX5_drawn_X5_alikeAfterDrawing rfl rfl rfl (by decide +kernel) ⟨Nat.le_of_ble_eq_true rfl, Nat.le_of_ble_eq_true rfl⟩) (g_preV hK hW 0 (0) (mC (by decide) (by decide)) rfl rfl) rfl rfl hl.1 rfl (lv_room (Nat.le_of_ble_eq_true rfl)) dX5_drawn_16 ⟨Nat.le_refl _, Nat.le_refl _⟩) hS (fun x3 I3 H locs hp hW hS => ?_)
      obtain ⟨ex3, eI3⟩ := hp
      refine r_top ex3 ?_
      rw [hQ]
      exact g_iret (wd := wC G ad) hx hb hr rfl hlocks hW hS (by subst eI3 ex3; refine ⟨?_, Sm.mtP (Sm.dwP Sm.rf _ _) _ _⟩; rw [if_pos (by simp [k_dN])]; simp only [t_dN]) dX5_drawn_19
    · refine lv_bipush (v := (-2)) hx hb dX5_drawn_10 (by decide) ?_
      rw [hQ]
      exact g_iret (wd := wC G ad) hx hb hr rfl hlocks hW hS (by refine ⟨?_, Sm.rf⟩; simp [okR, c1_0, c7_1]) dX5_drawn_12

set_option maxHeartbeats 4000000 in
set_option maxRecDepth 100000 in
theorem c_X5_chance (l : Launch) (D : va_G) (G : Nat → ClassId) (ad : Nat → Nat → Nat) (hI : wI LC ad) (I : St) (z m0 y : Int32) : Met l yX5_chance wsX5_chance ({ frames := 5, cells := 0, slots := 0, locals := 113 } : Room) (gPre D G LC ad [.ref (ad 0 (0)), .int (z), .int (m0), .int (y)] (wC G ad I)) (gQi D LC ad (wC G ad) (fun r9 u => r9 = (if (okR (nI 1) (nI 8) m0 && okR 0 (nI 1) y) = true then chv I z (tn m0) (tn y) else -2) ∧ Sm gC I u)) 0 0 (wA LC ad) := by
  refine g_entry (C := RX5) (cc := cX5_chance) (maxL := 6) (ret := (some .int)) rfl (by decide) rfl (Nat.le_of_ble_eq_true rfl) (fun p e s m args below meth c Q ls hQ hx hb hr hts hown hlocks hml hW hK hl => ?_)
  have hl : lv_has ls 6 [(0, .ref (ad 0 (0))), (1, .int (z)), (2, .int (m0)), (3, .int (y))] := hl
  have hS := va_S.rf (A := wA LC ad) (H0 := s.heap)
  refine lv_iload_n hx hb dX5_chance_0 rfl (lv_at hl 2 rfl) ?_
  refine lv_iconst (v := nI 1) hx hb dX5_chance_1 (by decide) ?_
  refine lv_icmp_lt (tgt := 20) hx hb dX5_chance_2 (by decide) (fun c2_0 => ?_) (fun c2_0 => ?_)
  · refine lv_bipush (v := (-2)) hx hb dX5_chance_20 (by decide) ?_
    rw [hQ]
    exact g_iret (wd := wC G ad) hx hb hr rfl hlocks hW hS (by refine ⟨?_, Sm.rf⟩; simp [okR, c2_0]) dX5_chance_22
  · refine lv_iload_n hx hb dX5_chance_5 rfl (lv_at hl 2 rfl) ?_
    refine lv_bipush (v := nI 8) hx hb dX5_chance_6 (by decide) ?_
    refine lv_icmp_gt (tgt := 20) hx hb dX5_chance_8 (by decide) (fun c8_1 => ?_) (fun c8_1 => ?_)
    · refine lv_bipush (v := (-2)) hx hb dX5_chance_20 (by decide) ?_
      rw [hQ]
      exact g_iret (wd := wC G ad) hx hb hr rfl hlocks hW hS (by refine ⟨?_, Sm.rf⟩; simp [okR, c2_0, c8_1]) dX5_chance_22
    · obtain ⟨m0N, hlm0N, hm0N, em0N⟩ := rng1 (k := 8) (by decide) c2_0 c8_1
      subst em0N
      have t_m0N : tn (nI m0N) = m0N := tn_nI (by omega)
      have k_m0N : okR (nI 1) (nI 8) (nI m0N) = true := okR_of1 (by decide) hlm0N hm0N
      refine lv_iload_n hx hb dX5_chance_11 rfl (lv_at hl 3 rfl) ?_
      refine lv_if_lt (tgt := 20) hx hb dX5_chance_12 (by decide) (fun c12_2 => ?_) (fun c12_2 => ?_)
      · refine lv_bipush (v := (-2)) hx hb dX5_chance_20 (by decide) ?_
        rw [hQ]
        exact g_iret (wd := wC G ad) hx hb hr rfl hlocks hW hS (by refine ⟨?_, Sm.rf⟩; simp [k_m0N, okR, c2_0, c8_1, c12_2]) dX5_chance_22
      · refine lv_iload_n hx hb dX5_chance_15 rfl (lv_at hl 3 rfl) ?_
        refine lv_iconst (v := nI 1) hx hb dX5_chance_16 (by decide) ?_
        refine lv_icmp_le (tgt := 23) hx hb dX5_chance_17 (by decide) (fun c17_3 => ?_) (fun c17_3 => ?_)
        · replace c17_3 := Int32.not_lt.mpr c17_3
          obtain ⟨yN, hyN, eyN⟩ := rng (k := 1) (by decide) c12_2 c17_3
          subst eyN
          have t_yN : tn (nI yN) = yN := tn_nI (by omega)
          have k_yN : okR 0 (nI 1) (nI yN) = true := okR_of (by decide) hyN
          refine lv_iconst (v := nI 0) hx hb dX5_chance_23 (by decide) ?_
          refine lv_istore (lv' := [(4, .int (nI (0))), (0, .ref (ad 0 (0))), (1, .int (z)), (2, .int (nI (m0N))), (3, .int (nI (yN)))]) hx hb dX5_chance_24 hl (by decide) rfl (fun ls hl => ?_)
          refine lv_iconst (v := nI 0) hx hb dX5_chance_26 (by decide) ?_
          refine lv_istore (lv' := [(5, .int (nI (0))), (4, .int (nI (0))), (0, .ref (ad 0 (0))), (1, .int (z)), (2, .int (nI (m0N))), (3, .int (nI (yN)))]) hx hb dX5_chance_27 hl (by decide) rfl (fun ls hl => ?_)
          have K29 : ∀ (n : Nat) (i : Nat) (g : Nat) (v : St), (i ≤ m0N) → (g = chc I z i) → (Sm gC I v) → m0N < i + n → ∀ (H : Heap) (locs : List Loc), va_P D vwCl (wS LC ad (wC G ad v)) H → va_S (wA LC ad) s.heap H locs → ∀ (ls : Array Slot), lv_has ls 6 [(5, .int (nI (i))), (4, .int (nI (g))), (0, .ref (ad 0 (0))), (1, .int (z)), (2, .int (nI (m0N))), (3, .int (nI (yN)))] → W p l e ({ frames := 5, cells := 0, slots := 0, locals := 113 } : Room) s m args below meth c H locs 0 0 Q (F0 m 29 ls []) := by
            intro n29
            induction n29 with
            | zero => intro i g v hi hg hu hfu; exact absurd hfu (by omega)
            | succ n29 ih29 =>
              intro i g v hi hg hu hfu H locs hW hS ls hl
              refine lv_iload hx hb dX5_chance_29 (lv_at hl 0 rfl) ?_
              refine lv_iload_n hx hb dX5_chance_31 rfl (lv_at hl 4 rfl) ?_
              refine lv_icmp_ge (tgt := 58) hx hb dX5_chance_32 (by decide) (fun c32_4 => ?_) (fun c32_4 => ?_)
              · replace c32_4 : m0N ≤ i := (nI_leI (show m0N < 2147483648 by omega) (show i < 2147483648 by omega)).mp c32_4
                have hi8 : i = m0N := by omega
                have hgl := chc_le I z i
                refine lv_iload_n hx hb dX5_chance_58 rfl (lv_at hl 5 rfl) ?_
                refine lv_if_ne (tgt := 67) hx hb dX5_chance_59 (by decide) (fun c59_5 => ?_) (fun c59_5 => ?_)
                · replace c59_5 : ¬ yN = 0 := fun h => c59_5 ((nI_eq (show yN < 2147483648 by omega) (show 0 < 2147483648 by omega)).mpr h)
                  refine lv_iload_n hx hb dX5_chance_67 rfl (lv_at hl 4 rfl) ?_
                  refine lv_iload_n hx hb dX5_chance_68 rfl (lv_at hl 4 rfl) ?_
                  refine lv_iload hx hb dX5_chance_69 (lv_at hl 1 rfl) ?_
                  refine g_pi (va_runS (As := [.int (nI (m0N)), .int (nI (g))]) (rest := [.int (nI (m0N))]) ⟨hx, hb, hml, hown, hts⟩ (c_X5_greatestDivisorOfBoth l (m0N) (g) (by omega) (by omega)) (va_cwS 2 hts gX5_chance_X5_greatestDivisorOfBoth rfl rfl rfl (by decide +kernel) ⟨Nat.le_of_ble_eq_true rfl, Nat.le_of_ble_eq_true rfl⟩) p_preS rfl rfl hl.1 rfl (lv_room (Nat.le_of_ble_eq_true rfl)) dX5_chance_71 ⟨Nat.le_refl _, Nat.le_refl _⟩) hW hS (fun H locs hW hS => ?_)
                  have hgb := gdv_b m0N g m0N
                  refine lv_idiv hx hb dX5_chance_74 (nI_ne0 (by omega) (by omega)) (r_top (pk_div (by omega) (by omega) (by omega)) ?_)
                  rw [hQ]
                  exact g_iret (wd := wC G ad) hx hb hr rfl hlocks hW hS (by refine ⟨?_, hu⟩; rw [if_pos (by simp [k_m0N, k_yN])]; simp only [t_m0N, t_yN, chv]; subst hi8; subst hg; (repeat' split) <;> first | rfl | contradiction | (exfalso; omega)) dX5_chance_75
                · replace c59_5 : yN = 0 := (nI_eq (show yN < 2147483648 by omega) (show 0 < 2147483648 by omega)).mp c59_5
                  refine lv_iload hx hb dX5_chance_62 (lv_at hl 1 rfl) ?_
                  refine lv_goto (tgt := 68) hx hb dX5_chance_64 (by decide) ?_
                  refine lv_iload_n hx hb dX5_chance_68 rfl (lv_at hl 4 rfl) ?_
                  refine lv_iload hx hb dX5_chance_69 (lv_at hl 1 rfl) ?_
                  refine g_pi (va_runS (As := [.int (nI (m0N)), .int (nI (g))]) (rest := [.int (nI (g))]) ⟨hx, hb, hml, hown, hts⟩ (c_X5_greatestDivisorOfBoth l (m0N) (g) (by omega) (by omega)) (va_cwS 2 hts gX5_chance_X5_greatestDivisorOfBoth rfl rfl rfl (by decide +kernel) ⟨Nat.le_of_ble_eq_true rfl, Nat.le_of_ble_eq_true rfl⟩) p_preS rfl rfl hl.1 rfl (lv_room (Nat.le_of_ble_eq_true rfl)) dX5_chance_71 ⟨Nat.le_refl _, Nat.le_refl _⟩) hW hS (fun H locs hW hS => ?_)
                  have hgb := gdv_b m0N g m0N
                  refine lv_idiv hx hb dX5_chance_74 (nI_ne0 (by omega) (by omega)) (r_top (pk_div (by omega) (by omega) (by omega)) ?_)
                  rw [hQ]
                  exact g_iret (wd := wC G ad) hx hb hr rfl hlocks hW hS (by refine ⟨?_, hu⟩; rw [if_pos (by simp [k_m0N, k_yN])]; simp only [t_m0N, t_yN, chv]; subst hi8; subst hg; (repeat' split) <;> first | rfl | contradiction | (exfalso; omega)) dX5_chance_75
              · replace c32_4 : ¬ (m0N ≤ i) := fun h => c32_4 ((nI_leI (show m0N < 2147483648 by omega) (show i < 2147483648 by omega)).mpr h)
                refine lv_aload_n hx hb dX5_chance_35 rfl (lv_at hl 2 rfl) ?_
                refine lv_iload_n hx hb dX5_chance_36 rfl (lv_at hl 3 rfl) ?_
                refine lv_iload hx hb dX5_chance_37 (lv_at hl 0 rfl) ?_
                refine lv_iadd hx hb dX5_chance_39 (lv_topi (fun x7 ex7 => ?_))
                refine lv_bipush (v := nI 8) hx hb dX5_chance_40 (by decide) ?_
                refine g_ci (va_runV (As := [.int (x7), .int (nI (8))]) (rest := []) ⟨hx, hb, hml, hown, hts⟩ (c_X5_alikeAfterDrawing l D G ad hI v x7 8 (by decide)) (cwV 2 hts gX5_chance_X5_alikeAfterDrawing rfl rfl rfl (by decide +kernel) ⟨Nat.le_of_ble_eq_true rfl, Nat.le_of_ble_eq_true rfl⟩) (g_preV hK hW 0 (0) (mC (by decide) (by decide)) rfl rfl) rfl rfl hl.1 rfl (lv_room (Nat.le_of_ble_eq_true rfl)) dX5_chance_42 ⟨Nat.le_refl _, Nat.le_refl _⟩) hS (fun x8 I8 H locs hp hW hS => ?_)
                obtain ⟨ex8, eI8⟩ := hp
                refine r_top ex8 ?_
                have hc4 := cntS_le (dwP v x7 8) 35 4
                have hdc : cntS (dwP v x7 8) 35 4 = cntS (dwP I (z + nI i) 8) 35 4 := by rw [ex7]; exact dw_cnt hu _ _
                have huI8 : Sm gC I I8 := by rw [eI8]; exact Sm.mtP (Sm.dwP hu _ _) _ _
                refine lv_iconst (v := nI 4) hx hb dX5_chance_45 (by decide) ?_
                refine lv_icmp_ne (tgt := 52) hx hb dX5_chance_46 (by decide) (fun c46_8 => ?_) (fun c46_8 => ?_)
                · replace c46_8 : ¬ cntS (dwP v x7 8) 35 4 = 4 := fun h => c46_8 ((nI_eq (show cntS (dwP v x7 8) 35 4 < 2147483648 by omega) (show 4 < 2147483648 by omega)).mpr h)
                  refine lv_iinc (v := nI (i + 1)) (lv' := [(5, .int (nI (i + 1))), (4, .int (nI (g))), (0, .ref (ad 0 (0))), (1, .int (z)), (2, .int (nI (m0N))), (3, .int (nI (yN)))]) hx hb dX5_chance_52 hl (k := 0) rfl (nI_inc i 1) (by decide) rfl (fun ls hl => ?_)
                  refine lv_goto (tgt := 29) hx hb dX5_chance_55 (by decide) ?_
                  exact ih29 (i + 1) (g) (I8) (by omega) (by rw [chc, if_neg (fun q9 => c46_8 (hdc.trans q9)), hg]) huI8 (by omega) _ _ hW hS _ (lv_sub hl [0, 1, 2, 3, 4, 5] rfl)
                · replace c46_8 : cntS (dwP v x7 8) 35 4 = 4 := (nI_eq (show cntS (dwP v x7 8) 35 4 < 2147483648 by omega) (show 4 < 2147483648 by omega)).mp c46_8
                  refine lv_iinc (v := nI (g + 1)) (lv' := [(4, .int (nI (g + 1))), (5, .int (nI (i))), (0, .ref (ad 0 (0))), (1, .int (z)), (2, .int (nI (m0N))), (3, .int (nI (yN)))]) hx hb dX5_chance_49 hl (k := 1) rfl (nI_inc g 1) (by decide) rfl (fun ls hl => ?_)
                  refine lv_iinc (v := nI (i + 1)) (lv' := [(5, .int (nI (i + 1))), (4, .int (nI (g + 1))), (0, .ref (ad 0 (0))), (1, .int (z)), (2, .int (nI (m0N))), (3, .int (nI (yN)))]) hx hb dX5_chance_52 hl (k := 1) rfl (nI_inc i 1) (by decide) rfl (fun ls hl => ?_)
                  refine lv_goto (tgt := 29) hx hb dX5_chance_55 (by decide) ?_
                  exact ih29 (i + 1) (g + 1) (I8) (by omega) (by rw [chc, if_pos (hdc.symm.trans c46_8), hg]) huI8 (by omega) _ _ hW hS _ (lv_sub hl [0, 1, 2, 3, 4, 5] rfl)
          exact K29 (m0N + 1) (0) (0) (I) (Nat.zero_le _) rfl Sm.rf (by omega) _ _ hW hS _ (lv_sub hl [0, 1, 2, 3, 4, 5] rfl)
        · refine lv_bipush (v := (-2)) hx hb dX5_chance_20 (by decide) ?_
          rw [hQ]
          exact g_iret (wd := wC G ad) hx hb hr rfl hlocks hW hS (by refine ⟨?_, Sm.rf⟩; simp [k_m0N, okR, c2_0, c8_1, c12_2, c17_3]) dX5_chance_22
