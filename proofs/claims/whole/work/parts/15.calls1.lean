/-! ===== calls of JoinedStores, one ===== -/
set_option maxHeartbeats 4000000 in
set_option maxRecDepth 100000 in
theorem c_X5_isMessage (l : Launch) (D : va_G) (G : Nat → ClassId) (ad : Nat → Nat → Nat) (hI : wI LC ad) (I : St) (m0 : Int32) (hT : okT I) : Met l yX5_isMessage wsX5_isMessage ({ frames := 0, cells := 0, slots := 0, locals := 0 } : Room) (gPre D G LC ad [.ref (ad 0 (0)), .int (m0)] (wC G ad I)) (gQi D LC ad (wC G ad) (fun r9 u => r9 = bI (okN (nI (wt I)) m0) ∧ u = I)) 0 0 (wA LC ad) := by
  refine g_entry (C := RX5) (cc := cX5_isMessage) (maxL := 2) (ret := (some .boolean)) rfl (by decide) rfl (Nat.le_of_ble_eq_true rfl) (fun p e s m args below meth c Q ls hQ hx hb hr hts hown hlocks hml hW hK hl => ?_)
  have hl : lv_has ls 2 [(0, .ref (ad 0 (0))), (1, .int (m0))] := hl
  have hS := va_S.rf (A := wA LC ad) (H0 := s.heap)
  have hinX2 : ∀ w ∈ wsX20, w ∈ wsX5_isMessage := by decide +kernel
  have hinX5 : ∀ w ∈ wsX50, w ∈ wsX5_isMessage := by decide +kernel
  have hf10 := hts (.fieldLink RX5 10 "JoinedStores" "now" "LJoinedStores$Network;") (by decide +kernel)
  have hf148 := hts (.fieldLink RX5 148 "JoinedStores$Network" "waits" "I") (by decide +kernel)
  refine lv_iload_n hx hb dX5_isMessage_0 rfl (lv_at hl 1 rfl) ?_
  refine lv_if_lt (tgt := 19) hx hb dX5_isMessage_1 (by decide) (fun c1_0 => ?_) (fun c1_0 => ?_)
  · refine lv_iconst (v := nI 0) hx hb dX5_isMessage_19 (by decide) ?_
    rw [hQ]
    exact g_iret (wd := wC G ad) hx hb hr (by decide) hlocks hW hS (by skip; refine ⟨?_, rfl⟩; simp [okN, bI, nI_0, nI_one, c1_0]) dX5_isMessage_20
  · refine lv_iload_n hx hb dX5_isMessage_4 rfl (lv_at hl 1 rfl) ?_
    refine lv_aload_n hx hb dX5_isMessage_5 rfl (lv_at hl 0 rfl) ?_
    refine r_get hx hb hts hown hK hW 0 (0) 0 (mC (by decide) (by decide)) rfl rfl hinX5 (by decide) hf10 rfl rfl dX5_isMessage_6 ?_
    refine r_get hx hb hts hown hK hW 1 (0) 6 (mC (by decide) (by decide)) rfl rfl hinX2 (by decide) hf148 rfl rfl dX5_isMessage_9 (lv_topi (fun x2 ex2 => ?_))
    refine r_top (show x2 = nI (wt I) from (ex2.trans hT.1)) ?_
    refine lv_icmp_ge (tgt := 19) hx hb dX5_isMessage_12 (by decide) (fun c12_2 => ?_) (fun c12_2 => ?_)
    · refine lv_iconst (v := nI 0) hx hb dX5_isMessage_19 (by decide) ?_
      rw [hQ]
      exact g_iret (wd := wC G ad) hx hb hr (by decide) hlocks hW hS (by subst ex2; refine ⟨?_, rfl⟩; simp [okN, bI, nI_0, nI_one, c1_0, c12_2]) dX5_isMessage_20
    · refine lv_iconst (v := nI 1) hx hb dX5_isMessage_15 (by decide) ?_
      refine lv_goto (tgt := 20) hx hb dX5_isMessage_16 (by decide) ?_
      rw [hQ]
      exact g_iret (wd := wC G ad) hx hb hr (by decide) hlocks hW hS (by subst ex2; refine ⟨?_, rfl⟩; simp [okN, bI, nI_0, nI_one, c1_0, c12_2]) dX5_isMessage_20

set_option maxHeartbeats 4000000 in
set_option maxRecDepth 100000 in
theorem c_X5_refusalOfItem (l : Launch) (D : va_G) (G : Nat → ClassId) (ad : Nat → Nat → Nat) (hI : wI LC ad) (I : St) (a b : Int32) : Met l yX5_refusalOfItem wsX5_refusalOfItem ({ frames := 1, cells := 0, slots := 0, locals := 20 } : Room) (gPre D G LC ad [.ref (ad 0 (0)), .int (a), .int (b)] (wC G ad I)) (gQi D LC ad (wC G ad) (fun r9 u => r9 = rfi I a b ∧ u = I)) 0 0 (wA LC ad) := by
  refine g_entry (C := RX5) (cc := cX5_refusalOfItem) (maxL := 3) (ret := (some .int)) rfl (by decide) rfl (Nat.le_of_ble_eq_true rfl) (fun p e s m args below meth c Q ls hQ hx hb hr hts hown hlocks hml hW hK hl => ?_)
  have hl : lv_has ls 3 [(0, .ref (ad 0 (0))), (1, .int (a)), (2, .int (b))] := hl
  have hS := va_S.rf (A := wA LC ad) (H0 := s.heap)
  have hinX3 : ∀ w ∈ wsX30, w ∈ wsX5_refusalOfItem := by decide +kernel
  have hinX5 : ∀ w ∈ wsX50, w ∈ wsX5_refusalOfItem := by decide +kernel
  have hf21 := hts (.fieldLink RX5 21 "JoinedStores" "sheets" "[LJoinedStores$Sheet;") (by decide +kernel)
  have hf233 := hts (.fieldLink RX5 233 "JoinedStores$Sheet" "length" "I") (by decide +kernel)
  refine lv_iload_n hx hb dX5_refusalOfItem_0 rfl (lv_at hl 1 rfl) ?_
  refine g_pi (va_runS (As := [.int (a)]) (rest := []) ⟨hx, hb, hml, hown, hts⟩ (c_X5_isSheet l a) (va_cwS 1 hts gX5_refusalOfItem_X5_isSheet rfl rfl rfl (by decide +kernel) ⟨Nat.le_of_ble_eq_true rfl, Nat.le_of_ble_eq_true rfl⟩) p_preS rfl rfl hl.1 rfl (lv_room (Nat.le_of_ble_eq_true rfl)) dX5_refusalOfItem_1 ⟨Nat.le_refl _, Nat.le_refl _⟩) hW hS (fun H locs hW hS => ?_)
  refine lv_if_ne (tgt := 10) hx hb dX5_refusalOfItem_4 (by decide) (fun c4_0 => ?_) (fun c4_0 => ?_)
  · replace c4_0 := bI_1.mp c4_0
    obtain ⟨aN, haN, eaN⟩ := okN_nI (k := 4) (by decide) c4_0
    subst eaN
    have t_aN : tn (nI aN) = aN := tn_nI (by omega)
    have k_aN : okN (nI 4) (nI aN) = true := okN_of (by decide) haN
    refine lv_aload_n hx hb dX5_refusalOfItem_10 rfl (lv_at hl 0 rfl) ?_
    refine r_get hx hb hts hown hK hW 0 (0) 3 (mC (by decide) (by decide)) rfl rfl hinX5 (by decide) hf21 rfl rfl dX5_refusalOfItem_11 ?_
    refine lv_iload_n hx hb dX5_refusalOfItem_14 rfl (lv_at hl 1 rfl) ?_
    refine r_aald hx hb hK hW 3 2 (0) (aN) (mC (by decide) (by decide)) rfl rfl (show aN < 4 by omega) (by decide) rfl rfl dX5_refusalOfItem_15 ?_
    refine g_ci (va_runV (As := []) (rest := []) ⟨hx, hb, hml, hown, hts⟩ (c_X3_isMissing l D G ad hI I aN (show aN < 4 by omega)) (cwV 0 hts gX5_refusalOfItem_X3_isMissing rfl rfl rfl (by decide +kernel) ⟨Nat.le_of_ble_eq_true rfl, Nat.le_of_ble_eq_true rfl⟩) (g_preV hK hW 7 (aN) (mC (by decide) (show aN < 4 by omega)) rfl rfl) rfl rfl hl.1 rfl (lv_room (Nat.le_of_ble_eq_true rfl)) dX5_refusalOfItem_16 ⟨Nat.le_refl _, Nat.le_refl _⟩) hS (fun x2 I2 H locs hp hW hS => ?_)
    obtain ⟨ex2, eI2⟩ := hp
    rw [eI2] at hW
    clear eI2
    refine lv_if_eq (tgt := 25) hx hb dX5_refusalOfItem_19 (by decide) (fun c19_2 => ?_) (fun c19_2 => ?_)
    · rw [ex2] at c19_2
      replace c19_2 := bI_0.mp c19_2
      try simp only [decide_eq_true_eq, decide_eq_false_iff_not] at c19_2
      refine lv_iload_n hx hb dX5_refusalOfItem_25 rfl (lv_at hl 2 rfl) ?_
      refine lv_if_lt (tgt := 46) hx hb dX5_refusalOfItem_26 (by decide) (fun c26_3 => ?_) (fun c26_3 => ?_)
      · refine lv_bipush (v := (-12)) hx hb dX5_refusalOfItem_46 (by decide) ?_
        rw [hQ]
        exact g_iret (wd := wC G ad) hx hb hr rfl hlocks hW hS (by subst ex2; refine ⟨?_, rfl⟩; simp [rfi, k_aN, c19_2, c26_3, t_aN]) dX5_refusalOfItem_48
      · refine lv_iload_n hx hb dX5_refusalOfItem_29 rfl (lv_at hl 2 rfl) ?_
        refine lv_aload_n hx hb dX5_refusalOfItem_30 rfl (lv_at hl 0 rfl) ?_
        refine r_get hx hb hts hown hK hW 0 (0) 3 (mC (by decide) (by decide)) rfl rfl hinX5 (by decide) hf21 rfl rfl dX5_refusalOfItem_31 ?_
        refine lv_iload_n hx hb dX5_refusalOfItem_34 rfl (lv_at hl 1 rfl) ?_
        refine r_aald hx hb hK hW 3 2 (0) (aN) (mC (by decide) (by decide)) rfl rfl (show aN < 4 by omega) (by decide) rfl rfl dX5_refusalOfItem_35 ?_
        refine r_get hx hb hts hown hK hW 7 (aN) 1 (mC (by decide) (show aN < 4 by omega)) rfl rfl hinX3 (by decide) hf233 rfl rfl dX5_refusalOfItem_36 (lv_topi (fun x5 ex5 => ?_))
        refine lv_icmp_ge (tgt := 46) hx hb dX5_refusalOfItem_39 (by decide) (fun c39_5 => ?_) (fun c39_5 => ?_)
        · refine lv_bipush (v := (-12)) hx hb dX5_refusalOfItem_46 (by decide) ?_
          rw [hQ]
          exact g_iret (wd := wC G ad) hx hb hr rfl hlocks hW hS (by subst ex5 ex2; refine ⟨?_, rfl⟩; simp [rfi, k_aN, c19_2, c26_3, c39_5, t_aN]) dX5_refusalOfItem_48
        · refine lv_iconst (v := nI 0) hx hb dX5_refusalOfItem_42 (by decide) ?_
          refine lv_goto (tgt := 48) hx hb dX5_refusalOfItem_43 (by decide) ?_
          rw [hQ]
          exact g_iret (wd := wC G ad) hx hb hr rfl hlocks hW hS (by subst ex5 ex2; refine ⟨?_, rfl⟩; simp [rfi, k_aN, c19_2, c26_3, c39_5, t_aN]) dX5_refusalOfItem_48
    · rw [ex2] at c19_2
      replace c19_2 := bI_1.mp c19_2
      try simp only [decide_eq_true_eq, decide_eq_false_iff_not] at c19_2
      refine lv_bipush (v := (-11)) hx hb dX5_refusalOfItem_22 (by decide) ?_
      rw [hQ]
      exact g_iret (wd := wC G ad) hx hb hr rfl hlocks hW hS (by subst ex2; refine ⟨?_, rfl⟩; simp [rfi, k_aN, c19_2, t_aN]) dX5_refusalOfItem_24
  · replace c4_0 := bI_0.mp c4_0
    try simp only [decide_eq_true_eq, decide_eq_false_iff_not] at c4_0
    refine lv_bipush (v := (-2)) hx hb dX5_refusalOfItem_7 (by decide) ?_
    rw [hQ]
    exact g_iret (wd := wC G ad) hx hb hr rfl hlocks hW hS (by skip; refine ⟨?_, rfl⟩; simp [rfi, c4_0]) dX5_refusalOfItem_9

set_option maxHeartbeats 4000000 in
set_option maxRecDepth 100000 in
theorem c_X5_add (l : Launch) (D : va_G) (G : Nat → ClassId) (ad : Nat → Nat → Nat) (hI : wI LC ad) (I : St) (r a b v : Int32) (hM : okM I) (hKd : okK I) : Met l yX5_add wsX5_add ({ frames := 5, cells := 0, slots := 0, locals := 122 } : Room) (gPre D G LC ad [.ref (ad 0 (0)), .int (r), .int (a), .int (b), .int (v)] (wC G ad I)) (gQi D LC ad (wC G ad) (fun r9 u => r9 = (if (okN (nI 4) r && (okN (nI 3) a && okN (nI 4) b)) = true then (if mk I (tn r) < 31 then nI (mk I (tn r)) else -4) else -2) ∧ u = (if (okN (nI 4) r && (okN (nI 3) a && okN (nI 4) b) && decide (mk I (tn r) < 31)) = true then adS I (tn r) (tn a * 4 + tn b) v else I))) 0 0 (wA LC ad) := by
  refine g_entry (C := RX5) (cc := cX5_add) (maxL := 7) (ret := (some .int)) rfl (by decide) rfl (Nat.le_of_ble_eq_true rfl) (fun p e s m args below meth c Q ls hQ hx hb hr hts hown hlocks hml hW hK hl => ?_)
  have hl : lv_has ls 7 [(0, .ref (ad 0 (0))), (1, .int (r)), (2, .int (a)), (3, .int (b)), (4, .int (v))] := hl
  have hS := va_S.rf (A := wA LC ad) (H0 := s.heap)
  have hinX0 : ∀ w ∈ wsX00, w ∈ wsX5_add := by decide +kernel
  have hinX2 : ∀ w ∈ wsX20, w ∈ wsX5_add := by decide +kernel
  have hinX5 : ∀ w ∈ wsX50, w ∈ wsX5_add := by decide +kernel
  have hf10 := hts (.fieldLink RX5 10 "JoinedStores" "now" "LJoinedStores$Network;") (by decide +kernel)
  have hf28 := hts (.fieldLink RX5 28 "JoinedStores" "fresh" "LJoinedStores$Store;") (by decide +kernel)
  have hf51 := hts (.fieldLink RX5 51 "JoinedStores$Network" "dots" "LJoinedStores$Dots;") (by decide +kernel)
  have hf55 := hts (.fieldLink RX5 55 "JoinedStores$Dots" "made" "[I") (by decide +kernel)
  have hf68 := hts (.fieldLink RX5 68 "JoinedStores$Network" "stores" "[LJoinedStores$Store;") (by decide +kernel)
  refine lv_iload_n hx hb dX5_add_0 rfl (lv_at hl 1 rfl) ?_
  refine g_pi (va_runS (As := [.int (r)]) (rest := []) ⟨hx, hb, hml, hown, hts⟩ (c_X5_isReplica l r) (va_cwS 1 hts gX5_add_X5_isReplica rfl rfl rfl (by decide +kernel) ⟨Nat.le_of_ble_eq_true rfl, Nat.le_of_ble_eq_true rfl⟩) p_preS rfl rfl hl.1 rfl (lv_room (Nat.le_of_ble_eq_true rfl)) dX5_add_1 ⟨Nat.le_refl _, Nat.le_refl _⟩) hW hS (fun H locs hW hS => ?_)
  refine lv_if_eq (tgt := 15) hx hb dX5_add_4 (by decide) (fun c4_0 => ?_) (fun c4_0 => ?_)
  · replace c4_0 := bI_0.mp c4_0
    try simp only [decide_eq_true_eq, decide_eq_false_iff_not] at c4_0
    refine lv_bipush (v := (-2)) hx hb dX5_add_15 (by decide) ?_
    rw [hQ]
    exact g_iret (wd := wC G ad) hx hb hr rfl hlocks hW hS (by skip; refine ⟨?_, ?_⟩ <;> simp [c4_0]) dX5_add_17
  · replace c4_0 := bI_1.mp c4_0
    obtain ⟨rN, hrN, erN⟩ := okN_nI (k := 4) (by decide) c4_0
    subst erN
    have t_rN : tn (nI rN) = rN := tn_nI (by omega)
    have k_rN : okN (nI 4) (nI rN) = true := okN_of (by decide) hrN
    refine lv_iload_n hx hb dX5_add_7 rfl (lv_at hl 2 rfl) ?_
    refine lv_iload_n hx hb dX5_add_8 rfl (lv_at hl 3 rfl) ?_
    refine g_pi (va_runS (As := [.int (a), .int (b)]) (rest := []) ⟨hx, hb, hml, hown, hts⟩ (c_X5_isObject l a b) (va_cwS 2 hts gX5_add_X5_isObject rfl rfl rfl (by decide +kernel) ⟨Nat.le_of_ble_eq_true rfl, Nat.le_of_ble_eq_true rfl⟩) p_preS rfl rfl hl.1 rfl (lv_room (Nat.le_of_ble_eq_true rfl)) dX5_add_9 ⟨Nat.le_refl _, Nat.le_refl _⟩) hW hS (fun H locs hW hS => ?_)
    refine lv_if_ne (tgt := 18) hx hb dX5_add_12 (by decide) (fun c12_1 => ?_) (fun c12_1 => ?_)
    · replace c12_1 := bI_1.mp c12_1
      obtain ⟨aN, haN, eaN⟩ := okN_nI (k := 3) (by decide) (okAnd c12_1).1
      subst eaN
      have t_aN : tn (nI aN) = aN := tn_nI (by omega)
      have k_aN : okN (nI 3) (nI aN) = true := okN_of (by decide) haN
      obtain ⟨bN, hbN, ebN⟩ := okN_nI (k := 4) (by decide) (okAnd c12_1).2
      subst ebN
      have t_bN : tn (nI bN) = bN := tn_nI (by omega)
      have k_bN : okN (nI 4) (nI bN) = true := okN_of (by decide) hbN
      refine lv_aload_n hx hb dX5_add_18 rfl (lv_at hl 0 rfl) ?_
      refine r_get hx hb hts hown hK hW 0 (0) 0 (mC (by decide) (by decide)) rfl rfl hinX5 (by decide) hf10 rfl rfl dX5_add_19 ?_
      refine r_get hx hb hts hown hK hW 1 (0) 0 (mC (by decide) (by decide)) rfl rfl hinX2 (by decide) hf51 rfl rfl dX5_add_22 ?_
      refine r_get hx hb hts hown hK hW 5 (0) 0 (mC (by decide) (by decide)) rfl rfl hinX0 (by decide) hf55 rfl rfl dX5_add_25 ?_
      refine lv_iload_n hx hb dX5_add_28 rfl (lv_at hl 1 rfl) ?_
      refine rC_iald hx hb hK hW 12 (0) (rN) (by decide) (by decide) (by decide) (show rN < 4 by omega) rfl dX5_add_29 (fun x3 ex3 => ?_)
      have hm31 := (hM rN (by omega)).2
      refine r_top (show x3 = nI (mk I rN) from (ex3.trans (hM rN (by omega)).1)) ?_
      refine lv_bipush (v := nI 31) hx hb dX5_add_30 (by decide) ?_
      refine lv_icmp_lt (tgt := 38) hx hb dX5_add_32 (by decide) (fun c32_3 => ?_) (fun c32_3 => ?_)
      · replace c32_3 : mk I rN < 31 := (nI_ltI (show mk I rN < 2147483648 by omega) (show 31 < 2147483648 by omega)).mp c32_3
        refine lv_iload_n hx hb dX5_add_38 rfl (lv_at hl 2 rfl) ?_
        refine lv_iload_n hx hb dX5_add_39 rfl (lv_at hl 3 rfl) ?_
        refine g_pi (va_runS (As := [.int (nI (aN)), .int (nI (bN))]) (rest := []) ⟨hx, hb, hml, hown, hts⟩ (c_X5_objectAt l (aN) (bN)) (va_cwS 2 hts gX5_add_X5_objectAt rfl rfl rfl (by decide +kernel) ⟨Nat.le_of_ble_eq_true rfl, Nat.le_of_ble_eq_true rfl⟩) p_preS rfl rfl hl.1 rfl (lv_room (Nat.le_of_ble_eq_true rfl)) dX5_add_40 ⟨Nat.le_refl _, Nat.le_refl _⟩) hW hS (fun H locs hW hS => ?_)
        refine lv_istore (lv' := [(5, .int (nI (aN * 4 + bN))), (0, .ref (ad 0 (0))), (1, .int (nI (rN))), (2, .int (nI (aN))), (3, .int (nI (bN))), (4, .int (v))]) hx hb dX5_add_43 hl (by decide) rfl (fun ls hl => ?_)
        refine lv_aload_n hx hb dX5_add_45 rfl (lv_at hl 1 rfl) ?_
        refine r_get hx hb hts hown hK hW 0 (0) 4 (mC (by decide) (by decide)) rfl rfl hinX5 (by decide) hf28 rfl rfl dX5_add_46 ?_
        refine g_cv (va_runV (As := []) (rest := []) ⟨hx, hb, hml, hown, hts⟩ (c_X4_empty l D G ad hI I 33 (by decide)) (cwV 0 hts gX5_add_X4_empty rfl rfl rfl (by decide +kernel) ⟨Nat.le_of_ble_eq_true rfl, Nat.le_of_ble_eq_true rfl⟩) (g_preV hK hW 4 (33) (mC (by decide) (by decide)) rfl rfl) rfl rfl hl.1 rfl (lv_room (Nat.le_of_ble_eq_true rfl)) dX5_add_49 ⟨Nat.le_refl _, Nat.le_refl _⟩) hS (fun I5 H locs hp hW hS => ?_)
        have eI5 : I5 = clr I 33 := hp
        refine lv_aload_n hx hb dX5_add_52 rfl (lv_at hl 1 rfl) ?_
        refine lv_aload_n hx hb dX5_add_53 rfl (lv_at hl 1 rfl) ?_
        refine r_get hx hb hts hown hK hW 0 (0) 0 (mC (by decide) (by decide)) rfl rfl hinX5 (by decide) hf10 rfl rfl dX5_add_54 ?_
        refine r_get hx hb hts hown hK hW 1 (0) 2 (mC (by decide) (by decide)) rfl rfl hinX2 (by decide) hf68 rfl rfl dX5_add_57 ?_
        refine lv_iload_n hx hb dX5_add_60 rfl (lv_at hl 2 rfl) ?_
        refine r_aald hx hb hK hW 1 3 (0) (rN) (mC (by decide) (by decide)) rfl rfl (show rN < 4 by omega) (by decide) rfl rfl dX5_add_61 ?_
        refine lv_iload hx hb dX5_add_62 (lv_at hl 0 rfl) ?_
        refine lv_iload hx hb dX5_add_64 (lv_at hl 5 rfl) ?_
        have hM_5 : okM I5 := okM_e (fun r9 => by subst eI5 ex3; simp [clr_n, cpy_n, jn_n, mb_n, mg_n, jwP_n, tcP_n, up3_f, up3_s, mkd, gst_n, mset_n, psd_w, rsP_n, dr_n, lrP_n]) hM
        have hK_6 : okK I5 := okK_e (fun o9 => by subst eI5 ex3; simp [clr_n, cpy_n, jn_n, mb_n, mg_n, jwP_n, tcP_n, up3_f, up3_s, mkd, gst_n, mset_n, psd_w, rsP_n, dr_n, lrP_n]) hKd
        refine g_cv (va_runV (As := [.ref (ad 4 (rN)), .int (nI (aN * 4 + bN)), .int (v)]) (rest := []) ⟨hx, hb, hml, hown, hts⟩ (c_X5_markGoneByAdding l D G ad hI I5 rN (aN * 4 + bN) v (show rN < 59 by omega) (show aN * 4 + bN < 12 by omega) hM_5 hK_6) (cwV 3 hts gX5_add_X5_markGoneByAdding rfl rfl rfl (by decide +kernel) ⟨Nat.le_of_ble_eq_true rfl, Nat.le_of_ble_eq_true rfl⟩) (g_preV hK hW 0 (0) (mC (by decide) (by decide)) rfl rfl) rfl rfl hl.1 rfl (lv_room (Nat.le_of_ble_eq_true rfl)) dX5_add_66 ⟨Nat.le_refl _, Nat.le_refl _⟩) hS (fun I8 H locs hp hW hS => ?_)
        have eI8 : I8 = mg I5 rN (aN * 4 + bN) v := hp
        have hmm : mk I8 rN = mk I rN := mk_e (fun r9 => by subst eI8 eI5 ex3; simp [clr_n, cpy_n, jn_n, mb_n, mg_n, jwP_n, tcP_n, up3_f, up3_s, mkd, gst_n, mset_n, psd_w, rsP_n, dr_n, lrP_n]) rN
        have hm31 : mk I8 rN < 31 := by rw [hmm]; omega
        refine lv_aload_n hx hb dX5_add_69 rfl (lv_at hl 1 rfl) ?_
        refine r_get hx hb hts hown hK hW 0 (0) 0 (mC (by decide) (by decide)) rfl rfl hinX5 (by decide) hf10 rfl rfl dX5_add_70 ?_
        refine r_get hx hb hts hown hK hW 1 (0) 0 (mC (by decide) (by decide)) rfl rfl hinX2 (by decide) hf51 rfl rfl dX5_add_73 ?_
        refine lv_iload_n hx hb dX5_add_76 rfl (lv_at hl 2 rfl) ?_
        refine lv_aload_n hx hb dX5_add_77 rfl (lv_at hl 1 rfl) ?_
        refine r_get hx hb hts hown hK hW 0 (0) 0 (mC (by decide) (by decide)) rfl rfl hinX5 (by decide) hf10 rfl rfl dX5_add_78 ?_
        refine r_get hx hb hts hown hK hW 1 (0) 2 (mC (by decide) (by decide)) rfl rfl hinX2 (by decide) hf68 rfl rfl dX5_add_81 ?_
        refine lv_iload_n hx hb dX5_add_84 rfl (lv_at hl 2 rfl) ?_
        refine r_aald hx hb hK hW 1 3 (0) (rN) (mC (by decide) (by decide)) rfl rfl (show rN < 4 by omega) (by decide) rfl rfl dX5_add_85 ?_
        refine lv_iload hx hb dX5_add_86 (lv_at hl 0 rfl) ?_
        refine lv_iload hx hb dX5_add_88 (lv_at hl 5 rfl) ?_
        have hM_8 : okM I8 := okM_e (fun r9 => by subst eI8 eI5 ex3; simp [clr_n, cpy_n, jn_n, mb_n, mg_n, jwP_n, tcP_n, up3_f, up3_s, mkd, gst_n, mset_n, psd_w, rsP_n, dr_n, lrP_n]) hM
        refine g_ci (va_runV (As := [.int (nI (rN)), .ref (ad 4 (rN)), .int (nI (aN * 4 + bN)), .int (v)]) (rest := []) ⟨hx, hb, hml, hown, hts⟩ (c_X0_make l D G ad hI I8 rN rN (aN * 4 + bN) v (show rN < 4 by omega) (show rN < 59 by omega) hM_8 hm31) (cwV 4 hts gX5_add_X0_make rfl rfl rfl (by decide +kernel) ⟨Nat.le_of_ble_eq_true rfl, Nat.le_of_ble_eq_true rfl⟩) (g_preV hK hW 5 (0) (mC (by decide) (by decide)) rfl rfl) rfl rfl hl.1 rfl (lv_room (Nat.le_of_ble_eq_true rfl)) dX5_add_90 ⟨Nat.le_refl _, Nat.le_refl _⟩) hS (fun x10 I10 H locs hp hW hS => ?_)
        obtain ⟨ex10, eI10⟩ := hp
        refine r_top ex10 ?_
        refine r_top (show nI (mk I8 rN) = nI (mk I rN) from congrArg nI hmm) ?_
        refine lv_istore (lv' := [(6, .int (nI (mk I rN))), (5, .int (nI (aN * 4 + bN))), (0, .ref (ad 0 (0))), (1, .int (nI (rN))), (2, .int (nI (aN))), (3, .int (nI (bN))), (4, .int (v))]) hx hb dX5_add_93 hl (by decide) rfl (fun ls hl => ?_)
        refine lv_aload_n hx hb dX5_add_95 rfl (lv_at hl 2 rfl) ?_
        refine r_get hx hb hts hown hK hW 0 (0) 4 (mC (by decide) (by decide)) rfl rfl hinX5 (by decide) hf28 rfl rfl dX5_add_96 ?_
        refine lv_iload_n hx hb dX5_add_99 rfl (lv_at hl 3 rfl) ?_
        refine lv_iload hx hb dX5_add_100 (lv_at hl 0 rfl) ?_
        refine g_cv (va_runV (As := [.int (nI (rN)), .int (nI (mk I rN))]) (rest := []) ⟨hx, hb, hml, hown, hts⟩ (c_X4_hear l D G ad hI I10 33 rN (mk I rN) (by decide) (show rN < 4 by omega)) (cwV 2 hts gX5_add_X4_hear rfl rfl rfl (by decide +kernel) ⟨Nat.le_of_ble_eq_true rfl, Nat.le_of_ble_eq_true rfl⟩) (g_preV hK hW 4 (33) (mC (by decide) (by decide)) rfl rfl) rfl rfl hl.1 rfl (lv_room (Nat.le_of_ble_eq_true rfl)) dX5_add_102 ⟨Nat.le_refl _, Nat.le_refl _⟩) hS (fun I11 H locs hp hW hS => ?_)
        have eI11 : I11 = up3 I10 10 33 rN (I10 10 33 rN ||| b1 (mk I rN)) := hp
        refine lv_aload_n hx hb dX5_add_105 rfl (lv_at hl 2 rfl) ?_
        refine r_get hx hb hts hown hK hW 0 (0) 4 (mC (by decide) (by decide)) rfl rfl hinX5 (by decide) hf28 rfl rfl dX5_add_106 ?_
        refine lv_iload_n hx hb dX5_add_109 rfl (lv_at hl 3 rfl) ?_
        refine lv_iload hx hb dX5_add_110 (lv_at hl 0 rfl) ?_
        refine g_cv (va_runV (As := [.int (nI (rN)), .int (nI (mk I rN))]) (rest := []) ⟨hx, hb, hml, hown, hts⟩ (c_X4_enliven l D G ad hI I11 33 rN (mk I rN) (by decide) (show rN < 4 by omega)) (cwV 2 hts gX5_add_X4_enliven rfl rfl rfl (by decide +kernel) ⟨Nat.le_of_ble_eq_true rfl, Nat.le_of_ble_eq_true rfl⟩) (g_preV hK hW 4 (33) (mC (by decide) (by decide)) rfl rfl) rfl rfl hl.1 rfl (lv_room (Nat.le_of_ble_eq_true rfl)) dX5_add_112 ⟨Nat.le_refl _, Nat.le_refl _⟩) hS (fun I12 H locs hp hW hS => ?_)
        have eI12 : I12 = up3 I11 11 33 rN (I11 11 33 rN ||| b1 (mk I rN)) := hp
        refine lv_aload_n hx hb dX5_add_115 rfl (lv_at hl 2 rfl) ?_
        refine r_get hx hb hts hown hK hW 0 (0) 0 (mC (by decide) (by decide)) rfl rfl hinX5 (by decide) hf10 rfl rfl dX5_add_116 ?_
        refine lv_iload_n hx hb dX5_add_119 rfl (lv_at hl 3 rfl) ?_
        refine lv_aload_n hx hb dX5_add_120 rfl (lv_at hl 2 rfl) ?_
        refine r_get hx hb hts hown hK hW 0 (0) 4 (mC (by decide) (by decide)) rfl rfl hinX5 (by decide) hf28 rfl rfl dX5_add_121 ?_
        refine g_cv (va_runV (As := [.int (nI (rN)), .ref (ad 4 (33))]) (rest := []) ⟨hx, hb, hml, hown, hts⟩ (c_X2_joinWithNew l D G ad hI I12 rN 33 (show rN < 4 by omega) (by decide)) (cwV 2 hts gX5_add_X2_joinWithNew rfl rfl rfl (by decide +kernel) ⟨Nat.le_of_ble_eq_true rfl, Nat.le_of_ble_eq_true rfl⟩) (g_preV hK hW 1 (0) (mC (by decide) (by decide)) rfl rfl) rfl rfl hl.1 rfl (lv_room (Nat.le_of_ble_eq_true rfl)) dX5_add_124 ⟨Nat.le_refl _, Nat.le_refl _⟩) hS (fun I13 H locs hp hW hS => ?_)
        have eI13 : I13 = jwP I12 rN 33 4 := hp
        refine lv_iload hx hb dX5_add_127 (lv_at hl 0 rfl) ?_
        rw [hQ]
        exact g_iret (wd := wC G ad) hx hb hr rfl hlocks hW hS (by subst eI13 eI12 eI11 eI10 ex10 eI8 eI5 ex3; refine ⟨?_, ?_⟩; simp [k_rN, k_aN, k_bN, t_rN, t_aN, t_bN, c32_3]; rw [if_pos (by simp [k_rN, k_aN, k_bN, t_rN, t_aN, t_bN, c32_3])]; simp only [t_rN, t_aN, t_bN]; rfl) dX5_add_129
      · replace c32_3 : ¬ (mk I rN < 31) := fun h => c32_3 ((nI_ltI (show mk I rN < 2147483648 by omega) (show 31 < 2147483648 by omega)).mpr h)
        refine lv_bipush (v := (-4)) hx hb dX5_add_35 (by decide) ?_
        rw [hQ]
        exact g_iret (wd := wC G ad) hx hb hr rfl hlocks hW hS (by subst ex3; refine ⟨?_, ?_⟩ <;> simp [k_rN, k_aN, k_bN, t_rN, t_aN, t_bN, c32_3]) dX5_add_37
    · replace c12_1 := bI_0.mp c12_1
      try simp only [decide_eq_true_eq, decide_eq_false_iff_not] at c12_1
      refine lv_bipush (v := (-2)) hx hb dX5_add_15 (by decide) ?_
      rw [hQ]
      exact g_iret (wd := wC G ad) hx hb hr rfl hlocks hW hS (by skip; refine ⟨?_, ?_⟩ <;> simp [k_rN, c12_1]) dX5_add_17

set_option maxHeartbeats 4000000 in
set_option maxRecDepth 100000 in
theorem c_X5_take (l : Launch) (D : va_G) (G : Nat → ClassId) (ad : Nat → Nat → Nat) (hI : wI LC ad) (I : St) (r a b v : Int32) (hM : okM I) : Met l yX5_take wsX5_take ({ frames := 4, cells := 0, slots := 0, locals := 99 } : Room) (gPre D G LC ad [.ref (ad 0 (0)), .int (r), .int (a), .int (b), .int (v)] (wC G ad I)) (gQi D LC ad (wC G ad) (fun r9 u => r9 = (if (okN (nI 4) r && (okN (nI 3) a && okN (nI 4) b)) = true then bcs (tkS I (tn r) (tn a * 4 + tn b) v 10 33) 4 else -2) ∧ u = (if (okN (nI 4) r && (okN (nI 3) a && okN (nI 4) b)) = true then tkS I (tn r) (tn a * 4 + tn b) v else I))) 0 0 (wA LC ad) := by
  refine g_entry (C := RX5) (cc := cX5_take) (maxL := 5) (ret := (some .int)) rfl (by decide) rfl (Nat.le_of_ble_eq_true rfl) (fun p e s m args below meth c Q ls hQ hx hb hr hts hown hlocks hml hW hK hl => ?_)
  have hl : lv_has ls 5 [(0, .ref (ad 0 (0))), (1, .int (r)), (2, .int (a)), (3, .int (b)), (4, .int (v))] := hl
  have hS := va_S.rf (A := wA LC ad) (H0 := s.heap)
  have hinX2 : ∀ w ∈ wsX20, w ∈ wsX5_take := by decide +kernel
  have hinX5 : ∀ w ∈ wsX50, w ∈ wsX5_take := by decide +kernel
  have hf10 := hts (.fieldLink RX5 10 "JoinedStores" "now" "LJoinedStores$Network;") (by decide +kernel)
  have hf28 := hts (.fieldLink RX5 28 "JoinedStores" "fresh" "LJoinedStores$Store;") (by decide +kernel)
  have hf51 := hts (.fieldLink RX5 51 "JoinedStores$Network" "dots" "LJoinedStores$Dots;") (by decide +kernel)
  have hf68 := hts (.fieldLink RX5 68 "JoinedStores$Network" "stores" "[LJoinedStores$Store;") (by decide +kernel)
  refine lv_iload_n hx hb dX5_take_0 rfl (lv_at hl 1 rfl) ?_
  refine g_pi (va_runS (As := [.int (r)]) (rest := []) ⟨hx, hb, hml, hown, hts⟩ (c_X5_isReplica l r) (va_cwS 1 hts gX5_take_X5_isReplica rfl rfl rfl (by decide +kernel) ⟨Nat.le_of_ble_eq_true rfl, Nat.le_of_ble_eq_true rfl⟩) p_preS rfl rfl hl.1 rfl (lv_room (Nat.le_of_ble_eq_true rfl)) dX5_take_1 ⟨Nat.le_refl _, Nat.le_refl _⟩) hW hS (fun H locs hW hS => ?_)
  refine lv_if_eq (tgt := 15) hx hb dX5_take_4 (by decide) (fun c4_0 => ?_) (fun c4_0 => ?_)
  · replace c4_0 := bI_0.mp c4_0
    try simp only [decide_eq_true_eq, decide_eq_false_iff_not] at c4_0
    refine lv_bipush (v := (-2)) hx hb dX5_take_15 (by decide) ?_
    rw [hQ]
    exact g_iret (wd := wC G ad) hx hb hr rfl hlocks hW hS (by skip; refine ⟨?_, ?_⟩ <;> simp [c4_0]) dX5_take_17
  · replace c4_0 := bI_1.mp c4_0
    obtain ⟨rN, hrN, erN⟩ := okN_nI (k := 4) (by decide) c4_0
    subst erN
    have t_rN : tn (nI rN) = rN := tn_nI (by omega)
    have k_rN : okN (nI 4) (nI rN) = true := okN_of (by decide) hrN
    refine lv_iload_n hx hb dX5_take_7 rfl (lv_at hl 2 rfl) ?_
    refine lv_iload_n hx hb dX5_take_8 rfl (lv_at hl 3 rfl) ?_
    refine g_pi (va_runS (As := [.int (a), .int (b)]) (rest := []) ⟨hx, hb, hml, hown, hts⟩ (c_X5_isObject l a b) (va_cwS 2 hts gX5_take_X5_isObject rfl rfl rfl (by decide +kernel) ⟨Nat.le_of_ble_eq_true rfl, Nat.le_of_ble_eq_true rfl⟩) p_preS rfl rfl hl.1 rfl (lv_room (Nat.le_of_ble_eq_true rfl)) dX5_take_9 ⟨Nat.le_refl _, Nat.le_refl _⟩) hW hS (fun H locs hW hS => ?_)
    refine lv_if_ne (tgt := 18) hx hb dX5_take_12 (by decide) (fun c12_1 => ?_) (fun c12_1 => ?_)
    · replace c12_1 := bI_1.mp c12_1
      obtain ⟨aN, haN, eaN⟩ := okN_nI (k := 3) (by decide) (okAnd c12_1).1
      subst eaN
      have t_aN : tn (nI aN) = aN := tn_nI (by omega)
      have k_aN : okN (nI 3) (nI aN) = true := okN_of (by decide) haN
      obtain ⟨bN, hbN, ebN⟩ := okN_nI (k := 4) (by decide) (okAnd c12_1).2
      subst ebN
      have t_bN : tn (nI bN) = bN := tn_nI (by omega)
      have k_bN : okN (nI 4) (nI bN) = true := okN_of (by decide) hbN
      refine lv_aload_n hx hb dX5_take_18 rfl (lv_at hl 0 rfl) ?_
      refine r_get hx hb hts hown hK hW 0 (0) 4 (mC (by decide) (by decide)) rfl rfl hinX5 (by decide) hf28 rfl rfl dX5_take_19 ?_
      refine g_cv (va_runV (As := []) (rest := []) ⟨hx, hb, hml, hown, hts⟩ (c_X4_empty l D G ad hI I 33 (by decide)) (cwV 0 hts gX5_take_X4_empty rfl rfl rfl (by decide +kernel) ⟨Nat.le_of_ble_eq_true rfl, Nat.le_of_ble_eq_true rfl⟩) (g_preV hK hW 4 (33) (mC (by decide) (by decide)) rfl rfl) rfl rfl hl.1 rfl (lv_room (Nat.le_of_ble_eq_true rfl)) dX5_take_22 ⟨Nat.le_refl _, Nat.le_refl _⟩) hS (fun I3 H locs hp hW hS => ?_)
      have eI3 : I3 = clr I 33 := hp
      refine lv_aload_n hx hb dX5_take_25 rfl (lv_at hl 0 rfl) ?_
      refine r_get hx hb hts hown hK hW 0 (0) 0 (mC (by decide) (by decide)) rfl rfl hinX5 (by decide) hf10 rfl rfl dX5_take_26 ?_
      refine r_get hx hb hts hown hK hW 1 (0) 0 (mC (by decide) (by decide)) rfl rfl hinX2 (by decide) hf51 rfl rfl dX5_take_29 ?_
      refine lv_aload_n hx hb dX5_take_32 rfl (lv_at hl 0 rfl) ?_
      refine r_get hx hb hts hown hK hW 0 (0) 0 (mC (by decide) (by decide)) rfl rfl hinX5 (by decide) hf10 rfl rfl dX5_take_33 ?_
      refine r_get hx hb hts hown hK hW 1 (0) 2 (mC (by decide) (by decide)) rfl rfl hinX2 (by decide) hf68 rfl rfl dX5_take_36 ?_
      refine lv_iload_n hx hb dX5_take_39 rfl (lv_at hl 1 rfl) ?_
      refine r_aald hx hb hK hW 1 3 (0) (rN) (mC (by decide) (by decide)) rfl rfl (show rN < 4 by omega) (by decide) rfl rfl dX5_take_40 ?_
      refine lv_iload_n hx hb dX5_take_41 rfl (lv_at hl 2 rfl) ?_
      refine lv_iload_n hx hb dX5_take_42 rfl (lv_at hl 3 rfl) ?_
      refine g_pi (va_runS (As := [.int (nI (aN)), .int (nI (bN))]) (rest := [.ref (ad 4 (rN)), .ref (ad 5 (0))]) ⟨hx, hb, hml, hown, hts⟩ (c_X5_objectAt l (aN) (bN)) (va_cwS 2 hts gX5_take_X5_objectAt rfl rfl rfl (by decide +kernel) ⟨Nat.le_of_ble_eq_true rfl, Nat.le_of_ble_eq_true rfl⟩) p_preS rfl rfl hl.1 rfl (lv_room (Nat.le_of_ble_eq_true rfl)) dX5_take_43 ⟨Nat.le_refl _, Nat.le_refl _⟩) hW hS (fun H locs hW hS => ?_)
      refine lv_iload hx hb dX5_take_46 (lv_at hl 4 rfl) ?_
      refine lv_aload_n hx hb dX5_take_48 rfl (lv_at hl 0 rfl) ?_
      refine r_get hx hb hts hown hK hW 0 (0) 4 (mC (by decide) (by decide)) rfl rfl hinX5 (by decide) hf28 rfl rfl dX5_take_49 ?_
      have hM_3 : okM I3 := okM_e (fun r9 => by subst eI3; simp [clr_n, cpy_n, jn_n, mb_n, mg_n, jwP_n, tcP_n, up3_f, up3_s, mkd, gst_n, mset_n, psd_w, rsP_n, dr_n, lrP_n]) hM
      refine g_cv (va_runV (As := [.ref (ad 4 (rN)), .int (nI (aN * 4 + bN)), .int (v), .ref (ad 4 (33))]) (rest := []) ⟨hx, hb, hml, hown, hts⟩ (c_X0_markOfValue l D G ad hI I3 rN (aN * 4 + bN) 33 v (show rN < 59 by omega) (by decide) hM_3) (cwV 4 hts gX5_take_X0_markOfValue rfl rfl rfl (by decide +kernel) ⟨Nat.le_of_ble_eq_true rfl, Nat.le_of_ble_eq_true rfl⟩) (g_preV hK hW 5 (0) (mC (by decide) (by decide)) rfl rfl) rfl rfl hl.1 rfl (lv_room (Nat.le_of_ble_eq_true rfl)) dX5_take_52 ⟨Nat.le_refl _, Nat.le_refl _⟩) hS (fun I5 H locs hp hW hS => ?_)
      have eI5 : I5 = mb I3 rN (aN * 4 + bN) v v 33 := hp
      refine lv_aload_n hx hb dX5_take_55 rfl (lv_at hl 0 rfl) ?_
      refine r_get hx hb hts hown hK hW 0 (0) 0 (mC (by decide) (by decide)) rfl rfl hinX5 (by decide) hf10 rfl rfl dX5_take_56 ?_
      refine lv_iload_n hx hb dX5_take_59 rfl (lv_at hl 1 rfl) ?_
      refine lv_aload_n hx hb dX5_take_60 rfl (lv_at hl 0 rfl) ?_
      refine r_get hx hb hts hown hK hW 0 (0) 4 (mC (by decide) (by decide)) rfl rfl hinX5 (by decide) hf28 rfl rfl dX5_take_61 ?_
      refine g_cv (va_runV (As := [.int (nI (rN)), .ref (ad 4 (33))]) (rest := []) ⟨hx, hb, hml, hown, hts⟩ (c_X2_joinWithNew l D G ad hI I5 rN 33 (show rN < 4 by omega) (by decide)) (cwV 2 hts gX5_take_X2_joinWithNew rfl rfl rfl (by decide +kernel) ⟨Nat.le_of_ble_eq_true rfl, Nat.le_of_ble_eq_true rfl⟩) (g_preV hK hW 1 (0) (mC (by decide) (by decide)) rfl rfl) rfl rfl hl.1 rfl (lv_room (Nat.le_of_ble_eq_true rfl)) dX5_take_64 ⟨Nat.le_refl _, Nat.le_refl _⟩) hS (fun I6 H locs hp hW hS => ?_)
      have eI6 : I6 = jwP I5 rN 33 4 := hp
      refine lv_aload_n hx hb dX5_take_67 rfl (lv_at hl 0 rfl) ?_
      refine r_get hx hb hts hown hK hW 0 (0) 4 (mC (by decide) (by decide)) rfl rfl hinX5 (by decide) hf28 rfl rfl dX5_take_68 ?_
      refine g_ci (va_runV (As := []) (rest := []) ⟨hx, hb, hml, hown, hts⟩ (c_X4_heardInAll l D G ad hI I6 33 (by decide)) (cwV 0 hts gX5_take_X4_heardInAll rfl rfl rfl (by decide +kernel) ⟨Nat.le_of_ble_eq_true rfl, Nat.le_of_ble_eq_true rfl⟩) (g_preV hK hW 4 (33) (mC (by decide) (by decide)) rfl rfl) rfl rfl hl.1 rfl (lv_room (Nat.le_of_ble_eq_true rfl)) dX5_take_71 ⟨Nat.le_refl _, Nat.le_refl _⟩) hS (fun x7 I7 H locs hp hW hS => ?_)
      obtain ⟨ex7, eI7⟩ := hp
      rw [eI7] at hW
      clear eI7
      rw [hQ]
      exact g_iret (wd := wC G ad) hx hb hr rfl hlocks hW hS (by subst ex7 eI6 eI5 eI3; refine ⟨?_, ?_⟩ <;> rw [if_pos (by simp [k_rN, k_aN, k_bN])] <;> simp only [t_rN, t_aN, t_bN] <;> rfl) dX5_take_74
    · replace c12_1 := bI_0.mp c12_1
      try simp only [decide_eq_true_eq, decide_eq_false_iff_not] at c12_1
      refine lv_bipush (v := (-2)) hx hb dX5_take_15 (by decide) ?_
      rw [hQ]
      exact g_iret (wd := wC G ad) hx hb hr rfl hlocks hW hS (by skip; refine ⟨?_, ?_⟩ <;> simp [k_rN, c12_1]) dX5_take_17

set_option maxHeartbeats 4000000 in
set_option maxRecDepth 100000 in
theorem c_X5_reset (l : Launch) (D : va_G) (G : Nat → ClassId) (ad : Nat → Nat → Nat) (hI : wI LC ad) (I : St) (r a : Int32) (hM : okM I) : Met l yX5_reset wsX5_reset ({ frames := 4, cells := 0, slots := 0, locals := 98 } : Room) (gPre D G LC ad [.ref (ad 0 (0)), .int (r), .int (a)] (wC G ad I)) (gQi D LC ad (wC G ad) (fun r9 u => r9 = (if (okN (nI 4) r && okN (nI 3) a) = true then bcs (rsS I (tn r) (tn a) 10 33) 4 else -2) ∧ u = (if (okN (nI 4) r && okN (nI 3) a) = true then rsS I (tn r) (tn a) else I))) 0 0 (wA LC ad) := by
  refine g_entry (C := RX5) (cc := cX5_reset) (maxL := 4) (ret := (some .int)) rfl (by decide) rfl (Nat.le_of_ble_eq_true rfl) (fun p e s m args below meth c Q ls hQ hx hb hr hts hown hlocks hml hW hK hl => ?_)
  have hl : lv_has ls 4 [(0, .ref (ad 0 (0))), (1, .int (r)), (2, .int (a))] := hl
  have hS := va_S.rf (A := wA LC ad) (H0 := s.heap)
  have hinX2 : ∀ w ∈ wsX20, w ∈ wsX5_reset := by decide +kernel
  have hinX5 : ∀ w ∈ wsX50, w ∈ wsX5_reset := by decide +kernel
  have hf10 := hts (.fieldLink RX5 10 "JoinedStores" "now" "LJoinedStores$Network;") (by decide +kernel)
  have hf28 := hts (.fieldLink RX5 28 "JoinedStores" "fresh" "LJoinedStores$Store;") (by decide +kernel)
  have hf51 := hts (.fieldLink RX5 51 "JoinedStores$Network" "dots" "LJoinedStores$Dots;") (by decide +kernel)
  have hf68 := hts (.fieldLink RX5 68 "JoinedStores$Network" "stores" "[LJoinedStores$Store;") (by decide +kernel)
  refine lv_iload_n hx hb dX5_reset_0 rfl (lv_at hl 1 rfl) ?_
  refine g_pi (va_runS (As := [.int (r)]) (rest := []) ⟨hx, hb, hml, hown, hts⟩ (c_X5_isReplica l r) (va_cwS 1 hts gX5_reset_X5_isReplica rfl rfl rfl (by decide +kernel) ⟨Nat.le_of_ble_eq_true rfl, Nat.le_of_ble_eq_true rfl⟩) p_preS rfl rfl hl.1 rfl (lv_room (Nat.le_of_ble_eq_true rfl)) dX5_reset_1 ⟨Nat.le_refl _, Nat.le_refl _⟩) hW hS (fun H locs hW hS => ?_)
  refine lv_if_eq (tgt := 14) hx hb dX5_reset_4 (by decide) (fun c4_0 => ?_) (fun c4_0 => ?_)
  · replace c4_0 := bI_0.mp c4_0
    try simp only [decide_eq_true_eq, decide_eq_false_iff_not] at c4_0
    refine lv_bipush (v := (-2)) hx hb dX5_reset_14 (by decide) ?_
    rw [hQ]
    exact g_iret (wd := wC G ad) hx hb hr rfl hlocks hW hS (by skip; refine ⟨?_, ?_⟩ <;> simp [c4_0]) dX5_reset_16
  · replace c4_0 := bI_1.mp c4_0
    obtain ⟨rN, hrN, erN⟩ := okN_nI (k := 4) (by decide) c4_0
    subst erN
    have t_rN : tn (nI rN) = rN := tn_nI (by omega)
    have k_rN : okN (nI 4) (nI rN) = true := okN_of (by decide) hrN
    refine lv_iload_n hx hb dX5_reset_7 rfl (lv_at hl 2 rfl) ?_
    refine g_pi (va_runS (As := [.int (a)]) (rest := []) ⟨hx, hb, hml, hown, hts⟩ (c_X5_isRoom l a) (va_cwS 1 hts gX5_reset_X5_isRoom rfl rfl rfl (by decide +kernel) ⟨Nat.le_of_ble_eq_true rfl, Nat.le_of_ble_eq_true rfl⟩) p_preS rfl rfl hl.1 rfl (lv_room (Nat.le_of_ble_eq_true rfl)) dX5_reset_8 ⟨Nat.le_refl _, Nat.le_refl _⟩) hW hS (fun H locs hW hS => ?_)
    refine lv_if_ne (tgt := 17) hx hb dX5_reset_11 (by decide) (fun c11_1 => ?_) (fun c11_1 => ?_)
    · replace c11_1 := bI_1.mp c11_1
      obtain ⟨aN, haN, eaN⟩ := okN_nI (k := 3) (by decide) c11_1
      subst eaN
      have t_aN : tn (nI aN) = aN := tn_nI (by omega)
      have k_aN : okN (nI 3) (nI aN) = true := okN_of (by decide) haN
      refine lv_aload_n hx hb dX5_reset_17 rfl (lv_at hl 0 rfl) ?_
      refine r_get hx hb hts hown hK hW 0 (0) 4 (mC (by decide) (by decide)) rfl rfl hinX5 (by decide) hf28 rfl rfl dX5_reset_18 ?_
      refine g_cv (va_runV (As := []) (rest := []) ⟨hx, hb, hml, hown, hts⟩ (c_X4_empty l D G ad hI I 33 (by decide)) (cwV 0 hts gX5_reset_X4_empty rfl rfl rfl (by decide +kernel) ⟨Nat.le_of_ble_eq_true rfl, Nat.le_of_ble_eq_true rfl⟩) (g_preV hK hW 4 (33) (mC (by decide) (by decide)) rfl rfl) rfl rfl hl.1 rfl (lv_room (Nat.le_of_ble_eq_true rfl)) dX5_reset_21 ⟨Nat.le_refl _, Nat.le_refl _⟩) hS (fun I3 H locs hp hW hS => ?_)
      have eI3 : I3 = clr I 33 := hp
      refine lv_iconst (v := nI 0) hx hb dX5_reset_24 (by decide) ?_
      refine lv_istore_n (lv' := [(3, .int (nI (0))), (0, .ref (ad 0 (0))), (1, .int (nI (rN))), (2, .int (nI (aN)))]) hx hb dX5_reset_25 rfl hl (by decide) rfl (fun ls hl => ?_)
      have K26 : ∀ (n : Nat) (i : Nat), (i ≤ 4) → 4 < i + n → ∀ (H : Heap) (locs : List Loc), va_P D vwCl (wS LC ad (wC G ad (rsP I rN aN i))) H → va_S (wA LC ad) s.heap H locs → ∀ (ls : Array Slot), lv_has ls 4 [(3, .int (nI (i))), (0, .ref (ad 0 (0))), (1, .int (nI (rN))), (2, .int (nI (aN)))] → W p l e ({ frames := 4, cells := 0, slots := 0, locals := 98 } : Room) s m args below meth c H locs 0 0 Q (F0 m 26 ls []) := by
        intro n26
        induction n26 with
        | zero => intro i hi hfu; exact absurd hfu (by omega)
        | succ n26 ih26 =>
          intro i hi hfu H locs hW hS ls hl
          refine lv_iload_n hx hb dX5_reset_26 rfl (lv_at hl 0 rfl) ?_
          refine lv_iconst (v := nI 4) hx hb dX5_reset_27 (by decide) ?_
          refine lv_icmp_ge (tgt := 65) hx hb dX5_reset_28 (by decide) (fun c28_3 => ?_) (fun c28_3 => ?_)
          · replace c28_3 : 4 ≤ i := (nI_leI (show 4 < 2147483648 by omega) (show i < 2147483648 by omega)).mp c28_3
            refine lv_aload_n hx hb dX5_reset_65 rfl (lv_at hl 1 rfl) ?_
            refine r_get hx hb hts hown hK hW 0 (0) 0 (mC (by decide) (by decide)) rfl rfl hinX5 (by decide) hf10 rfl rfl dX5_reset_66 ?_
            refine lv_iload_n hx hb dX5_reset_69 rfl (lv_at hl 2 rfl) ?_
            refine lv_aload_n hx hb dX5_reset_70 rfl (lv_at hl 1 rfl) ?_
            refine r_get hx hb hts hown hK hW 0 (0) 4 (mC (by decide) (by decide)) rfl rfl hinX5 (by decide) hf28 rfl rfl dX5_reset_71 ?_
            refine g_cv (va_runV (As := [.int (nI (rN)), .ref (ad 4 (33))]) (rest := []) ⟨hx, hb, hml, hown, hts⟩ (c_X2_joinWithNew l D G ad hI (rsP I rN aN i) rN 33 (show rN < 4 by omega) (by decide)) (cwV 2 hts gX5_reset_X2_joinWithNew rfl rfl rfl (by decide +kernel) ⟨Nat.le_of_ble_eq_true rfl, Nat.le_of_ble_eq_true rfl⟩) (g_preV hK hW 1 (0) (mC (by decide) (by decide)) rfl rfl) rfl rfl hl.1 rfl (lv_room (Nat.le_of_ble_eq_true rfl)) dX5_reset_74 ⟨Nat.le_refl _, Nat.le_refl _⟩) hS (fun I5 H locs hp hW hS => ?_)
            have eI5 : I5 = jwP (rsP I rN aN i) rN 33 4 := hp
            refine lv_aload_n hx hb dX5_reset_77 rfl (lv_at hl 1 rfl) ?_
            refine r_get hx hb hts hown hK hW 0 (0) 4 (mC (by decide) (by decide)) rfl rfl hinX5 (by decide) hf28 rfl rfl dX5_reset_78 ?_
            refine g_ci (va_runV (As := []) (rest := []) ⟨hx, hb, hml, hown, hts⟩ (c_X4_heardInAll l D G ad hI I5 33 (by decide)) (cwV 0 hts gX5_reset_X4_heardInAll rfl rfl rfl (by decide +kernel) ⟨Nat.le_of_ble_eq_true rfl, Nat.le_of_ble_eq_true rfl⟩) (g_preV hK hW 4 (33) (mC (by decide) (by decide)) rfl rfl) rfl rfl hl.1 rfl (lv_room (Nat.le_of_ble_eq_true rfl)) dX5_reset_81 ⟨Nat.le_refl _, Nat.le_refl _⟩) hS (fun x6 I6 H locs hp hW hS => ?_)
            obtain ⟨ex6, eI6⟩ := hp
            rw [eI6] at hW
            clear eI6
            rw [hQ]
            exact g_iret (wd := wC G ad) hx hb hr rfl hlocks hW hS (by have e4 : i = 4 := (by omega); subst e4; subst ex6 eI5; refine ⟨?_, ?_⟩ <;> rw [if_pos (by simp [k_rN, k_aN])] <;> simp only [t_rN, t_aN] <;> rfl) dX5_reset_84
          · replace c28_3 : ¬ (4 ≤ i) := fun h => c28_3 ((nI_leI (show 4 < 2147483648 by omega) (show i < 2147483648 by omega)).mpr h)
            refine lv_aload_n hx hb dX5_reset_31 rfl (lv_at hl 1 rfl) ?_
            refine r_get hx hb hts hown hK hW 0 (0) 0 (mC (by decide) (by decide)) rfl rfl hinX5 (by decide) hf10 rfl rfl dX5_reset_32 ?_
            refine r_get hx hb hts hown hK hW 1 (0) 0 (mC (by decide) (by decide)) rfl rfl hinX2 (by decide) hf51 rfl rfl dX5_reset_35 ?_
            refine lv_aload_n hx hb dX5_reset_38 rfl (lv_at hl 1 rfl) ?_
            refine r_get hx hb hts hown hK hW 0 (0) 0 (mC (by decide) (by decide)) rfl rfl hinX5 (by decide) hf10 rfl rfl dX5_reset_39 ?_
            refine r_get hx hb hts hown hK hW 1 (0) 2 (mC (by decide) (by decide)) rfl rfl hinX2 (by decide) hf68 rfl rfl dX5_reset_42 ?_
            refine lv_iload_n hx hb dX5_reset_45 rfl (lv_at hl 2 rfl) ?_
            refine r_aald hx hb hK hW 1 3 (0) (rN) (mC (by decide) (by decide)) rfl rfl (show rN < 4 by omega) (by decide) rfl rfl dX5_reset_46 ?_
            refine lv_iload_n hx hb dX5_reset_47 rfl (lv_at hl 3 rfl) ?_
            refine lv_iload_n hx hb dX5_reset_48 rfl (lv_at hl 0 rfl) ?_
            refine g_pi (va_runS (As := [.int (nI (aN)), .int (nI (i))]) (rest := [.ref (ad 4 (rN)), .ref (ad 5 (0))]) ⟨hx, hb, hml, hown, hts⟩ (c_X5_objectAt l (aN) (i)) (va_cwS 2 hts gX5_reset_X5_objectAt rfl rfl rfl (by decide +kernel) ⟨Nat.le_of_ble_eq_true rfl, Nat.le_of_ble_eq_true rfl⟩) p_preS rfl rfl hl.1 rfl (lv_room (Nat.le_of_ble_eq_true rfl)) dX5_reset_49 ⟨Nat.le_refl _, Nat.le_refl _⟩) hW hS (fun H locs hW hS => ?_)
            refine lv_aload_n hx hb dX5_reset_52 rfl (lv_at hl 1 rfl) ?_
            refine r_get hx hb hts hown hK hW 0 (0) 4 (mC (by decide) (by decide)) rfl rfl hinX5 (by decide) hf28 rfl rfl dX5_reset_53 ?_
            have hM_6 : okM (rsP I rN aN i) := okM_e (fun r9 => by skip; simp [clr_n, cpy_n, jn_n, mb_n, mg_n, jwP_n, tcP_n, up3_f, up3_s, mkd, gst_n, mset_n, psd_w, rsP_n, dr_n, lrP_n]) hM
            refine g_cv (va_runV (As := [.ref (ad 4 (rN)), .int (nI (aN * 4 + i)), .ref (ad 4 (33))]) (rest := []) ⟨hx, hb, hml, hown, hts⟩ (c_X0_markAll l D G ad hI (rsP I rN aN i) rN (aN * 4 + i) 33 (show rN < 59 by omega) (by decide) hM_6) (cwV 3 hts gX5_reset_X0_markAll rfl rfl rfl (by decide +kernel) ⟨Nat.le_of_ble_eq_true rfl, Nat.le_of_ble_eq_true rfl⟩) (g_preV hK hW 5 (0) (mC (by decide) (by decide)) rfl rfl) rfl rfl hl.1 rfl (lv_room (Nat.le_of_ble_eq_true rfl)) dX5_reset_56 ⟨Nat.le_refl _, Nat.le_refl _⟩) hS (fun I8 H locs hp hW hS => ?_)
            have eI8 : I8 = mb (rsP I rN aN i) rN (aN * 4 + i) (-2147483648) 2147483647 33 := hp
            refine lv_iinc (v := nI (i + 1)) (lv' := [(3, .int (nI (i + 1))), (0, .ref (ad 0 (0))), (1, .int (nI (rN))), (2, .int (nI (aN)))]) hx hb dX5_reset_59 hl (k := 0) rfl (nI_inc i 1) (by decide) rfl (fun ls hl => ?_)
            refine lv_goto (tgt := 26) hx hb dX5_reset_62 (by decide) ?_
            have e9 : I8 = rsP I rN aN (i + 1) := by
              subst eI8
              rfl
            have hW9 := hW
            rw [e9] at hW9
            exact ih26 (i + 1) (by omega) (by omega) _ _ hW9 hS _ (lv_sub hl [0, 1, 2, 3] rfl)
      have e9 : I3 = rsP I rN aN 0 := by
        subst eI3
        rfl
      have hW9 := hW
      rw [e9] at hW9
      exact K26 (4 + 1) (0) (by omega) (by omega) _ _ hW9 hS _ (lv_sub hl [0, 1, 2, 3] rfl)
    · replace c11_1 := bI_0.mp c11_1
      try simp only [decide_eq_true_eq, decide_eq_false_iff_not] at c11_1
      refine lv_bipush (v := (-2)) hx hb dX5_reset_14 (by decide) ?_
      rw [hQ]
      exact g_iret (wd := wC G ad) hx hb hr rfl hlocks hW hS (by skip; refine ⟨?_, ?_⟩ <;> simp [k_rN, c11_1]) dX5_reset_16

set_option maxHeartbeats 4000000 in
set_option maxRecDepth 100000 in
theorem c_X5_kind (l : Launch) (D : va_G) (G : Nat → ClassId) (ad : Nat → Nat → Nat) (hI : wI LC ad) (I : St) (a b k : Int32) : Met l yX5_kind wsX5_kind ({ frames := 2, cells := 0, slots := 0, locals := 41 } : Room) (gPre D G LC ad [.ref (ad 0 (0)), .int (a), .int (b), .int (k)] (wC G ad I)) (gQi D LC ad (wC G ad) (fun r9 u => r9 = (if ((okN (nI 3) a && okN (nI 4) b) && okN (nI 6) k) = true then I 16 0 (tn a * 4 + tn b) else -2) ∧ u = (if ((okN (nI 3) a && okN (nI 4) b) && okN (nI 6) k) = true then up3 I 16 0 (tn a * 4 + tn b) k else I))) 0 0 (wA LC ad) := by
  refine g_entry (C := RX5) (cc := cX5_kind) (maxL := 6) (ret := (some .int)) rfl (by decide) rfl (Nat.le_of_ble_eq_true rfl) (fun p e s m args below meth c Q ls hQ hx hb hr hts hown hlocks hml hW hK hl => ?_)
  have hl : lv_has ls 6 [(0, .ref (ad 0 (0))), (1, .int (a)), (2, .int (b)), (3, .int (k))] := hl
  have hS := va_S.rf (A := wA LC ad) (H0 := s.heap)
  have hinX2 : ∀ w ∈ wsX20, w ∈ wsX5_kind := by decide +kernel
  have hinX5 : ∀ w ∈ wsX50, w ∈ wsX5_kind := by decide +kernel
  have hf10 := hts (.fieldLink RX5 10 "JoinedStores" "now" "LJoinedStores$Network;") (by decide +kernel)
  have hf108 := hts (.fieldLink RX5 108 "JoinedStores$Network" "kinds" "[I") (by decide +kernel)
  refine lv_iload_n hx hb dX5_kind_0 rfl (lv_at hl 1 rfl) ?_
  refine lv_iload_n hx hb dX5_kind_1 rfl (lv_at hl 2 rfl) ?_
  refine g_pi (va_runS (As := [.int (a), .int (b)]) (rest := []) ⟨hx, hb, hml, hown, hts⟩ (c_X5_isObject l a b) (va_cwS 2 hts gX5_kind_X5_isObject rfl rfl rfl (by decide +kernel) ⟨Nat.le_of_ble_eq_true rfl, Nat.le_of_ble_eq_true rfl⟩) p_preS rfl rfl hl.1 rfl (lv_room (Nat.le_of_ble_eq_true rfl)) dX5_kind_2 ⟨Nat.le_refl _, Nat.le_refl _⟩) hW hS (fun H locs hW hS => ?_)
  refine lv_if_eq (tgt := 15) hx hb dX5_kind_5 (by decide) (fun c5_0 => ?_) (fun c5_0 => ?_)
  · replace c5_0 := bI_0.mp c5_0
    try simp only [decide_eq_true_eq, decide_eq_false_iff_not] at c5_0
    refine lv_bipush (v := (-2)) hx hb dX5_kind_15 (by decide) ?_
    rw [hQ]
    exact g_iret (wd := wC G ad) hx hb hr rfl hlocks hW hS (by skip; refine ⟨?_, ?_⟩ <;> simp [c5_0]) dX5_kind_17
  · replace c5_0 := bI_1.mp c5_0
    obtain ⟨aN, haN, eaN⟩ := okN_nI (k := 3) (by decide) (okAnd c5_0).1
    subst eaN
    have t_aN : tn (nI aN) = aN := tn_nI (by omega)
    have k_aN : okN (nI 3) (nI aN) = true := okN_of (by decide) haN
    obtain ⟨bN, hbN, ebN⟩ := okN_nI (k := 4) (by decide) (okAnd c5_0).2
    subst ebN
    have t_bN : tn (nI bN) = bN := tn_nI (by omega)
    have k_bN : okN (nI 4) (nI bN) = true := okN_of (by decide) hbN
    refine lv_iload_n hx hb dX5_kind_8 rfl (lv_at hl 3 rfl) ?_
    refine g_pi (va_runS (As := [.int (k)]) (rest := []) ⟨hx, hb, hml, hown, hts⟩ (c_X5_isKind l k) (va_cwS 1 hts gX5_kind_X5_isKind rfl rfl rfl (by decide +kernel) ⟨Nat.le_of_ble_eq_true rfl, Nat.le_of_ble_eq_true rfl⟩) p_preS rfl rfl hl.1 rfl (lv_room (Nat.le_of_ble_eq_true rfl)) dX5_kind_9 ⟨Nat.le_refl _, Nat.le_refl _⟩) hW hS (fun H locs hW hS => ?_)
    refine lv_if_ne (tgt := 18) hx hb dX5_kind_12 (by decide) (fun c12_1 => ?_) (fun c12_1 => ?_)
    · replace c12_1 := bI_1.mp c12_1
      obtain ⟨kN, hkN, ekN⟩ := okN_nI (k := 6) (by decide) c12_1
      subst ekN
      have t_kN : tn (nI kN) = kN := tn_nI (by omega)
      have k_kN : okN (nI 6) (nI kN) = true := okN_of (by decide) hkN
      refine lv_iload_n hx hb dX5_kind_18 rfl (lv_at hl 1 rfl) ?_
      refine lv_iload_n hx hb dX5_kind_19 rfl (lv_at hl 2 rfl) ?_
      refine g_pi (va_runS (As := [.int (nI (aN)), .int (nI (bN))]) (rest := []) ⟨hx, hb, hml, hown, hts⟩ (c_X5_objectAt l (aN) (bN)) (va_cwS 2 hts gX5_kind_X5_objectAt rfl rfl rfl (by decide +kernel) ⟨Nat.le_of_ble_eq_true rfl, Nat.le_of_ble_eq_true rfl⟩) p_preS rfl rfl hl.1 rfl (lv_room (Nat.le_of_ble_eq_true rfl)) dX5_kind_20 ⟨Nat.le_refl _, Nat.le_refl _⟩) hW hS (fun H locs hW hS => ?_)
      refine lv_istore (lv' := [(4, .int (nI (aN * 4 + bN))), (0, .ref (ad 0 (0))), (1, .int (nI (aN))), (2, .int (nI (bN))), (3, .int (nI (kN)))]) hx hb dX5_kind_23 hl (by decide) rfl (fun ls hl => ?_)
      refine lv_aload_n hx hb dX5_kind_25 rfl (lv_at hl 1 rfl) ?_
      refine r_get hx hb hts hown hK hW 0 (0) 0 (mC (by decide) (by decide)) rfl rfl hinX5 (by decide) hf10 rfl rfl dX5_kind_26 ?_
      refine r_get hx hb hts hown hK hW 1 (0) 1 (mC (by decide) (by decide)) rfl rfl hinX2 (by decide) hf108 rfl rfl dX5_kind_29 ?_
      refine lv_iload hx hb dX5_kind_32 (lv_at hl 0 rfl) ?_
      refine rC_iald hx hb hK hW 16 (0) (aN * 4 + bN) (by decide) (by decide) (by decide) (show aN * 4 + bN < 12 by omega) rfl dX5_kind_34 (fun x3 ex3 => ?_)
      refine lv_istore (lv' := [(5, .int (x3)), (4, .int (nI (aN * 4 + bN))), (0, .ref (ad 0 (0))), (1, .int (nI (aN))), (2, .int (nI (bN))), (3, .int (nI (kN)))]) hx hb dX5_kind_35 hl (by decide) rfl (fun ls hl => ?_)
      refine lv_aload_n hx hb dX5_kind_37 rfl (lv_at hl 2 rfl) ?_
      refine r_get hx hb hts hown hK hW 0 (0) 0 (mC (by decide) (by decide)) rfl rfl hinX5 (by decide) hf10 rfl rfl dX5_kind_38 ?_
      refine r_get hx hb hts hown hK hW 1 (0) 1 (mC (by decide) (by decide)) rfl rfl hinX2 (by decide) hf108 rfl rfl dX5_kind_41 ?_
      refine lv_iload hx hb dX5_kind_44 (lv_at hl 1 rfl) ?_
      refine lv_iload_n hx hb dX5_kind_46 rfl (lv_at hl 5 rfl) ?_
      refine rC_iast hx hb hK hI hW hS 16 (0) (aN * 4 + bN) (by decide) (by decide) (by decide) (show aN * 4 + bN < 12 by omega) rfl dX5_kind_47 (fun I4 H locs eI4 hW hS => ?_)
      refine lv_iload hx hb dX5_kind_48 (lv_at hl 0 rfl) ?_
      rw [hQ]
      exact g_iret (wd := wC G ad) hx hb hr rfl hlocks hW hS (by subst eI4 ex3; refine ⟨?_, ?_⟩ <;> rw [if_pos (by simp [k_aN, k_bN, k_kN])] <;> simp only [t_aN, t_bN, t_kN]) dX5_kind_50
    · replace c12_1 := bI_0.mp c12_1
      try simp only [decide_eq_true_eq, decide_eq_false_iff_not] at c12_1
      refine lv_bipush (v := (-2)) hx hb dX5_kind_15 (by decide) ?_
      rw [hQ]
      exact g_iret (wd := wC G ad) hx hb hr rfl hlocks hW hS (by skip; refine ⟨?_, ?_⟩ <;> simp [k_aN, k_bN, c12_1]) dX5_kind_17

set_option maxHeartbeats 4000000 in
set_option maxRecDepth 100000 in
theorem c_X5_worth (l : Launch) (D : va_G) (G : Nat → ClassId) (ad : Nat → Nat → Nat) (hI : wI LC ad) (I : St) (r a b : Int32) (hM : okM I) (hKd : okK I) : Met l yX5_worth wsX5_worth ({ frames := 6, cells := 0, slots := 0, locals := 269 } : Room) (gPre D G LC ad [.ref (ad 0 (0)), .int (r), .int (a), .int (b)] (wC G ad I)) (gQl D LC ad (wC G ad) (fun r9 u => r9 = (if (okN (nI 4) r && (okN (nI 3) a && okN (nI 4) b)) = true then wth I (tn r) (tn a * 4 + tn b) (kd I (tn a * 4 + tn b)) else -1000000000002) ∧ Sm gC I u)) 0 0 (wA LC ad) := by
  refine g_entry (C := RX5) (cc := cX5_worth) (maxL := 4) (ret := (some .long)) rfl (by decide) rfl (Nat.le_of_ble_eq_true rfl) (fun p e s m args below meth c Q ls hQ hx hb hr hts hown hlocks hml hW hK hl => ?_)
  have hl : lv_has ls 4 [(0, .ref (ad 0 (0))), (1, .int (r)), (2, .int (a)), (3, .int (b))] := hl
  have hS := va_S.rf (A := wA LC ad) (H0 := s.heap)
  have hinX2 : ∀ w ∈ wsX20, w ∈ wsX5_worth := by decide +kernel
  have hinX5 : ∀ w ∈ wsX50, w ∈ wsX5_worth := by decide +kernel
  have hf10 := hts (.fieldLink RX5 10 "JoinedStores" "now" "LJoinedStores$Network;") (by decide +kernel)
  have hf68 := hts (.fieldLink RX5 68 "JoinedStores$Network" "stores" "[LJoinedStores$Store;") (by decide +kernel)
  refine lv_iload_n hx hb dX5_worth_0 rfl (lv_at hl 1 rfl) ?_
  refine g_pi (va_runS (As := [.int (r)]) (rest := []) ⟨hx, hb, hml, hown, hts⟩ (c_X5_isReplica l r) (va_cwS 1 hts gX5_worth_X5_isReplica rfl rfl rfl (by decide +kernel) ⟨Nat.le_of_ble_eq_true rfl, Nat.le_of_ble_eq_true rfl⟩) p_preS rfl rfl hl.1 rfl (lv_room (Nat.le_of_ble_eq_true rfl)) dX5_worth_1 ⟨Nat.le_refl _, Nat.le_refl _⟩) hW hS (fun H locs hW hS => ?_)
  refine lv_if_eq (tgt := 15) hx hb dX5_worth_4 (by decide) (fun c4_0 => ?_) (fun c4_0 => ?_)
  · replace c4_0 := bI_0.mp c4_0
    try simp only [decide_eq_true_eq, decide_eq_false_iff_not] at c4_0
    refine lv_ldc2 (v := (-1000000000002)) hx hb hown (hts (.constantLong RX5 114 (-1000000000002)) (by decide +kernel)) dX5_worth_15 ?_
    rw [hQ]
    exact g_lret (wd := wC G ad) hx hb hr hlocks hW hS (by skip; refine ⟨?_, Sm.rf⟩; simp [c4_0]) dX5_worth_18
  · replace c4_0 := bI_1.mp c4_0
    obtain ⟨rN, hrN, erN⟩ := okN_nI (k := 4) (by decide) c4_0
    subst erN
    have t_rN : tn (nI rN) = rN := tn_nI (by omega)
    have k_rN : okN (nI 4) (nI rN) = true := okN_of (by decide) hrN
    refine lv_iload_n hx hb dX5_worth_7 rfl (lv_at hl 2 rfl) ?_
    refine lv_iload_n hx hb dX5_worth_8 rfl (lv_at hl 3 rfl) ?_
    refine g_pi (va_runS (As := [.int (a), .int (b)]) (rest := []) ⟨hx, hb, hml, hown, hts⟩ (c_X5_isObject l a b) (va_cwS 2 hts gX5_worth_X5_isObject rfl rfl rfl (by decide +kernel) ⟨Nat.le_of_ble_eq_true rfl, Nat.le_of_ble_eq_true rfl⟩) p_preS rfl rfl hl.1 rfl (lv_room (Nat.le_of_ble_eq_true rfl)) dX5_worth_9 ⟨Nat.le_refl _, Nat.le_refl _⟩) hW hS (fun H locs hW hS => ?_)
    refine lv_if_ne (tgt := 19) hx hb dX5_worth_12 (by decide) (fun c12_1 => ?_) (fun c12_1 => ?_)
    · replace c12_1 := bI_1.mp c12_1
      obtain ⟨aN, haN, eaN⟩ := okN_nI (k := 3) (by decide) (okAnd c12_1).1
      subst eaN
      have t_aN : tn (nI aN) = aN := tn_nI (by omega)
      have k_aN : okN (nI 3) (nI aN) = true := okN_of (by decide) haN
      obtain ⟨bN, hbN, ebN⟩ := okN_nI (k := 4) (by decide) (okAnd c12_1).2
      subst ebN
      have t_bN : tn (nI bN) = bN := tn_nI (by omega)
      have k_bN : okN (nI 4) (nI bN) = true := okN_of (by decide) hbN
      refine lv_aload_n hx hb dX5_worth_19 rfl (lv_at hl 0 rfl) ?_
      refine r_get hx hb hts hown hK hW 0 (0) 0 (mC (by decide) (by decide)) rfl rfl hinX5 (by decide) hf10 rfl rfl dX5_worth_20 ?_
      refine lv_aload_n hx hb dX5_worth_23 rfl (lv_at hl 0 rfl) ?_
      refine r_get hx hb hts hown hK hW 0 (0) 0 (mC (by decide) (by decide)) rfl rfl hinX5 (by decide) hf10 rfl rfl dX5_worth_24 ?_
      refine r_get hx hb hts hown hK hW 1 (0) 2 (mC (by decide) (by decide)) rfl rfl hinX2 (by decide) hf68 rfl rfl dX5_worth_27 ?_
      refine lv_iload_n hx hb dX5_worth_30 rfl (lv_at hl 1 rfl) ?_
      refine r_aald hx hb hK hW 1 3 (0) (rN) (mC (by decide) (by decide)) rfl rfl (show rN < 4 by omega) (by decide) rfl rfl dX5_worth_31 ?_
      refine lv_iload_n hx hb dX5_worth_32 rfl (lv_at hl 2 rfl) ?_
      refine lv_iload_n hx hb dX5_worth_33 rfl (lv_at hl 3 rfl) ?_
      refine g_pi (va_runS (As := [.int (nI (aN)), .int (nI (bN))]) (rest := [.ref (ad 4 (rN)), .ref (ad 1 (0))]) ⟨hx, hb, hml, hown, hts⟩ (c_X5_objectAt l (aN) (bN)) (va_cwS 2 hts gX5_worth_X5_objectAt rfl rfl rfl (by decide +kernel) ⟨Nat.le_of_ble_eq_true rfl, Nat.le_of_ble_eq_true rfl⟩) p_preS rfl rfl hl.1 rfl (lv_room (Nat.le_of_ble_eq_true rfl)) dX5_worth_34 ⟨Nat.le_refl _, Nat.le_refl _⟩) hW hS (fun H locs hW hS => ?_)
      refine g_cl (va_runV (As := [.ref (ad 4 (rN)), .int (nI (aN * 4 + bN))]) (rest := []) ⟨hx, hb, hml, hown, hts⟩ (c_X2_worthIn l D G ad hI I rN (aN * 4 + bN) (show rN < 59 by omega) (show aN * 4 + bN < 12 by omega) hM hKd) (cwV 2 hts gX5_worth_X2_worthIn rfl rfl rfl (by decide +kernel) ⟨Nat.le_of_ble_eq_true rfl, Nat.le_of_ble_eq_true rfl⟩) (g_preV hK hW 1 (0) (mC (by decide) (by decide)) rfl rfl) rfl rfl hl.1 rfl (lv_room (Nat.le_of_ble_eq_true rfl)) dX5_worth_37 ⟨Nat.le_refl _, Nat.le_refl _⟩) hS (fun x3 I3 H locs hp hW hS => ?_)
      obtain ⟨ex3, eI3⟩ := hp
      rw [hQ]
      exact g_lret (wd := wC G ad) hx hb hr hlocks hW hS (by subst eI3 ex3; refine ⟨?_, Sm.gst (fun _ => Or.inl rfl) Sm.rf _⟩; rw [if_pos (by simp [k_rN, k_aN, k_bN])]; simp only [t_rN, t_aN, t_bN]) dX5_worth_40
    · replace c12_1 := bI_0.mp c12_1
      try simp only [decide_eq_true_eq, decide_eq_false_iff_not] at c12_1
      refine lv_ldc2 (v := (-1000000000002)) hx hb hown (hts (.constantLong RX5 114 (-1000000000002)) (by decide +kernel)) dX5_worth_15 ?_
      rw [hQ]
      exact g_lret (wd := wC G ad) hx hb hr hlocks hW hS (by skip; refine ⟨?_, Sm.rf⟩; simp [k_rN, c12_1]) dX5_worth_18

set_option maxHeartbeats 4000000 in
set_option maxRecDepth 100000 in
theorem c_X5_told (l : Launch) (D : va_G) (G : Nat → ClassId) (ad : Nat → Nat → Nat) (hI : wI LC ad) (I : St) (r o w : Int32) : Met l yX5_told wsX5_told ({ frames := 4, cells := 0, slots := 0, locals := 90 } : Room) (gPre D G LC ad [.ref (ad 0 (0)), .int (r), .int (o), .int (w)] (wC G ad I)) (gQi D LC ad (wC G ad) (fun r9 u => r9 = (if (okN (nI 4) r && okN (nI 4) o) = true then tld I (tn r) (tn o) w else -2) ∧ u = I)) 0 0 (wA LC ad) := by
  refine g_entry (C := RX5) (cc := cX5_told) (maxL := 4) (ret := (some .int)) rfl (by decide) rfl (Nat.le_of_ble_eq_true rfl) (fun p e s m args below meth c Q ls hQ hx hb hr hts hown hlocks hml hW hK hl => ?_)
  have hl : lv_has ls 4 [(0, .ref (ad 0 (0))), (1, .int (r)), (2, .int (o)), (3, .int (w))] := hl
  have hS := va_S.rf (A := wA LC ad) (H0 := s.heap)
  have hinX2 : ∀ w ∈ wsX20, w ∈ wsX5_told := by decide +kernel
  have hinX4 : ∀ w ∈ wsX40, w ∈ wsX5_told := by decide +kernel
  have hinX5 : ∀ w ∈ wsX50, w ∈ wsX5_told := by decide +kernel
  have hf10 := hts (.fieldLink RX5 10 "JoinedStores" "now" "LJoinedStores$Network;") (by decide +kernel)
  have hf68 := hts (.fieldLink RX5 68 "JoinedStores$Network" "stores" "[LJoinedStores$Store;") (by decide +kernel)
  have hf120 := hts (.fieldLink RX5 120 "JoinedStores$Store" "heard" "[I") (by decide +kernel)
  have hf123 := hts (.fieldLink RX5 123 "JoinedStores$Store" "alive" "[I") (by decide +kernel)
  refine lv_iload_n hx hb dX5_told_0 rfl (lv_at hl 1 rfl) ?_
  refine g_pi (va_runS (As := [.int (r)]) (rest := []) ⟨hx, hb, hml, hown, hts⟩ (c_X5_isReplica l r) (va_cwS 1 hts gX5_told_X5_isReplica rfl rfl rfl (by decide +kernel) ⟨Nat.le_of_ble_eq_true rfl, Nat.le_of_ble_eq_true rfl⟩) p_preS rfl rfl hl.1 rfl (lv_room (Nat.le_of_ble_eq_true rfl)) dX5_told_1 ⟨Nat.le_refl _, Nat.le_refl _⟩) hW hS (fun H locs hW hS => ?_)
  refine lv_if_eq (tgt := 14) hx hb dX5_told_4 (by decide) (fun c4_0 => ?_) (fun c4_0 => ?_)
  · replace c4_0 := bI_0.mp c4_0
    try simp only [decide_eq_true_eq, decide_eq_false_iff_not] at c4_0
    refine lv_bipush (v := (-2)) hx hb dX5_told_14 (by decide) ?_
    rw [hQ]
    exact g_iret (wd := wC G ad) hx hb hr rfl hlocks hW hS (by skip; refine ⟨?_, rfl⟩; simp [c4_0]) dX5_told_16
  · replace c4_0 := bI_1.mp c4_0
    obtain ⟨rN, hrN, erN⟩ := okN_nI (k := 4) (by decide) c4_0
    subst erN
    have t_rN : tn (nI rN) = rN := tn_nI (by omega)
    have k_rN : okN (nI 4) (nI rN) = true := okN_of (by decide) hrN
    refine lv_iload_n hx hb dX5_told_7 rfl (lv_at hl 2 rfl) ?_
    refine g_pi (va_runS (As := [.int (o)]) (rest := []) ⟨hx, hb, hml, hown, hts⟩ (c_X5_isReplica l o) (va_cwS 1 hts gX5_told_X5_isReplica rfl rfl rfl (by decide +kernel) ⟨Nat.le_of_ble_eq_true rfl, Nat.le_of_ble_eq_true rfl⟩) p_preS rfl rfl hl.1 rfl (lv_room (Nat.le_of_ble_eq_true rfl)) dX5_told_8 ⟨Nat.le_refl _, Nat.le_refl _⟩) hW hS (fun H locs hW hS => ?_)
    refine lv_if_ne (tgt := 17) hx hb dX5_told_11 (by decide) (fun c11_1 => ?_) (fun c11_1 => ?_)
    · replace c11_1 := bI_1.mp c11_1
      obtain ⟨oN, hoN, eoN⟩ := okN_nI (k := 4) (by decide) c11_1
      subst eoN
      have t_oN : tn (nI oN) = oN := tn_nI (by omega)
      have k_oN : okN (nI 4) (nI oN) = true := okN_of (by decide) hoN
      refine lv_iload_n hx hb dX5_told_17 rfl (lv_at hl 3 rfl) ?_
      by_cases c18_2_0 : w = nI 0
      · refine lv_tableIn (tgt := 48) (off := 30) hx hb dX5_told_18 (by rw [c18_2_0]; decide) (by rw [c18_2_0]; decide) (by rw [c18_2_0]; rfl) (by decide) ?_
        refine lv_aload_n hx hb dX5_told_48 rfl (lv_at hl 0 rfl) ?_
        refine r_get hx hb hts hown hK hW 0 (0) 0 (mC (by decide) (by decide)) rfl rfl hinX5 (by decide) hf10 rfl rfl dX5_told_49 ?_
        refine r_get hx hb hts hown hK hW 1 (0) 2 (mC (by decide) (by decide)) rfl rfl hinX2 (by decide) hf68 rfl rfl dX5_told_52 ?_
        refine lv_iload_n hx hb dX5_told_55 rfl (lv_at hl 1 rfl) ?_
        refine r_aald hx hb hK hW 1 3 (0) (rN) (mC (by decide) (by decide)) rfl rfl (show rN < 4 by omega) (by decide) rfl rfl dX5_told_56 ?_
        refine r_get hx hb hts hown hK hW 4 (rN) 0 (mC (by decide) (show rN < 59 by omega)) rfl rfl hinX4 (by decide) hf120 rfl rfl dX5_told_57 ?_
        refine lv_iload_n hx hb dX5_told_60 rfl (lv_at hl 2 rfl) ?_
        refine rC_iald hx hb hK hW 10 (rN) (oN) (by decide) (by decide) (show rN < 59 by omega) (show oN < 4 by omega) rfl dX5_told_61 (fun x4 ex4 => ?_)
        rw [hQ]
        exact g_iret (wd := wC G ad) hx hb hr rfl hlocks hW hS (by subst ex4; refine ⟨?_, rfl⟩; rw [if_pos (by simp [k_rN, k_oN])]; simp only [t_rN, t_oN]; simp only [tld]; (repeat' split) <;> first | rfl | contradiction) dX5_told_62
      by_cases c18_2_1 : w = nI 1
      · refine lv_tableIn (tgt := 63) (off := 45) hx hb dX5_told_18 (by rw [c18_2_1]; decide) (by rw [c18_2_1]; decide) (by rw [c18_2_1]; rfl) (by decide) ?_
        refine lv_aload_n hx hb dX5_told_63 rfl (lv_at hl 0 rfl) ?_
        refine r_get hx hb hts hown hK hW 0 (0) 0 (mC (by decide) (by decide)) rfl rfl hinX5 (by decide) hf10 rfl rfl dX5_told_64 ?_
        refine r_get hx hb hts hown hK hW 1 (0) 2 (mC (by decide) (by decide)) rfl rfl hinX2 (by decide) hf68 rfl rfl dX5_told_67 ?_
        refine lv_iload_n hx hb dX5_told_70 rfl (lv_at hl 1 rfl) ?_
        refine r_aald hx hb hK hW 1 3 (0) (rN) (mC (by decide) (by decide)) rfl rfl (show rN < 4 by omega) (by decide) rfl rfl dX5_told_71 ?_
        refine r_get hx hb hts hown hK hW 4 (rN) 1 (mC (by decide) (show rN < 59 by omega)) rfl rfl hinX4 (by decide) hf123 rfl rfl dX5_told_72 ?_
        refine lv_iload_n hx hb dX5_told_75 rfl (lv_at hl 2 rfl) ?_
        refine rC_iald hx hb hK hW 11 (rN) (oN) (by decide) (by decide) (show rN < 59 by omega) (show oN < 4 by omega) rfl dX5_told_76 (fun x5 ex5 => ?_)
        rw [hQ]
        exact g_iret (wd := wC G ad) hx hb hr rfl hlocks hW hS (by subst ex5; refine ⟨?_, rfl⟩; rw [if_pos (by simp [k_rN, k_oN])]; simp only [t_rN, t_oN]; simp only [tld]; (repeat' split) <;> first | rfl | contradiction) dX5_told_77
      by_cases c18_2_2 : w = nI 2
      · refine lv_tableIn (tgt := 78) (off := 60) hx hb dX5_told_18 (by rw [c18_2_2]; decide) (by rw [c18_2_2]; decide) (by rw [c18_2_2]; rfl) (by decide) ?_
        refine lv_aload_n hx hb dX5_told_78 rfl (lv_at hl 0 rfl) ?_
        refine r_get hx hb hts hown hK hW 0 (0) 0 (mC (by decide) (by decide)) rfl rfl hinX5 (by decide) hf10 rfl rfl dX5_told_79 ?_
        refine lv_iload_n hx hb dX5_told_82 rfl (lv_at hl 1 rfl) ?_
        refine lv_iload_n hx hb dX5_told_83 rfl (lv_at hl 2 rfl) ?_
        refine g_ci (va_runV (As := [.int (nI (rN)), .int (nI (oN))]) (rest := []) ⟨hx, hb, hml, hown, hts⟩ (c_X2_stableAt l D G ad hI I rN oN (show rN < 4 by omega) (show oN < 4 by omega)) (cwV 2 hts gX5_told_X2_stableAt rfl rfl rfl (by decide +kernel) ⟨Nat.le_of_ble_eq_true rfl, Nat.le_of_ble_eq_true rfl⟩) (g_preV hK hW 1 (0) (mC (by decide) (by decide)) rfl rfl) rfl rfl hl.1 rfl (lv_room (Nat.le_of_ble_eq_true rfl)) dX5_told_84 ⟨Nat.le_refl _, Nat.le_refl _⟩) hS (fun x6 I6 H locs hp hW hS => ?_)
        obtain ⟨ex6, eI6⟩ := hp
        rw [eI6] at hW
        clear eI6
        rw [hQ]
        exact g_iret (wd := wC G ad) hx hb hr rfl hlocks hW hS (by subst ex6; refine ⟨?_, rfl⟩; rw [if_pos (by simp [k_rN, k_oN])]; simp only [t_rN, t_oN]; simp only [tld]; (repeat' split) <;> first | rfl | contradiction) dX5_told_87
      by_cases c18_2_3 : w = nI 3
      · refine lv_tableIn (tgt := 88) (off := 70) hx hb dX5_told_18 (by rw [c18_2_3]; decide) (by rw [c18_2_3]; decide) (by rw [c18_2_3]; rfl) (by decide) ?_
        refine lv_aload_n hx hb dX5_told_88 rfl (lv_at hl 0 rfl) ?_
        refine r_get hx hb hts hown hK hW 0 (0) 0 (mC (by decide) (by decide)) rfl rfl hinX5 (by decide) hf10 rfl rfl dX5_told_89 ?_
        refine lv_iload_n hx hb dX5_told_92 rfl (lv_at hl 1 rfl) ?_
        refine lv_iload_n hx hb dX5_told_93 rfl (lv_at hl 2 rfl) ?_
        refine g_ci (va_runV (As := [.int (nI (rN)), .int (nI (oN))]) (rest := []) ⟨hx, hb, hml, hown, hts⟩ (c_X2_tagsAt l D G ad hI I rN oN (show rN < 4 by omega) (show oN < 4 by omega)) (cwV 2 hts gX5_told_X2_tagsAt rfl rfl rfl (by decide +kernel) ⟨Nat.le_of_ble_eq_true rfl, Nat.le_of_ble_eq_true rfl⟩) (g_preV hK hW 1 (0) (mC (by decide) (by decide)) rfl rfl) rfl rfl hl.1 rfl (lv_room (Nat.le_of_ble_eq_true rfl)) dX5_told_94 ⟨Nat.le_refl _, Nat.le_refl _⟩) hS (fun x7 I7 H locs hp hW hS => ?_)
        obtain ⟨ex7, eI7⟩ := hp
        rw [eI7] at hW
        clear eI7
        rw [hQ]
        exact g_iret (wd := wC G ad) hx hb hr rfl hlocks hW hS (by subst ex7; refine ⟨?_, rfl⟩; rw [if_pos (by simp [k_rN, k_oN])]; simp only [t_rN, t_oN]; simp only [tld]; (repeat' split) <;> first | rfl | contradiction) dX5_told_97
      refine lv_tableOut (tgt := 98) hx hb dX5_told_18 (sw_rng 0 3 (by decide) (fun j h1 h2 => by rcases (by omega : j = 0 ∨ j = 1 ∨ j = 2 ∨ j = 3) with rfl | rfl | rfl | rfl <;> assumption)) (by decide) ?_
      refine lv_iload_n hx hb dX5_told_98 rfl (lv_at hl 3 rfl) ?_
      refine lv_bipush (v := nI 10) hx hb dX5_told_99 (by decide) ?_
      refine lv_icmp_lt (tgt := 130) hx hb dX5_told_101 (by decide) (fun c101_7 => ?_) (fun c101_7 => ?_)
      · refine lv_bipush (v := (-2)) hx hb dX5_told_130 (by decide) ?_
        rw [hQ]
        exact g_iret (wd := wC G ad) hx hb hr rfl hlocks hW hS (by refine ⟨?_, rfl⟩; rw [if_pos (by simp [k_rN, k_oN])]; simp only [t_rN, t_oN]; simp only [tld]; first | ((repeat' split) <;> first | rfl | contradiction | (rename_i q9; exfalso; skip; simp_all))) dX5_told_132
      · refine lv_iload_n hx hb dX5_told_104 rfl (lv_at hl 3 rfl) ?_
        refine lv_bipush (v := nI 10) hx hb dX5_told_105 (by decide) ?_
        refine lv_isub hx hb dX5_told_107 (lv_topi (fun x9 ex9 => ?_))
        refine g_pi (va_runS (As := [.int (x9)]) (rest := []) ⟨hx, hb, hml, hown, hts⟩ (c_X5_isReplica l x9) (va_cwS 1 hts gX5_told_X5_isReplica rfl rfl rfl (by decide +kernel) ⟨Nat.le_of_ble_eq_true rfl, Nat.le_of_ble_eq_true rfl⟩) p_preS rfl rfl hl.1 rfl (lv_room (Nat.le_of_ble_eq_true rfl)) dX5_told_108 ⟨Nat.le_refl _, Nat.le_refl _⟩) hW hS (fun H locs hW hS => ?_)
        refine lv_if_eq (tgt := 130) hx hb dX5_told_111 (by decide) (fun c111_9 => ?_) (fun c111_9 => ?_)
        · replace c111_9 := bI_0.mp c111_9
          try simp only [decide_eq_true_eq, decide_eq_false_iff_not] at c111_9
          refine lv_bipush (v := (-2)) hx hb dX5_told_130 (by decide) ?_
          rw [hQ]
          exact g_iret (wd := wC G ad) hx hb hr rfl hlocks hW hS (by refine ⟨?_, rfl⟩; rw [if_pos (by simp [k_rN, k_oN, c111_9])]; simp only [t_rN, t_oN]; simp only [tld]; first | ((repeat' split) <;> first | rfl | contradiction | (rename_i q9; exfalso; subst ex9; simp_all))) dX5_told_132
        · replace c111_9 := bI_1.mp c111_9
          obtain ⟨x9N, hx9N, ex9N⟩ := okN_nI (k := 4) (by decide) c111_9
          subst ex9N
          have t_x9N : tn (nI x9N) = x9N := tn_nI (by omega)
          have k_x9N : okN (nI 4) (nI x9N) = true := okN_of (by decide) hx9N
          refine lv_aload_n hx hb dX5_told_114 rfl (lv_at hl 0 rfl) ?_
          refine r_get hx hb hts hown hK hW 0 (0) 0 (mC (by decide) (by decide)) rfl rfl hinX5 (by decide) hf10 rfl rfl dX5_told_115 ?_
          refine lv_iload_n hx hb dX5_told_118 rfl (lv_at hl 1 rfl) ?_
          refine lv_iload_n hx hb dX5_told_119 rfl (lv_at hl 2 rfl) ?_
          refine lv_iload_n hx hb dX5_told_120 rfl (lv_at hl 3 rfl) ?_
          refine lv_bipush (v := nI 10) hx hb dX5_told_121 (by decide) ?_
          refine lv_isub hx hb dX5_told_123 (r_top ex9.symm ?_)
          refine g_ci (va_runV (As := [.int (nI (rN)), .int (nI (oN)), .int (nI (x9N))]) (rest := []) ⟨hx, hb, hml, hown, hts⟩ (c_X2_knownBy l D G ad hI I rN oN x9N (show rN < 4 by omega) (show oN < 4 by omega) (show x9N < 4 by omega)) (cwV 3 hts gX5_told_X2_knownBy rfl rfl rfl (by decide +kernel) ⟨Nat.le_of_ble_eq_true rfl, Nat.le_of_ble_eq_true rfl⟩) (g_preV hK hW 1 (0) (mC (by decide) (by decide)) rfl rfl) rfl rfl hl.1 rfl (lv_room (Nat.le_of_ble_eq_true rfl)) dX5_told_124 ⟨Nat.le_refl _, Nat.le_refl _⟩) hS (fun x11 I11 H locs hp hW hS => ?_)
          obtain ⟨ex11, eI11⟩ := hp
          rw [eI11] at hW
          clear eI11
          refine lv_goto (tgt := 132) hx hb dX5_told_127 (by decide) ?_
          rw [hQ]
          exact g_iret (wd := wC G ad) hx hb hr rfl hlocks hW hS (by subst ex11; refine ⟨?_, rfl⟩; rw [if_pos (by simp [k_rN, k_oN, k_x9N])]; simp only [t_rN, t_oN, t_x9N]; simp only [tld]; (repeat' split) <;> first | contradiction | (rename_i q9; rw [← ex9]; simp only [t_rN, t_oN, t_x9N]; done) | (rename_i q9; rw [← ex9] at q9; simp_all)) dX5_told_132
    · replace c11_1 := bI_0.mp c11_1
      try simp only [decide_eq_true_eq, decide_eq_false_iff_not] at c11_1
      refine lv_bipush (v := (-2)) hx hb dX5_told_14 (by decide) ?_
      rw [hQ]
      exact g_iret (wd := wC G ad) hx hb hr rfl hlocks hW hS (by skip; refine ⟨?_, rfl⟩; simp [k_rN, c11_1]) dX5_told_16
