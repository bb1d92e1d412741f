/-! ===== goes on ===== -/
set_option maxHeartbeats 4000000 in
set_option maxRecDepth 100000 in
theorem c_X5_come (l : Launch) (D : va_G) (G : Nat → ClassId) (ad : Nat → Nat → Nat) (hI : wI LC ad) (I : St) (m0 : Int32) (hT : okT I) (hWt : okW I) (hLt : okL I) : Met l yX5_come wsX5_come ({ frames := 3, cells := 0, slots := 0, locals := 62 } : Room) (gPre D G LC ad [.ref (ad 0 (0)), .int (m0)] (wC G ad I)) (gQi D LC ad (wC G ad) (fun r9 u => r9 = (if okN (nI (wt I)) m0 = true then bcs (cmS I (tn m0) (I 6 0 (tn m0)).toNatClampNeg 10 (mto I (I 6 0 (tn m0)).toNatClampNeg)) 4 - bcs (I 10 (mto I (I 6 0 (tn m0)).toNatClampNeg)) 4 else -2) ∧ u = (if okN (nI (wt I)) m0 = true then cmS I (tn m0) (I 6 0 (tn m0)).toNatClampNeg else I))) 0 0 (wA LC ad) := by
  refine g_entry (C := RX5) (cc := cX5_come) (maxL := 5) (ret := (some .int)) rfl (by decide) rfl (Nat.le_of_ble_eq_true rfl) (fun p e s m args below meth c Q ls hQ hx hb hr hts hown hlocks hml hW hK hl => ?_)
  have hl : lv_has ls 5 [(0, .ref (ad 0 (0))), (1, .int (m0))] := hl
  have hS := va_S.rf (A := wA LC ad) (H0 := s.heap)
  have hinX1 : ∀ w ∈ wsX10, w ∈ wsX5_come := by decide +kernel
  have hinX2 : ∀ w ∈ wsX20, w ∈ wsX5_come := by decide +kernel
  have hinX5 : ∀ w ∈ wsX50, w ∈ wsX5_come := by decide +kernel
  have hf10 := hts (.fieldLink RX5 10 "JoinedStores" "now" "LJoinedStores$Network;") (by decide +kernel)
  have hf68 := hts (.fieldLink RX5 68 "JoinedStores$Network" "stores" "[LJoinedStores$Store;") (by decide +kernel)
  have hf165 := hts (.fieldLink RX5 165 "JoinedStores$Network" "waiting" "[LJoinedStores$Message;") (by decide +kernel)
  have hf169 := hts (.fieldLink RX5 169 "JoinedStores$Message" "to" "I") (by decide +kernel)
  have hf174 := hts (.fieldLink RX5 174 "JoinedStores$Message" "store" "LJoinedStores$Store;") (by decide +kernel)
  refine lv_aload_n hx hb dX5_come_0 rfl (lv_at hl 0 rfl) ?_
  refine lv_iload_n hx hb dX5_come_1 rfl (lv_at hl 1 rfl) ?_
  refine g_ci (va_runV (As := [.int (m0)]) (rest := []) ⟨hx, hb, hml, hown, hts⟩ (c_X5_isMessage l D G ad hI I m0 hT) (cwV 1 hts gX5_come_X5_isMessage rfl rfl rfl (by decide +kernel) ⟨Nat.le_of_ble_eq_true rfl, Nat.le_of_ble_eq_true rfl⟩) (g_preV hK hW 0 (0) (mC (by decide) (by decide)) rfl rfl) rfl rfl hl.1 rfl (lv_room (Nat.le_of_ble_eq_true rfl)) dX5_come_2 ⟨Nat.le_refl _, Nat.le_refl _⟩) hS (fun x1 I1 H locs hp hW hS => ?_)
  obtain ⟨ex1, eI1⟩ := hp
  rw [eI1] at hW
  clear eI1
  refine lv_if_ne (tgt := 11) hx hb dX5_come_5 (by decide) (fun c5_1 => ?_) (fun c5_1 => ?_)
  · rw [ex1] at c5_1
    replace c5_1 := bI_1.mp c5_1
    obtain ⟨m0N, hm0N, em0N⟩ := okN_nI (k := wt I) (by have := hT.2; omega) c5_1
    subst em0N
    have hw6_m0N := hT.2
    have t_m0N : tn (nI m0N) = m0N := tn_nI (by omega)
    have k_m0N : okN (nI (wt I)) (nI m0N) = true := okN_of (by have := hT.2; omega) hm0N
    refine lv_aload_n hx hb dX5_come_11 rfl (lv_at hl 0 rfl) ?_
    refine r_get hx hb hts hown hK hW 0 (0) 0 (mC (by decide) (by decide)) rfl rfl hinX5 (by decide) hf10 rfl rfl dX5_come_12 ?_
    refine r_get hx hb hts hown hK hW 1 (0) 5 (mC (by decide) (by decide)) rfl rfl hinX2 (by decide) hf165 rfl rfl dX5_come_15 ?_
    refine lv_iload_n hx hb dX5_come_18 rfl (lv_at hl 1 rfl) ?_
    refine r_aald hx hb hK hW 2 6 (0) (m0N) (mC (by decide) (by decide)) rfl rfl (show m0N < 6 by omega) (by decide) rfl rfl dX5_come_19 ?_
    have hp1 := hWt 0 m0N (by decide) (by omega)
    obtain ⟨hf9, hf4, ht9, ht4⟩ := hLt m0N (by omega)
    refine lv_astore_n (lv' := [(2, .ref (ad 8 ((I 6 0 m0N).toNatClampNeg))), (0, .ref (ad 0 (0))), (1, .int (nI (m0N)))]) hx hb dX5_come_20 rfl hl (by decide) rfl (fun ls hl => ?_)
    refine lv_aload_n hx hb dX5_come_21 rfl (lv_at hl 1 rfl) ?_
    refine r_get hx hb hts hown hK hW 0 (0) 0 (mC (by decide) (by decide)) rfl rfl hinX5 (by decide) hf10 rfl rfl dX5_come_22 ?_
    refine r_get hx hb hts hown hK hW 1 (0) 2 (mC (by decide) (by decide)) rfl rfl hinX2 (by decide) hf68 rfl rfl dX5_come_25 ?_
    refine lv_aload_n hx hb dX5_come_28 rfl (lv_at hl 0 rfl) ?_
    refine r_get hx hb hts hown hK hW 8 ((I 6 0 m0N).toNatClampNeg) 1 (mC (by decide) (show (I 6 0 m0N).toNatClampNeg < 12 by omega)) rfl rfl hinX1 (by decide) hf169 rfl rfl dX5_come_29 (lv_topi (fun x3 ex3 => ?_))
    refine r_top (show x3 = nI (mto I (I 6 0 m0N).toNatClampNeg) from (ex3.trans ht9)) ?_
    refine r_aald hx hb hK hW 1 3 (0) (mto I (I 6 0 m0N).toNatClampNeg) (mC (by decide) (by decide)) rfl rfl (show mto I (I 6 0 m0N).toNatClampNeg < 4 by omega) (by decide) rfl rfl dX5_come_32 ?_
    refine lv_astore_n (lv' := [(3, .ref (ad 4 (mto I (I 6 0 m0N).toNatClampNeg))), (2, .ref (ad 8 ((I 6 0 m0N).toNatClampNeg))), (0, .ref (ad 0 (0))), (1, .int (nI (m0N)))]) hx hb dX5_come_33 rfl hl (by decide) rfl (fun ls hl => ?_)
    refine lv_aload_n hx hb dX5_come_34 rfl (lv_at hl 0 rfl) ?_
    refine g_ci (va_runV (As := []) (rest := []) ⟨hx, hb, hml, hown, hts⟩ (c_X4_heardInAll l D G ad hI I (mto I (I 6 0 m0N).toNatClampNeg) (show mto I (I 6 0 m0N).toNatClampNeg < 59 by omega)) (cwV 0 hts gX5_come_X4_heardInAll rfl rfl rfl (by decide +kernel) ⟨Nat.le_of_ble_eq_true rfl, Nat.le_of_ble_eq_true rfl⟩) (g_preV hK hW 4 (mto I (I 6 0 m0N).toNatClampNeg) (mC (by decide) (show mto I (I 6 0 m0N).toNatClampNeg < 59 by omega)) rfl rfl) rfl rfl hl.1 rfl (lv_room (Nat.le_of_ble_eq_true rfl)) dX5_come_35 ⟨Nat.le_refl _, Nat.le_refl _⟩) hS (fun x4 I4 H locs hp hW hS => ?_)
    obtain ⟨ex4, eI4⟩ := hp
    rw [eI4] at hW
    clear eI4
    refine lv_istore (lv' := [(4, .int (x4)), (3, .ref (ad 4 (mto I (I 6 0 m0N).toNatClampNeg))), (2, .ref (ad 8 ((I 6 0 m0N).toNatClampNeg))), (0, .ref (ad 0 (0))), (1, .int (nI (m0N)))]) hx hb dX5_come_38 hl (by decide) rfl (fun ls hl => ?_)
    refine lv_aload_n hx hb dX5_come_40 rfl (lv_at hl 1 rfl) ?_
    refine lv_aload_n hx hb dX5_come_41 rfl (lv_at hl 2 rfl) ?_
    refine r_get hx hb hts hown hK hW 8 ((I 6 0 m0N).toNatClampNeg) 2 (mC (by decide) (show (I 6 0 m0N).toNatClampNeg < 12 by omega)) rfl rfl hinX1 (by decide) hf174 rfl rfl dX5_come_42 ?_
    refine g_cv (va_runV (As := [.ref (ad 4 ((I 6 0 m0N).toNatClampNeg + 20))]) (rest := []) ⟨hx, hb, hml, hown, hts⟩ (c_X4_join l D G ad hI I (mto I (I 6 0 m0N).toNatClampNeg) ((I 6 0 m0N).toNatClampNeg + 20) (show mto I (I 6 0 m0N).toNatClampNeg < 59 by omega) (show (I 6 0 m0N).toNatClampNeg + 20 < 59 by omega)) (cwV 1 hts gX5_come_X4_join rfl rfl rfl (by decide +kernel) ⟨Nat.le_of_ble_eq_true rfl, Nat.le_of_ble_eq_true rfl⟩) (g_preV hK hW 4 (mto I (I 6 0 m0N).toNatClampNeg) (mC (by decide) (show mto I (I 6 0 m0N).toNatClampNeg < 59 by omega)) rfl rfl) rfl rfl hl.1 rfl (lv_room (Nat.le_of_ble_eq_true rfl)) dX5_come_45 ⟨Nat.le_refl _, Nat.le_refl _⟩) hS (fun I5 H locs hp hW hS => ?_)
    have eI5 : I5 = jn I (mto I (I 6 0 m0N).toNatClampNeg) ((I 6 0 m0N).toNatClampNeg + 20) := hp
    have hf8 : I5 8 (I 6 0 m0N).toNatClampNeg 0 = nI (mfr I (I 6 0 m0N).toNatClampNeg) := by subst eI5 ex4 ex3 ex1; rw [jn_n (by decide) (by decide)]; exact hf9
    have ht8 : I5 8 (I 6 0 m0N).toNatClampNeg 1 = nI (mto I (I 6 0 m0N).toNatClampNeg) := by subst eI5 ex4 ex3 ex1; rw [jn_n (by decide) (by decide)]; exact ht9
    refine lv_aload_n hx hb dX5_come_48 rfl (lv_at hl 3 rfl) ?_
    refine r_get hx hb hts hown hK hW 0 (0) 0 (mC (by decide) (by decide)) rfl rfl hinX5 (by decide) hf10 rfl rfl dX5_come_49 ?_
    refine lv_aload_n hx hb dX5_come_52 rfl (lv_at hl 2 rfl) ?_
    refine g_cv (va_runV (As := [.ref (ad 8 ((I 6 0 m0N).toNatClampNeg))]) (rest := []) ⟨hx, hb, hml, hown, hts⟩ (c_X2_learn l D G ad hI I5 ((I 6 0 m0N).toNatClampNeg) (mfr I (I 6 0 m0N).toNatClampNeg) (mto I (I 6 0 m0N).toNatClampNeg) (by omega) hf4 ht4 hf8 ht8) (cwV 1 hts gX5_come_X2_learn rfl rfl rfl (by decide +kernel) ⟨Nat.le_of_ble_eq_true rfl, Nat.le_of_ble_eq_true rfl⟩) (g_preV hK hW 1 (0) (mC (by decide) (by decide)) rfl rfl) rfl rfl hl.1 rfl (lv_room (Nat.le_of_ble_eq_true rfl)) dX5_come_53 ⟨Nat.le_refl _, Nat.le_refl _⟩) hS (fun I6 H locs hp hW hS => ?_)
    have eI6 : I6 = lrP I5 ((I 6 0 m0N).toNatClampNeg) ((mto I (I 6 0 m0N).toNatClampNeg * 4 + mfr I (I 6 0 m0N).toNatClampNeg) * 4) 4 := hp
    have hwt9 : wt I6 = wt I := wt_e (by subst eI6 eI5 ex4 ex3 ex1; simp [clr_n, cpy_n, jn_n, mb_n, mg_n, jwP_n, tcP_n, up3_f, up3_s, mkd, gst_n, mset_n, psd_w, rsP_n, dr_n, lrP_n])
    refine lv_aload_n hx hb dX5_come_56 rfl (lv_at hl 3 rfl) ?_
    refine r_get hx hb hts hown hK hW 0 (0) 0 (mC (by decide) (by decide)) rfl rfl hinX5 (by decide) hf10 rfl rfl dX5_come_57 ?_
    refine lv_iload_n hx hb dX5_come_60 rfl (lv_at hl 4 rfl) ?_
    have hT_6 : okT I6 := okT_e (by subst eI6 eI5 ex4 ex3 ex1; simp [clr_n, cpy_n, jn_n, mb_n, mg_n, jwP_n, tcP_n, up3_f, up3_s, mkd, gst_n, mset_n, psd_w, rsP_n, dr_n, lrP_n]) hT
    have hW_7 : okW I6 := okW_e (fun n9 j9 => by subst eI6 eI5 ex4 ex3 ex1; simp [clr_n, cpy_n, jn_n, mb_n, mg_n, jwP_n, tcP_n, up3_f, up3_s, mkd, gst_n, mset_n, psd_w, rsP_n, dr_n, lrP_n]) hWt
    refine g_cv (va_runV (As := [.int (nI (m0N))]) (rest := []) ⟨hx, hb, hml, hown, hts⟩ (c_X2_drop l D G ad hI I6 m0N (show m0N < wt I6 by omega) hT_6 hW_7) (cwV 1 hts gX5_come_X2_drop rfl rfl rfl (by decide +kernel) ⟨Nat.le_of_ble_eq_true rfl, Nat.le_of_ble_eq_true rfl⟩) (g_preV hK hW 1 (0) (mC (by decide) (by decide)) rfl rfl) rfl rfl hl.1 rfl (lv_room (Nat.le_of_ble_eq_true rfl)) dX5_come_61 ⟨Nat.le_refl _, Nat.le_refl _⟩) hS (fun I9 H locs hp hW hS => ?_)
    have eI9 : I9 = dr I6 m0N := hp
    refine lv_aload_n hx hb dX5_come_64 rfl (lv_at hl 1 rfl) ?_
    refine g_ci (va_runV (As := []) (rest := []) ⟨hx, hb, hml, hown, hts⟩ (c_X4_heardInAll l D G ad hI I9 (mto I (I 6 0 m0N).toNatClampNeg) (show mto I (I 6 0 m0N).toNatClampNeg < 59 by omega)) (cwV 0 hts gX5_come_X4_heardInAll rfl rfl rfl (by decide +kernel) ⟨Nat.le_of_ble_eq_true rfl, Nat.le_of_ble_eq_true rfl⟩) (g_preV hK hW 4 (mto I (I 6 0 m0N).toNatClampNeg) (mC (by decide) (show mto I (I 6 0 m0N).toNatClampNeg < 59 by omega)) rfl rfl) rfl rfl hl.1 rfl (lv_room (Nat.le_of_ble_eq_true rfl)) dX5_come_65 ⟨Nat.le_refl _, Nat.le_refl _⟩) hS (fun x10 I10 H locs hp hW hS => ?_)
    obtain ⟨ex10, eI10⟩ := hp
    rw [eI10] at hW
    clear eI10
    refine lv_iload hx hb dX5_come_68 (lv_at hl 0 rfl) ?_
    refine lv_isub hx hb dX5_come_70 (lv_topi (fun x11 ex11 => ?_))
    rw [hQ]
    exact g_iret (wd := wC G ad) hx hb hr rfl hlocks hW hS (by subst ex11 ex10 eI9 eI6 eI5 ex4 ex3 ex1; refine ⟨?_, ?_⟩ <;> rw [if_pos (by simp [k_m0N])] <;> simp only [t_m0N] <;> rfl) dX5_come_71
  · rw [ex1] at c5_1
    replace c5_1 := bI_0.mp c5_1
    try simp only [decide_eq_true_eq, decide_eq_false_iff_not] at c5_1
    refine lv_bipush (v := (-2)) hx hb dX5_come_8 (by decide) ?_
    rw [hQ]
    exact g_iret (wd := wC G ad) hx hb hr rfl hlocks hW hS (by refine ⟨?_, ?_⟩ <;> simp [c5_1]) dX5_come_10

set_option maxHeartbeats 4000000 in
set_option maxRecDepth 100000 in
theorem c_X5_lose (l : Launch) (D : va_G) (G : Nat → ClassId) (ad : Nat → Nat → Nat) (hI : wI LC ad) (I : St) (m0 : Int32) (hT : okT I) (hWt : okW I) : Met l yX5_lose wsX5_lose ({ frames := 1, cells := 0, slots := 0, locals := 23 } : Room) (gPre D G LC ad [.ref (ad 0 (0)), .int (m0)] (wC G ad I)) (gQi D LC ad (wC G ad) (fun r9 u => r9 = (if okN (nI (wt I)) m0 = true then nI 1 else -2) ∧ u = (if okN (nI (wt I)) m0 = true then dr I (tn m0) else I))) 0 0 (wA LC ad) := by
  refine g_entry (C := RX5) (cc := cX5_lose) (maxL := 2) (ret := (some .int)) rfl (by decide) rfl (Nat.le_of_ble_eq_true rfl) (fun p e s m args below meth c Q ls hQ hx hb hr hts hown hlocks hml hW hK hl => ?_)
  have hl : lv_has ls 2 [(0, .ref (ad 0 (0))), (1, .int (m0))] := hl
  have hS := va_S.rf (A := wA LC ad) (H0 := s.heap)
  have hinX5 : ∀ w ∈ wsX50, w ∈ wsX5_lose := by decide +kernel
  have hf10 := hts (.fieldLink RX5 10 "JoinedStores" "now" "LJoinedStores$Network;") (by decide +kernel)
  refine lv_aload_n hx hb dX5_lose_0 rfl (lv_at hl 0 rfl) ?_
  refine lv_iload_n hx hb dX5_lose_1 rfl (lv_at hl 1 rfl) ?_
  refine g_ci (va_runV (As := [.int (m0)]) (rest := []) ⟨hx, hb, hml, hown, hts⟩ (c_X5_isMessage l D G ad hI I m0 hT) (cwV 1 hts gX5_lose_X5_isMessage rfl rfl rfl (by decide +kernel) ⟨Nat.le_of_ble_eq_true rfl, Nat.le_of_ble_eq_true rfl⟩) (g_preV hK hW 0 (0) (mC (by decide) (by decide)) rfl rfl) rfl rfl hl.1 rfl (lv_room (Nat.le_of_ble_eq_true rfl)) dX5_lose_2 ⟨Nat.le_refl _, Nat.le_refl _⟩) hS (fun x1 I1 H locs hp hW hS => ?_)
  obtain ⟨ex1, eI1⟩ := hp
  rw [eI1] at hW
  clear eI1
  refine lv_if_ne (tgt := 11) hx hb dX5_lose_5 (by decide) (fun c5_1 => ?_) (fun c5_1 => ?_)
  · rw [ex1] at c5_1
    replace c5_1 := bI_1.mp c5_1
    obtain ⟨m0N, hm0N, em0N⟩ := okN_nI (k := wt I) (by have := hT.2; omega) c5_1
    subst em0N
    have hw6_m0N := hT.2
    have t_m0N : tn (nI m0N) = m0N := tn_nI (by omega)
    have k_m0N : okN (nI (wt I)) (nI m0N) = true := okN_of (by have := hT.2; omega) hm0N
    refine lv_aload_n hx hb dX5_lose_11 rfl (lv_at hl 0 rfl) ?_
    refine r_get hx hb hts hown hK hW 0 (0) 0 (mC (by decide) (by decide)) rfl rfl hinX5 (by decide) hf10 rfl rfl dX5_lose_12 ?_
    refine lv_iload_n hx hb dX5_lose_15 rfl (lv_at hl 1 rfl) ?_
    refine g_cv (va_runV (As := [.int (nI (m0N))]) (rest := []) ⟨hx, hb, hml, hown, hts⟩ (c_X2_drop l D G ad hI I m0N (show m0N < wt I by omega) hT hWt) (cwV 1 hts gX5_lose_X2_drop rfl rfl rfl (by decide +kernel) ⟨Nat.le_of_ble_eq_true rfl, Nat.le_of_ble_eq_true rfl⟩) (g_preV hK hW 1 (0) (mC (by decide) (by decide)) rfl rfl) rfl rfl hl.1 rfl (lv_room (Nat.le_of_ble_eq_true rfl)) dX5_lose_16 ⟨Nat.le_refl _, Nat.le_refl _⟩) hS (fun I3 H locs hp hW hS => ?_)
    have eI3 : I3 = dr I m0N := hp
    refine lv_iconst (v := nI 1) hx hb dX5_lose_19 (by decide) ?_
    rw [hQ]
    exact g_iret (wd := wC G ad) hx hb hr rfl hlocks hW hS (by subst eI3 ex1; refine ⟨?_, ?_⟩; (rw [if_pos (by simp [k_m0N])]); rw [if_pos (by simp [k_m0N])]; simp only [t_m0N]) dX5_lose_20
  · rw [ex1] at c5_1
    replace c5_1 := bI_0.mp c5_1
    try simp only [decide_eq_true_eq, decide_eq_false_iff_not] at c5_1
    refine lv_bipush (v := (-2)) hx hb dX5_lose_8 (by decide) ?_
    rw [hQ]
    exact g_iret (wd := wC G ad) hx hb hr rfl hlocks hW hS (by refine ⟨?_, ?_⟩ <;> simp [c5_1]) dX5_lose_10

set_option maxHeartbeats 4000000 in
set_option maxRecDepth 100000 in
theorem c_X5_twice (l : Launch) (D : va_G) (G : Nat → ClassId) (ad : Nat → Nat → Nat) (hI : wI LC ad) (I : St) (m0 : Int32) (hT : okT I) (hWt : okW I) : Met l yX5_twice wsX5_twice ({ frames := 3, cells := 0, slots := 0, locals := 109 } : Room) (gPre D G LC ad [.ref (ad 0 (0)), .int (m0)] (wC G ad I)) (gQi D LC ad (wC G ad) (fun r9 u => r9 = (if okN (nI (wt I)) m0 = true then (if wt I < 6 then nI (wt I) else -4) else -2) ∧ u = (if (okN (nI (wt I)) m0 && decide (wt I < 6)) = true then twS I (I 6 0 (tn m0)).toNatClampNeg else I))) 0 0 (wA LC ad) := by
  refine g_entry (C := RX5) (cc := cX5_twice) (maxL := 2) (ret := (some .int)) rfl (by decide) rfl (Nat.le_of_ble_eq_true rfl) (fun p e s m args below meth c Q ls hQ hx hb hr hts hown hlocks hml hW hK hl => ?_)
  have hl : lv_has ls 2 [(0, .ref (ad 0 (0))), (1, .int (m0))] := hl
  have hS := va_S.rf (A := wA LC ad) (H0 := s.heap)
  have hinX2 : ∀ w ∈ wsX20, w ∈ wsX5_twice := by decide +kernel
  have hinX5 : ∀ w ∈ wsX50, w ∈ wsX5_twice := by decide +kernel
  have hf10 := hts (.fieldLink RX5 10 "JoinedStores" "now" "LJoinedStores$Network;") (by decide +kernel)
  have hf148 := hts (.fieldLink RX5 148 "JoinedStores$Network" "waits" "I") (by decide +kernel)
  have hf165 := hts (.fieldLink RX5 165 "JoinedStores$Network" "waiting" "[LJoinedStores$Message;") (by decide +kernel)
  refine lv_aload_n hx hb dX5_twice_0 rfl (lv_at hl 0 rfl) ?_
  refine lv_iload_n hx hb dX5_twice_1 rfl (lv_at hl 1 rfl) ?_
  refine g_ci (va_runV (As := [.int (m0)]) (rest := []) ⟨hx, hb, hml, hown, hts⟩ (c_X5_isMessage l D G ad hI I m0 hT) (cwV 1 hts gX5_twice_X5_isMessage rfl rfl rfl (by decide +kernel) ⟨Nat.le_of_ble_eq_true rfl, Nat.le_of_ble_eq_true rfl⟩) (g_preV hK hW 0 (0) (mC (by decide) (by decide)) rfl rfl) rfl rfl hl.1 rfl (lv_room (Nat.le_of_ble_eq_true rfl)) dX5_twice_2 ⟨Nat.le_refl _, Nat.le_refl _⟩) hS (fun x1 I1 H locs hp hW hS => ?_)
  obtain ⟨ex1, eI1⟩ := hp
  rw [eI1] at hW
  clear eI1
  refine lv_if_ne (tgt := 11) hx hb dX5_twice_5 (by decide) (fun c5_1 => ?_) (fun c5_1 => ?_)
  · rw [ex1] at c5_1
    replace c5_1 := bI_1.mp c5_1
    obtain ⟨m0N, hm0N, em0N⟩ := okN_nI (k := wt I) (by have := hT.2; omega) c5_1
    subst em0N
    have hw6_m0N := hT.2
    have t_m0N : tn (nI m0N) = m0N := tn_nI (by omega)
    have k_m0N : okN (nI (wt I)) (nI m0N) = true := okN_of (by have := hT.2; omega) hm0N
    refine lv_aload_n hx hb dX5_twice_11 rfl (lv_at hl 0 rfl) ?_
    refine r_get hx hb hts hown hK hW 0 (0) 0 (mC (by decide) (by decide)) rfl rfl hinX5 (by decide) hf10 rfl rfl dX5_twice_12 ?_
    refine r_get hx hb hts hown hK hW 1 (0) 6 (mC (by decide) (by decide)) rfl rfl hinX2 (by decide) hf148 rfl rfl dX5_twice_15 (lv_topi (fun x3 ex3 => ?_))
    refine r_top (show x3 = nI (wt I) from (ex3.trans hT.1)) ?_
    refine lv_bipush (v := nI 6) hx hb dX5_twice_18 (by decide) ?_
    refine lv_icmp_lt (tgt := 26) hx hb dX5_twice_20 (by decide) (fun c20_3 => ?_) (fun c20_3 => ?_)
    · replace c20_3 : wt I < 6 := (nI_ltI (show wt I < 2147483648 by omega) (show 6 < 2147483648 by omega)).mp c20_3
      refine lv_aload_n hx hb dX5_twice_26 rfl (lv_at hl 0 rfl) ?_
      refine r_get hx hb hts hown hK hW 0 (0) 0 (mC (by decide) (by decide)) rfl rfl hinX5 (by decide) hf10 rfl rfl dX5_twice_27 ?_
      refine r_get hx hb hts hown hK hW 1 (0) 5 (mC (by decide) (by decide)) rfl rfl hinX2 (by decide) hf165 rfl rfl dX5_twice_30 ?_
      refine lv_aload_n hx hb dX5_twice_33 rfl (lv_at hl 0 rfl) ?_
      refine r_get hx hb hts hown hK hW 0 (0) 0 (mC (by decide) (by decide)) rfl rfl hinX5 (by decide) hf10 rfl rfl dX5_twice_34 ?_
      refine r_get hx hb hts hown hK hW 1 (0) 6 (mC (by decide) (by decide)) rfl rfl hinX2 (by decide) hf148 rfl rfl dX5_twice_37 (lv_topi (fun x5 ex5 => ?_))
      refine r_top (show x5 = nI (wt I) from (ex5.trans hT.1)) ?_
      refine r_aald hx hb hK hW 2 6 (0) (wt I) (mC (by decide) (by decide)) rfl rfl (show wt I < 6 by omega) (by decide) rfl rfl dX5_twice_40 ?_
      have hp2 := hWt 0 (wt I) (by decide) (by omega)
      have hp1 := hWt 0 m0N (by decide) (by omega)
      refine lv_aload_n hx hb dX5_twice_41 rfl (lv_at hl 0 rfl) ?_
      refine r_get hx hb hts hown hK hW 0 (0) 0 (mC (by decide) (by decide)) rfl rfl hinX5 (by decide) hf10 rfl rfl dX5_twice_42 ?_
      refine r_get hx hb hts hown hK hW 1 (0) 5 (mC (by decide) (by decide)) rfl rfl hinX2 (by decide) hf165 rfl rfl dX5_twice_45 ?_
      refine lv_iload_n hx hb dX5_twice_48 rfl (lv_at hl 1 rfl) ?_
      refine r_aald hx hb hK hW 2 6 (0) (m0N) (mC (by decide) (by decide)) rfl rfl (show m0N < 6 by omega) (by decide) rfl rfl dX5_twice_49 ?_
      refine g_cv (va_runV (As := [.ref (ad 8 ((I 6 0 m0N).toNatClampNeg))]) (rest := []) ⟨hx, hb, hml, hown, hts⟩ (c_X1_become_ l D G ad hI I ((I 6 0 (wt I)).toNatClampNeg) ((I 6 0 m0N).toNatClampNeg) (show (I 6 0 (wt I)).toNatClampNeg < 12 by omega) (show (I 6 0 m0N).toNatClampNeg < 12 by omega)) (cwV 1 hts gX5_twice_X1_become_ rfl rfl rfl (by decide +kernel) ⟨Nat.le_of_ble_eq_true rfl, Nat.le_of_ble_eq_true rfl⟩) (g_preV hK hW 8 ((I 6 0 (wt I)).toNatClampNeg) (mC (by decide) (show (I 6 0 (wt I)).toNatClampNeg < 12 by omega)) rfl rfl) rfl rfl hl.1 rfl (lv_room (Nat.le_of_ble_eq_true rfl)) dX5_twice_50 ⟨Nat.le_refl _, Nat.le_refl _⟩) hS (fun I6 H locs hp hW hS => ?_)
      have eI6 : I6 = mset I ((I 6 0 (wt I)).toNatClampNeg) (I 8 ((I 6 0 m0N).toNatClampNeg) 0) (I 8 ((I 6 0 m0N).toNatClampNeg) 1) ((I 6 0 m0N).toNatClampNeg + 20) 18 ((I 6 0 m0N).toNatClampNeg) := hp
      refine lv_aload_n hx hb dX5_twice_53 rfl (lv_at hl 0 rfl) ?_
      refine r_get hx hb hts hown hK hW 0 (0) 0 (mC (by decide) (by decide)) rfl rfl hinX5 (by decide) hf10 rfl rfl dX5_twice_54 ?_
      refine lv_dup hx hb dX5_twice_57 rfl ?_
      refine r_get hx hb hts hown hK hW 1 (0) 6 (mC (by decide) (by decide)) rfl rfl hinX2 (by decide) hf148 rfl rfl dX5_twice_58 (lv_topi (fun x7 ex7 => ?_))
      refine r_top (show x7 = nI (wt I) from (by subst ex7 eI6 ex5 ex3 ex1; simp [clr_n, cpy_n, jn_n, mb_n, mg_n, jwP_n, tcP_n, up3_f, up3_s, mkd, gst_n, mset_n, psd_w, rsP_n, dr_n, lrP_n]; exact hT.1)) ?_
      refine lv_iconst (v := nI 1) hx hb dX5_twice_61 (by decide) ?_
      refine lv_iadd hx hb dX5_twice_62 (r_top (nI_add _ _) ?_)
      refine r_puti (wd := wC G ad) (ty := .int) hx hb hts hown hK hI hW hS 1 (0) 6 (mC (by decide) (by decide)) rfl rfl hinX2 (by decide) hf148 rfl tyX2 tyX2_ok nmX2 rfl (by decide +kernel) rfl rfl (Nat.le_of_ble_eq_true rfl) (by simp [wC, up3]) (fun f' i' hn => wC_up f' i' hn) dX5_twice_63 (fun I8 H locs eI8 hW hS => ?_)
      refine lv_aload_n hx hb dX5_twice_66 rfl (lv_at hl 0 rfl) ?_
      refine r_get hx hb hts hown hK hW 0 (0) 0 (mC (by decide) (by decide)) rfl rfl hinX5 (by decide) hf10 rfl rfl dX5_twice_67 ?_
      refine r_get hx hb hts hown hK hW 1 (0) 6 (mC (by decide) (by decide)) rfl rfl hinX2 (by decide) hf148 rfl rfl dX5_twice_70 (lv_topi (fun x9 ex9 => ?_))
      refine r_top (show x9 = nI (wt I + 1) from (by subst ex9 eI8 ex7 eI6 ex5 ex3 ex1; simp [clr_n, cpy_n, jn_n, mb_n, mg_n, jwP_n, tcP_n, up3_f, up3_s, mkd, gst_n, mset_n, psd_w, rsP_n, dr_n, lrP_n])) ?_
      refine lv_iconst (v := nI 1) hx hb dX5_twice_73 (by decide) ?_
      refine lv_isub hx hb dX5_twice_74 (r_top (pk_sub (show 1 ≤ wt I + 1 by omega)) ?_)
      rw [hQ]
      exact g_iret (wd := wC G ad) hx hb hr rfl hlocks hW hS (by subst ex9 eI8 ex7 eI6 ex5 ex3 ex1; refine ⟨?_, ?_⟩; (rw [if_pos (by simp [k_m0N]), if_pos (by assumption)]; exact congrArg nI (by omega)); rw [if_pos (by simp [k_m0N, c20_3])]; simp only [t_m0N]; rfl) dX5_twice_75
    · replace c20_3 : ¬ (wt I < 6) := fun h => c20_3 ((nI_ltI (show wt I < 2147483648 by omega) (show 6 < 2147483648 by omega)).mpr h)
      refine lv_bipush (v := (-4)) hx hb dX5_twice_23 (by decide) ?_
      rw [hQ]
      exact g_iret (wd := wC G ad) hx hb hr rfl hlocks hW hS (by refine ⟨?_, ?_⟩ <;> simp [k_m0N, t_m0N, c20_3]) dX5_twice_25
  · rw [ex1] at c5_1
    replace c5_1 := bI_0.mp c5_1
    try simp only [decide_eq_true_eq, decide_eq_false_iff_not] at c5_1
    refine lv_bipush (v := (-2)) hx hb dX5_twice_8 (by decide) ?_
    rw [hQ]
    exact g_iret (wd := wC G ad) hx hb hr rfl hlocks hW hS (by refine ⟨?_, ?_⟩ <;> simp [c5_1]) dX5_twice_10

set_option maxHeartbeats 4000000 in
set_option maxRecDepth 100000 in
theorem c_X5_letter (l : Launch) (D : va_G) (G : Nat → ClassId) (ad : Nat → Nat → Nat) (hI : wI LC ad) (I : St) (m0 w : Int32) (hT : okT I) (hWt : okW I) : Met l yX5_letter wsX5_letter ({ frames := 3, cells := 0, slots := 0, locals := 62 } : Room) (gPre D G LC ad [.ref (ad 0 (0)), .int (m0), .int (w)] (wC G ad I)) (gQi D LC ad (wC G ad) (fun r9 u => r9 = (if okN (nI (wt I)) m0 = true then lte I (I 6 0 (tn m0)).toNatClampNeg w else -2) ∧ u = I)) 0 0 (wA LC ad) := by
  refine g_entry (C := RX5) (cc := cX5_letter) (maxL := 4) (ret := (some .int)) rfl (by decide) rfl (Nat.le_of_ble_eq_true rfl) (fun p e s m args below meth c Q ls hQ hx hb hr hts hown hlocks hml hW hK hl => ?_)
  have hl : lv_has ls 4 [(0, .ref (ad 0 (0))), (1, .int (m0)), (2, .int (w))] := hl
  have hS := va_S.rf (A := wA LC ad) (H0 := s.heap)
  have hinX1 : ∀ w ∈ wsX10, w ∈ wsX5_letter := by decide +kernel
  have hinX2 : ∀ w ∈ wsX20, w ∈ wsX5_letter := by decide +kernel
  have hinX5 : ∀ w ∈ wsX50, w ∈ wsX5_letter := by decide +kernel
  have hf10 := hts (.fieldLink RX5 10 "JoinedStores" "now" "LJoinedStores$Network;") (by decide +kernel)
  have hf165 := hts (.fieldLink RX5 165 "JoinedStores$Network" "waiting" "[LJoinedStores$Message;") (by decide +kernel)
  have hf169 := hts (.fieldLink RX5 169 "JoinedStores$Message" "to" "I") (by decide +kernel)
  have hf174 := hts (.fieldLink RX5 174 "JoinedStores$Message" "store" "LJoinedStores$Store;") (by decide +kernel)
  have hf192 := hts (.fieldLink RX5 192 "JoinedStores$Message" "from" "I") (by decide +kernel)
  refine lv_aload_n hx hb dX5_letter_0 rfl (lv_at hl 0 rfl) ?_
  refine lv_iload_n hx hb dX5_letter_1 rfl (lv_at hl 1 rfl) ?_
  refine g_ci (va_runV (As := [.int (m0)]) (rest := []) ⟨hx, hb, hml, hown, hts⟩ (c_X5_isMessage l D G ad hI I m0 hT) (cwV 1 hts gX5_letter_X5_isMessage rfl rfl rfl (by decide +kernel) ⟨Nat.le_of_ble_eq_true rfl, Nat.le_of_ble_eq_true rfl⟩) (g_preV hK hW 0 (0) (mC (by decide) (by decide)) rfl rfl) rfl rfl hl.1 rfl (lv_room (Nat.le_of_ble_eq_true rfl)) dX5_letter_2 ⟨Nat.le_refl _, Nat.le_refl _⟩) hS (fun x1 I1 H locs hp hW hS => ?_)
  obtain ⟨ex1, eI1⟩ := hp
  rw [eI1] at hW
  clear eI1
  refine lv_if_ne (tgt := 11) hx hb dX5_letter_5 (by decide) (fun c5_1 => ?_) (fun c5_1 => ?_)
  · rw [ex1] at c5_1
    replace c5_1 := bI_1.mp c5_1
    obtain ⟨m0N, hm0N, em0N⟩ := okN_nI (k := wt I) (by have := hT.2; omega) c5_1
    subst em0N
    have hw6_m0N := hT.2
    have t_m0N : tn (nI m0N) = m0N := tn_nI (by omega)
    have k_m0N : okN (nI (wt I)) (nI m0N) = true := okN_of (by have := hT.2; omega) hm0N
    refine lv_aload_n hx hb dX5_letter_11 rfl (lv_at hl 0 rfl) ?_
    refine r_get hx hb hts hown hK hW 0 (0) 0 (mC (by decide) (by decide)) rfl rfl hinX5 (by decide) hf10 rfl rfl dX5_letter_12 ?_
    refine r_get hx hb hts hown hK hW 1 (0) 5 (mC (by decide) (by decide)) rfl rfl hinX2 (by decide) hf165 rfl rfl dX5_letter_15 ?_
    refine lv_iload_n hx hb dX5_letter_18 rfl (lv_at hl 1 rfl) ?_
    refine r_aald hx hb hK hW 2 6 (0) (m0N) (mC (by decide) (by decide)) rfl rfl (show m0N < 6 by omega) (by decide) rfl rfl dX5_letter_19 ?_
    have hp1 := hWt 0 m0N (by decide) (by omega)
    refine lv_astore_n (lv' := [(3, .ref (ad 8 ((I 6 0 m0N).toNatClampNeg))), (0, .ref (ad 0 (0))), (1, .int (nI (m0N))), (2, .int (w))]) hx hb dX5_letter_20 rfl hl (by decide) rfl (fun ls hl => ?_)
    refine lv_iload_n hx hb dX5_letter_21 rfl (lv_at hl 3 rfl) ?_
    by_cases c22_2_0 : w = nI 0
    · refine lv_tableIn (tgt := 52) (off := 30) hx hb dX5_letter_22 (by rw [c22_2_0]; decide) (by rw [c22_2_0]; decide) (by rw [c22_2_0]; rfl) (by decide) ?_
      refine lv_aload_n hx hb dX5_letter_52 rfl (lv_at hl 0 rfl) ?_
      refine r_get hx hb hts hown hK hW 8 ((I 6 0 m0N).toNatClampNeg) 0 (mC (by decide) (show (I 6 0 m0N).toNatClampNeg < 12 by omega)) rfl rfl hinX1 (by decide) hf192 rfl rfl dX5_letter_53 (lv_topi (fun x4 ex4 => ?_))
      rw [hQ]
      exact g_iret (wd := wC G ad) hx hb hr rfl hlocks hW hS (by subst ex4 ex1; refine ⟨?_, rfl⟩; rw [if_pos (by simp [k_m0N])]; simp only [t_m0N, lte]; (repeat' split) <;> first | rfl | contradiction) dX5_letter_56
    by_cases c22_2_1 : w = nI 1
    · refine lv_tableIn (tgt := 57) (off := 35) hx hb dX5_letter_22 (by rw [c22_2_1]; decide) (by rw [c22_2_1]; decide) (by rw [c22_2_1]; rfl) (by decide) ?_
      refine lv_aload_n hx hb dX5_letter_57 rfl (lv_at hl 0 rfl) ?_
      refine r_get hx hb hts hown hK hW 8 ((I 6 0 m0N).toNatClampNeg) 1 (mC (by decide) (show (I 6 0 m0N).toNatClampNeg < 12 by omega)) rfl rfl hinX1 (by decide) hf169 rfl rfl dX5_letter_58 (lv_topi (fun x5 ex5 => ?_))
      rw [hQ]
      exact g_iret (wd := wC G ad) hx hb hr rfl hlocks hW hS (by subst ex5 ex1; refine ⟨?_, rfl⟩; rw [if_pos (by simp [k_m0N])]; simp only [t_m0N, lte]; (repeat' split) <;> first | rfl | contradiction) dX5_letter_61
    by_cases c22_2_2 : w = nI 2
    · refine lv_tableIn (tgt := 62) (off := 40) hx hb dX5_letter_22 (by rw [c22_2_2]; decide) (by rw [c22_2_2]; decide) (by rw [c22_2_2]; rfl) (by decide) ?_
      refine lv_aload_n hx hb dX5_letter_62 rfl (lv_at hl 0 rfl) ?_
      refine r_get hx hb hts hown hK hW 8 ((I 6 0 m0N).toNatClampNeg) 2 (mC (by decide) (show (I 6 0 m0N).toNatClampNeg < 12 by omega)) rfl rfl hinX1 (by decide) hf174 rfl rfl dX5_letter_63 ?_
      refine g_ci (va_runV (As := []) (rest := []) ⟨hx, hb, hml, hown, hts⟩ (c_X4_heardInAll l D G ad hI I ((I 6 0 m0N).toNatClampNeg + 20) (show (I 6 0 m0N).toNatClampNeg + 20 < 59 by omega)) (cwV 0 hts gX5_letter_X4_heardInAll rfl rfl rfl (by decide +kernel) ⟨Nat.le_of_ble_eq_true rfl, Nat.le_of_ble_eq_true rfl⟩) (g_preV hK hW 4 ((I 6 0 m0N).toNatClampNeg + 20) (mC (by decide) (show (I 6 0 m0N).toNatClampNeg + 20 < 59 by omega)) rfl rfl) rfl rfl hl.1 rfl (lv_room (Nat.le_of_ble_eq_true rfl)) dX5_letter_66 ⟨Nat.le_refl _, Nat.le_refl _⟩) hS (fun x6 I6 H locs hp hW hS => ?_)
      obtain ⟨ex6, eI6⟩ := hp
      rw [eI6] at hW
      clear eI6
      rw [hQ]
      exact g_iret (wd := wC G ad) hx hb hr rfl hlocks hW hS (by subst ex6 ex1; refine ⟨?_, rfl⟩; rw [if_pos (by simp [k_m0N])]; simp only [t_m0N, lte]; (repeat' split) <;> first | rfl | contradiction) dX5_letter_69
    by_cases c22_2_3 : w = nI 3
    · refine lv_tableIn (tgt := 70) (off := 48) hx hb dX5_letter_22 (by rw [c22_2_3]; decide) (by rw [c22_2_3]; decide) (by rw [c22_2_3]; rfl) (by decide) ?_
      refine lv_aload_n hx hb dX5_letter_70 rfl (lv_at hl 0 rfl) ?_
      refine r_get hx hb hts hown hK hW 8 ((I 6 0 m0N).toNatClampNeg) 2 (mC (by decide) (show (I 6 0 m0N).toNatClampNeg < 12 by omega)) rfl rfl hinX1 (by decide) hf174 rfl rfl dX5_letter_71 ?_
      refine g_ci (va_runV (As := []) (rest := []) ⟨hx, hb, hml, hown, hts⟩ (c_X4_aliveInAll l D G ad hI I ((I 6 0 m0N).toNatClampNeg + 20) (show (I 6 0 m0N).toNatClampNeg + 20 < 59 by omega)) (cwV 0 hts gX5_letter_X4_aliveInAll rfl rfl rfl (by decide +kernel) ⟨Nat.le_of_ble_eq_true rfl, Nat.le_of_ble_eq_true rfl⟩) (g_preV hK hW 4 ((I 6 0 m0N).toNatClampNeg + 20) (mC (by decide) (show (I 6 0 m0N).toNatClampNeg + 20 < 59 by omega)) rfl rfl) rfl rfl hl.1 rfl (lv_room (Nat.le_of_ble_eq_true rfl)) dX5_letter_74 ⟨Nat.le_refl _, Nat.le_refl _⟩) hS (fun x7 I7 H locs hp hW hS => ?_)
      obtain ⟨ex7, eI7⟩ := hp
      rw [eI7] at hW
      clear eI7
      rw [hQ]
      exact g_iret (wd := wC G ad) hx hb hr rfl hlocks hW hS (by subst ex7 ex1; refine ⟨?_, rfl⟩; rw [if_pos (by simp [k_m0N])]; simp only [t_m0N, lte]; (repeat' split) <;> first | rfl | contradiction) dX5_letter_77
    refine lv_tableOut (tgt := 78) hx hb dX5_letter_22 (sw_rng 0 3 (by decide) (fun j h1 h2 => by rcases (by omega : j = 0 ∨ j = 1 ∨ j = 2 ∨ j = 3) with rfl | rfl | rfl | rfl <;> assumption)) (by decide) ?_
    refine lv_bipush (v := (-2)) hx hb dX5_letter_78 (by decide) ?_
    rw [hQ]
    exact g_iret (wd := wC G ad) hx hb hr rfl hlocks hW hS (by subst ex1; refine ⟨?_, rfl⟩; rw [if_pos (by simp [k_m0N])]; simp only [t_m0N, lte]; (repeat' split) <;> first | rfl | contradiction) dX5_letter_80
  · rw [ex1] at c5_1
    replace c5_1 := bI_0.mp c5_1
    try simp only [decide_eq_true_eq, decide_eq_false_iff_not] at c5_1
    refine lv_bipush (v := (-2)) hx hb dX5_letter_8 (by decide) ?_
    rw [hQ]
    exact g_iret (wd := wC G ad) hx hb hr rfl hlocks hW hS (by refine ⟨?_, rfl⟩; simp [c5_1]) dX5_letter_10

