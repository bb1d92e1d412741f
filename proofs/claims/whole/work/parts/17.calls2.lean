/-! ===== calls of JoinedStores, two ===== -/
set_option maxHeartbeats 4000000 in
set_option maxRecDepth 100000 in
theorem c_X5_dot (l : Launch) (D : va_G) (G : Nat → ClassId) (ad : Nat → Nat → Nat) (hI : wI LC ad) (I : St) (r k w : Int32) (hM : okM I) : Met l yX5_dot wsX5_dot ({ frames := 1, cells := 0, slots := 0, locals := 21 } : Room) (gPre D G LC ad [.ref (ad 0 (0)), .int (r), .int (k), .int (w)] (wC G ad I)) (gQi D LC ad (wC G ad) (fun r9 u => r9 = (if okR 0 (nI 2) w = true then (if (okN (nI 4) r && okN (nI (mk I (tn r))) k) = true then dtv I (tn r * 31 + tn k) w else -12) else -2) ∧ u = I)) 0 0 (wA LC ad) := by
  refine g_entry (C := RX5) (cc := cX5_dot) (maxL := 6) (ret := (some .int)) rfl (by decide) rfl (Nat.le_of_ble_eq_true rfl) (fun p e s m args below meth c Q ls hQ hx hb hr hts hown hlocks hml hW hK hl => ?_)
  have hl : lv_has ls 6 [(0, .ref (ad 0 (0))), (1, .int (r)), (2, .int (k)), (3, .int (w))] := hl
  have hS := va_S.rf (A := wA LC ad) (H0 := s.heap)
  have hinX0 : ∀ w ∈ wsX00, w ∈ wsX5_dot := by decide +kernel
  have hinX2 : ∀ w ∈ wsX20, w ∈ wsX5_dot := by decide +kernel
  have hinX5 : ∀ w ∈ wsX50, w ∈ wsX5_dot := by decide +kernel
  have hf10 := hts (.fieldLink RX5 10 "JoinedStores" "now" "LJoinedStores$Network;") (by decide +kernel)
  have hf51 := hts (.fieldLink RX5 51 "JoinedStores$Network" "dots" "LJoinedStores$Dots;") (by decide +kernel)
  have hf55 := hts (.fieldLink RX5 55 "JoinedStores$Dots" "made" "[I") (by decide +kernel)
  have hf139 := hts (.fieldLink RX5 139 "JoinedStores$Dots" "values" "[I") (by decide +kernel)
  have hf142 := hts (.fieldLink RX5 142 "JoinedStores$Dots" "stamps" "[I") (by decide +kernel)
  have hf145 := hts (.fieldLink RX5 145 "JoinedStores$Dots" "objects" "[I") (by decide +kernel)
  refine lv_iload_n hx hb dX5_dot_0 rfl (lv_at hl 3 rfl) ?_
  refine lv_if_lt (tgt := 9) hx hb dX5_dot_1 (by decide) (fun c1_0 => ?_) (fun c1_0 => ?_)
  · have k1 : okR 0 (nI 2) w = false := okR_a c1_0
    refine lv_bipush (v := (-2)) hx hb dX5_dot_9 (by decide) ?_
    rw [hQ]
    exact g_iret (wd := wC G ad) hx hb hr rfl hlocks hW hS (by refine ⟨?_, rfl⟩; rw [if_neg (by simp [k1])]) dX5_dot_11
  · refine lv_iload_n hx hb dX5_dot_4 rfl (lv_at hl 3 rfl) ?_
    refine lv_iconst (v := nI 2) hx hb dX5_dot_5 (by decide) ?_
    refine lv_icmp_le (tgt := 12) hx hb dX5_dot_6 (by decide) (fun c6_1 => ?_) (fun c6_1 => ?_)
    · have k6 : okR 0 (nI 2) w = true := okR_y c1_0 c6_1
      refine lv_aload_n hx hb dX5_dot_12 rfl (lv_at hl 0 rfl) ?_
      refine r_get hx hb hts hown hK hW 0 (0) 0 (mC (by decide) (by decide)) rfl rfl hinX5 (by decide) hf10 rfl rfl dX5_dot_13 ?_
      refine r_get hx hb hts hown hK hW 1 (0) 0 (mC (by decide) (by decide)) rfl rfl hinX2 (by decide) hf51 rfl rfl dX5_dot_16 ?_
      refine lv_astore (lv' := [(4, .ref (ad 5 (0))), (0, .ref (ad 0 (0))), (1, .int (r)), (2, .int (k)), (3, .int (w))]) hx hb dX5_dot_19 hl (by decide) rfl (fun ls hl => ?_)
      refine lv_iload_n hx hb dX5_dot_21 rfl (lv_at hl 2 rfl) ?_
      refine g_pi (va_runS (As := [.int (r)]) (rest := []) ⟨hx, hb, hml, hown, hts⟩ (c_X5_isReplica l r) (va_cwS 1 hts gX5_dot_X5_isReplica rfl rfl rfl (by decide +kernel) ⟨Nat.le_of_ble_eq_true rfl, Nat.le_of_ble_eq_true rfl⟩) p_preS rfl rfl hl.1 rfl (lv_room (Nat.le_of_ble_eq_true rfl)) dX5_dot_22 ⟨Nat.le_refl _, Nat.le_refl _⟩) hW hS (fun H locs hW hS => ?_)
      refine lv_if_eq (tgt := 43) hx hb dX5_dot_25 (by decide) (fun c25_2 => ?_) (fun c25_2 => ?_)
      · replace c25_2 := bI_0.mp c25_2
        try simp only [decide_eq_true_eq, decide_eq_false_iff_not] at c25_2
        refine lv_bipush (v := (-12)) hx hb dX5_dot_43 (by decide) ?_
        rw [hQ]
        exact g_iret (wd := wC G ad) hx hb hr rfl hlocks hW hS (by refine ⟨?_, rfl⟩; rw [if_pos k6, if_neg (by simp [k6, c25_2])]) dX5_dot_45
      · replace c25_2 := bI_1.mp c25_2
        obtain ⟨rN, hrN, erN⟩ := okN_nI (k := 4) (by decide) c25_2
        subst erN
        have t_rN : tn (nI rN) = rN := tn_nI (by omega)
        have k_rN : okN (nI 4) (nI rN) = true := okN_of (by decide) hrN
        refine lv_iload_n hx hb dX5_dot_28 rfl (lv_at hl 3 rfl) ?_
        refine lv_if_lt (tgt := 43) hx hb dX5_dot_29 (by decide) (fun c29_3 => ?_) (fun c29_3 => ?_)
        · have k29 : okN (nI (mk I rN)) k = false := okN_a c29_3
          refine lv_bipush (v := (-12)) hx hb dX5_dot_43 (by decide) ?_
          rw [hQ]
          exact g_iret (wd := wC G ad) hx hb hr rfl hlocks hW hS (by refine ⟨?_, rfl⟩; rw [if_pos k6, if_neg (by simp [k6, k_rN, k29, t_rN])]) dX5_dot_45
        · refine lv_iload_n hx hb dX5_dot_32 rfl (lv_at hl 3 rfl) ?_
          refine lv_aload hx hb dX5_dot_33 (lv_at hl 0 rfl) ?_
          refine r_get hx hb hts hown hK hW 5 (0) 0 (mC (by decide) (by decide)) rfl rfl hinX0 (by decide) hf55 rfl rfl dX5_dot_35 ?_
          refine lv_iload_n hx hb dX5_dot_38 rfl (lv_at hl 2 rfl) ?_
          refine rC_iald hx hb hK hW 12 (0) (rN) (by decide) (by decide) (by decide) (show rN < 4 by omega) rfl dX5_dot_39 (fun x5 ex5 => ?_)
          have hm31 := (hM rN (by omega)).2
          refine r_top (show x5 = nI (mk I rN) from (ex5.trans (hM rN (by omega)).1)) ?_
          refine lv_icmp_lt (tgt := 46) hx hb dX5_dot_40 (by decide) (fun c40_5 => ?_) (fun c40_5 => ?_)
          · obtain ⟨kN, hkN, ekN⟩ := rngl (k := mk I rN) (by omega) c29_3 c40_5
            subst ekN
            have t_kN : tn (nI kN) = kN := tn_nI (by omega)
            have k_kN : okN (nI (mk I rN)) (nI kN) = true := okN_of (by omega) hkN
            refine lv_iload_n hx hb dX5_dot_46 rfl (lv_at hl 2 rfl) ?_
            refine lv_iload_n hx hb dX5_dot_47 rfl (lv_at hl 3 rfl) ?_
            refine g_pi (va_runS (As := [.int (nI (rN)), .int (nI (kN))]) (rest := []) ⟨hx, hb, hml, hown, hts⟩ (c_X5_placeOf l (rN) (kN)) (va_cwS 2 hts gX5_dot_X5_placeOf rfl rfl rfl (by decide +kernel) ⟨Nat.le_of_ble_eq_true rfl, Nat.le_of_ble_eq_true rfl⟩) p_preS rfl rfl hl.1 rfl (lv_room (Nat.le_of_ble_eq_true rfl)) dX5_dot_48 ⟨Nat.le_refl _, Nat.le_refl _⟩) hW hS (fun H locs hW hS => ?_)
            refine lv_istore (lv' := [(5, .int (nI (rN * 31 + kN))), (4, .ref (ad 5 (0))), (0, .ref (ad 0 (0))), (1, .int (nI (rN))), (2, .int (nI (kN))), (3, .int (w))]) hx hb dX5_dot_51 hl (by decide) rfl (fun ls hl => ?_)
            refine lv_iload_n hx hb dX5_dot_53 rfl (lv_at hl 5 rfl) ?_
            refine lv_if_ne (tgt := 66) hx hb dX5_dot_54 (by decide) (fun c54_6 => ?_) (fun c54_6 => ?_)
            · refine lv_iload_n hx hb dX5_dot_66 rfl (lv_at hl 5 rfl) ?_
              refine lv_iconst (v := nI 1) hx hb dX5_dot_67 (by decide) ?_
              refine lv_icmp_ne (tgt := 80) hx hb dX5_dot_68 (by decide) (fun c68_7 => ?_) (fun c68_7 => ?_)
              · refine lv_bipush (v := nI 10) hx hb dX5_dot_80 (by decide) ?_
                refine lv_aload hx hb dX5_dot_82 (lv_at hl 1 rfl) ?_
                refine r_get hx hb hts hown hK hW 5 (0) 3 (mC (by decide) (by decide)) rfl rfl hinX0 (by decide) hf145 rfl rfl dX5_dot_84 ?_
                refine lv_iload hx hb dX5_dot_87 (lv_at hl 0 rfl) ?_
                refine rC_iald hx hb hK hW 15 (0) (rN * 31 + kN) (by decide) (by decide) (by decide) (show rN * 31 + kN < 124 by omega) rfl dX5_dot_89 (fun x9 ex9 => ?_)
                refine lv_iconst (v := nI 4) hx hb dX5_dot_90 (by decide) ?_
                refine lv_idiv hx hb dX5_dot_91 (by decide) (lv_topi (fun x10 ex10 => ?_))
                refine lv_imul hx hb dX5_dot_92 (lv_topi (fun x11 ex11 => ?_))
                refine lv_aload hx hb dX5_dot_93 (lv_at hl 1 rfl) ?_
                refine r_get hx hb hts hown hK hW 5 (0) 3 (mC (by decide) (by decide)) rfl rfl hinX0 (by decide) hf145 rfl rfl dX5_dot_95 ?_
                refine lv_iload hx hb dX5_dot_98 (lv_at hl 0 rfl) ?_
                refine rC_iald hx hb hK hW 15 (0) (rN * 31 + kN) (by decide) (by decide) (by decide) (show rN * 31 + kN < 124 by omega) rfl dX5_dot_100 (fun x12 ex12 => ?_)
                refine lv_iconst (v := nI 4) hx hb dX5_dot_101 (by decide) ?_
                refine lv_irem hx hb dX5_dot_102 (by decide) (lv_topi (fun x13 ex13 => ?_))
                refine lv_iadd hx hb dX5_dot_103 (lv_topi (fun x14 ex14 => ?_))
                rw [hQ]
                exact g_iret (wd := wC G ad) hx hb hr rfl hlocks hW hS (by subst ex14 ex13 ex12 ex11 ex10 ex9 ex5; refine ⟨?_, rfl⟩; rw [if_pos k6, if_pos (by simp [k6, k_rN, k_kN, t_rN, t_kN])]; simp only [t_rN, t_kN, dtv]; (repeat' split) <;> first | rfl | contradiction) dX5_dot_104
              · refine lv_aload hx hb dX5_dot_71 (lv_at hl 1 rfl) ?_
                refine r_get hx hb hts hown hK hW 5 (0) 2 (mC (by decide) (by decide)) rfl rfl hinX0 (by decide) hf142 rfl rfl dX5_dot_73 ?_
                refine lv_iload hx hb dX5_dot_76 (lv_at hl 0 rfl) ?_
                refine rC_iald hx hb hK hW 14 (0) (rN * 31 + kN) (by decide) (by decide) (by decide) (show rN * 31 + kN < 124 by omega) rfl dX5_dot_78 (fun x15 ex15 => ?_)
                rw [hQ]
                exact g_iret (wd := wC G ad) hx hb hr rfl hlocks hW hS (by subst ex15 ex5; refine ⟨?_, rfl⟩; rw [if_pos k6, if_pos (by simp [k6, k_rN, k_kN, t_rN, t_kN])]; simp only [t_rN, t_kN, dtv]; (repeat' split) <;> first | rfl | contradiction) dX5_dot_79
            · refine lv_aload hx hb dX5_dot_57 (lv_at hl 1 rfl) ?_
              refine r_get hx hb hts hown hK hW 5 (0) 1 (mC (by decide) (by decide)) rfl rfl hinX0 (by decide) hf139 rfl rfl dX5_dot_59 ?_
              refine lv_iload hx hb dX5_dot_62 (lv_at hl 0 rfl) ?_
              refine rC_iald hx hb hK hW 13 (0) (rN * 31 + kN) (by decide) (by decide) (by decide) (show rN * 31 + kN < 124 by omega) rfl dX5_dot_64 (fun x16 ex16 => ?_)
              rw [hQ]
              exact g_iret (wd := wC G ad) hx hb hr rfl hlocks hW hS (by subst ex16 ex5; refine ⟨?_, rfl⟩; rw [if_pos k6, if_pos (by simp [k6, k_rN, k_kN, t_rN, t_kN])]; simp only [t_rN, t_kN, dtv]; (repeat' split) <;> first | rfl | contradiction) dX5_dot_65
          · have k40 : okN (nI (mk I rN)) k = false := okN_b c40_5
            refine lv_bipush (v := (-12)) hx hb dX5_dot_43 (by decide) ?_
            rw [hQ]
            exact g_iret (wd := wC G ad) hx hb hr rfl hlocks hW hS (by refine ⟨?_, rfl⟩; rw [if_pos k6, if_neg (by simp [k6, k_rN, k40, t_rN])]) dX5_dot_45
    · have k6 : okR 0 (nI 2) w = false := okR_b (Int32.not_le.mp c6_1)
      refine lv_bipush (v := (-2)) hx hb dX5_dot_9 (by decide) ?_
      rw [hQ]
      exact g_iret (wd := wC G ad) hx hb hr rfl hlocks hW hS (by refine ⟨?_, rfl⟩; rw [if_neg (by simp [k6])]) dX5_dot_11

set_option maxHeartbeats 4000000 in
set_option maxRecDepth 100000 in
theorem c_X5_has (l : Launch) (D : va_G) (G : Nat → ClassId) (ad : Nat → Nat → Nat) (hI : wI LC ad) (I : St) (r a b v : Int32) (hM : okM I) : Met l yX5_has wsX5_has ({ frames := 4, cells := 0, slots := 0, locals := 99 } : Room) (gPre D G LC ad [.ref (ad 0 (0)), .int (r), .int (a), .int (b), .int (v)] (wC G ad I)) (gQi D LC ad (wC G ad) (fun r9 u => r9 = (if (okN (nI 4) r && (okN (nI 3) a && okN (nI 4) b)) = true then bcs (hsS I (tn r) (tn a * 4 + tn b) v 10 33) 4 else -2) ∧ Sm gC I u)) 0 0 (wA LC ad) := by
  refine g_entry (C := RX5) (cc := cX5_has) (maxL := 5) (ret := (some .int)) rfl (by decide) rfl (Nat.le_of_ble_eq_true rfl) (fun p e s m args below meth c Q ls hQ hx hb hr hts hown hlocks hml hW hK hl => ?_)
  have hl : lv_has ls 5 [(0, .ref (ad 0 (0))), (1, .int (r)), (2, .int (a)), (3, .int (b)), (4, .int (v))] := hl
  have hS := va_S.rf (A := wA LC ad) (H0 := s.heap)
  have hinX2 : ∀ w ∈ wsX20, w ∈ wsX5_has := by decide +kernel
  have hinX5 : ∀ w ∈ wsX50, w ∈ wsX5_has := by decide +kernel
  have hf10 := hts (.fieldLink RX5 10 "JoinedStores" "now" "LJoinedStores$Network;") (by decide +kernel)
  have hf28 := hts (.fieldLink RX5 28 "JoinedStores" "fresh" "LJoinedStores$Store;") (by decide +kernel)
  have hf51 := hts (.fieldLink RX5 51 "JoinedStores$Network" "dots" "LJoinedStores$Dots;") (by decide +kernel)
  have hf68 := hts (.fieldLink RX5 68 "JoinedStores$Network" "stores" "[LJoinedStores$Store;") (by decide +kernel)
  refine lv_iload_n hx hb dX5_has_0 rfl (lv_at hl 1 rfl) ?_
  refine g_pi (va_runS (As := [.int (r)]) (rest := []) ⟨hx, hb, hml, hown, hts⟩ (c_X5_isReplica l r) (va_cwS 1 hts gX5_has_X5_isReplica rfl rfl rfl (by decide +kernel) ⟨Nat.le_of_ble_eq_true rfl, Nat.le_of_ble_eq_true rfl⟩) p_preS rfl rfl hl.1 rfl (lv_room (Nat.le_of_ble_eq_true rfl)) dX5_has_1 ⟨Nat.le_refl _, Nat.le_refl _⟩) hW hS (fun H locs hW hS => ?_)
  refine lv_if_eq (tgt := 15) hx hb dX5_has_4 (by decide) (fun c4_0 => ?_) (fun c4_0 => ?_)
  · replace c4_0 := bI_0.mp c4_0
    try simp only [decide_eq_true_eq, decide_eq_false_iff_not] at c4_0
    refine lv_bipush (v := (-2)) hx hb dX5_has_15 (by decide) ?_
    rw [hQ]
    exact g_iret (wd := wC G ad) hx hb hr rfl hlocks hW hS (by skip; refine ⟨?_, Sm.rf⟩; simp [c4_0]) dX5_has_17
  · replace c4_0 := bI_1.mp c4_0
    obtain ⟨rN, hrN, erN⟩ := okN_nI (k := 4) (by decide) c4_0
    subst erN
    have t_rN : tn (nI rN) = rN := tn_nI (by omega)
    have k_rN : okN (nI 4) (nI rN) = true := okN_of (by decide) hrN
    refine lv_iload_n hx hb dX5_has_7 rfl (lv_at hl 2 rfl) ?_
    refine lv_iload_n hx hb dX5_has_8 rfl (lv_at hl 3 rfl) ?_
    refine g_pi (va_runS (As := [.int (a), .int (b)]) (rest := []) ⟨hx, hb, hml, hown, hts⟩ (c_X5_isObject l a b) (va_cwS 2 hts gX5_has_X5_isObject rfl rfl rfl (by decide +kernel) ⟨Nat.le_of_ble_eq_true rfl, Nat.le_of_ble_eq_true rfl⟩) p_preS rfl rfl hl.1 rfl (lv_room (Nat.le_of_ble_eq_true rfl)) dX5_has_9 ⟨Nat.le_refl _, Nat.le_refl _⟩) hW hS (fun H locs hW hS => ?_)
    refine lv_if_ne (tgt := 18) hx hb dX5_has_12 (by decide) (fun c12_1 => ?_) (fun c12_1 => ?_)
    · replace c12_1 := bI_1.mp c12_1
      obtain ⟨aN, haN, eaN⟩ := okN_nI (k := 3) (by decide) (okAnd c12_1).1
      subst eaN
      have t_aN : tn (nI aN) = aN := tn_nI (by omega)
      have k_aN : okN (nI 3) (nI aN) = true := okN_of (by decide) haN
      obtain ⟨bN, hbN, ebN⟩ := okN_nI (k := 4) (by decide) (okAnd c12_1).2
      subst ebN
      have t_bN : tn (nI bN) = bN := tn_nI (by omega)
      have k_bN : okN (nI 4) (nI bN) = true := okN_of (by decide) hbN
      refine lv_aload_n hx hb dX5_has_18 rfl (lv_at hl 0 rfl) ?_
      refine r_get hx hb hts hown hK hW 0 (0) 4 (mC (by decide) (by decide)) rfl rfl hinX5 (by decide) hf28 rfl rfl dX5_has_19 ?_
      refine g_cv (va_runV (As := []) (rest := []) ⟨hx, hb, hml, hown, hts⟩ (c_X4_empty l D G ad hI I 33 (by decide)) (cwV 0 hts gX5_has_X4_empty rfl rfl rfl (by decide +kernel) ⟨Nat.le_of_ble_eq_true rfl, Nat.le_of_ble_eq_true rfl⟩) (g_preV hK hW 4 (33) (mC (by decide) (by decide)) rfl rfl) rfl rfl hl.1 rfl (lv_room (Nat.le_of_ble_eq_true rfl)) dX5_has_22 ⟨Nat.le_refl _, Nat.le_refl _⟩) hS (fun I3 H locs hp hW hS => ?_)
      have eI3 : I3 = clr I 33 := hp
      refine lv_aload_n hx hb dX5_has_25 rfl (lv_at hl 0 rfl) ?_
      refine r_get hx hb hts hown hK hW 0 (0) 0 (mC (by decide) (by decide)) rfl rfl hinX5 (by decide) hf10 rfl rfl dX5_has_26 ?_
      refine r_get hx hb hts hown hK hW 1 (0) 0 (mC (by decide) (by decide)) rfl rfl hinX2 (by decide) hf51 rfl rfl dX5_has_29 ?_
      refine lv_aload_n hx hb dX5_has_32 rfl (lv_at hl 0 rfl) ?_
      refine r_get hx hb hts hown hK hW 0 (0) 0 (mC (by decide) (by decide)) rfl rfl hinX5 (by decide) hf10 rfl rfl dX5_has_33 ?_
      refine r_get hx hb hts hown hK hW 1 (0) 2 (mC (by decide) (by decide)) rfl rfl hinX2 (by decide) hf68 rfl rfl dX5_has_36 ?_
      refine lv_iload_n hx hb dX5_has_39 rfl (lv_at hl 1 rfl) ?_
      refine r_aald hx hb hK hW 1 3 (0) (rN) (mC (by decide) (by decide)) rfl rfl (show rN < 4 by omega) (by decide) rfl rfl dX5_has_40 ?_
      refine lv_iload_n hx hb dX5_has_41 rfl (lv_at hl 2 rfl) ?_
      refine lv_iload_n hx hb dX5_has_42 rfl (lv_at hl 3 rfl) ?_
      refine g_pi (va_runS (As := [.int (nI (aN)), .int (nI (bN))]) (rest := [.ref (ad 4 (rN)), .ref (ad 5 (0))]) ⟨hx, hb, hml, hown, hts⟩ (c_X5_objectAt l (aN) (bN)) (va_cwS 2 hts gX5_has_X5_objectAt rfl rfl rfl (by decide +kernel) ⟨Nat.le_of_ble_eq_true rfl, Nat.le_of_ble_eq_true rfl⟩) p_preS rfl rfl hl.1 rfl (lv_room (Nat.le_of_ble_eq_true rfl)) dX5_has_43 ⟨Nat.le_refl _, Nat.le_refl _⟩) hW hS (fun H locs hW hS => ?_)
      refine lv_iload hx hb dX5_has_46 (lv_at hl 4 rfl) ?_
      refine lv_aload_n hx hb dX5_has_48 rfl (lv_at hl 0 rfl) ?_
      refine r_get hx hb hts hown hK hW 0 (0) 4 (mC (by decide) (by decide)) rfl rfl hinX5 (by decide) hf28 rfl rfl dX5_has_49 ?_
      have hM_3 : okM I3 := okM_e (fun r9 => by subst eI3; simp [clr_n, cpy_n, jn_n, mb_n, mg_n, jwP_n, tcP_n, up3_f, up3_s, mkd, gst_n, mset_n, psd_w, rsP_n, dr_n, lrP_n]) hM
      refine g_cv (va_runV (As := [.ref (ad 4 (rN)), .int (nI (aN * 4 + bN)), .int (v), .ref (ad 4 (33))]) (rest := []) ⟨hx, hb, hml, hown, hts⟩ (c_X0_markOfValue l D G ad hI I3 rN (aN * 4 + bN) 33 v (show rN < 59 by omega) (by decide) hM_3) (cwV 4 hts gX5_has_X0_markOfValue rfl rfl rfl (by decide +kernel) ⟨Nat.le_of_ble_eq_true rfl, Nat.le_of_ble_eq_true rfl⟩) (g_preV hK hW 5 (0) (mC (by decide) (by decide)) rfl rfl) rfl rfl hl.1 rfl (lv_room (Nat.le_of_ble_eq_true rfl)) dX5_has_52 ⟨Nat.le_refl _, Nat.le_refl _⟩) hS (fun I5 H locs hp hW hS => ?_)
      have eI5 : I5 = mb I3 rN (aN * 4 + bN) v v 33 := hp
      refine lv_aload_n hx hb dX5_has_55 rfl (lv_at hl 0 rfl) ?_
      refine r_get hx hb hts hown hK hW 0 (0) 4 (mC (by decide) (by decide)) rfl rfl hinX5 (by decide) hf28 rfl rfl dX5_has_56 ?_
      refine g_ci (va_runV (As := []) (rest := []) ⟨hx, hb, hml, hown, hts⟩ (c_X4_heardInAll l D G ad hI I5 33 (by decide)) (cwV 0 hts gX5_has_X4_heardInAll rfl rfl rfl (by decide +kernel) ⟨Nat.le_of_ble_eq_true rfl, Nat.le_of_ble_eq_true rfl⟩) (g_preV hK hW 4 (33) (mC (by decide) (by decide)) rfl rfl) rfl rfl hl.1 rfl (lv_room (Nat.le_of_ble_eq_true rfl)) dX5_has_59 ⟨Nat.le_refl _, Nat.le_refl _⟩) hS (fun x6 I6 H locs hp hW hS => ?_)
      obtain ⟨ex6, eI6⟩ := hp
      rw [eI6] at hW
      clear eI6
      rw [hQ]
      exact g_iret (wd := wC G ad) hx hb hr rfl hlocks hW hS (by subst ex6 eI5 eI3; refine ⟨?_, Sm.mb (Sm.clr Sm.rf (by decide) (by decide)) (by decide) (by decide)⟩; rw [if_pos (by simp [k_rN, k_aN, k_bN])]; simp only [t_rN, t_aN, t_bN]; rfl) dX5_has_62
    · replace c12_1 := bI_0.mp c12_1
      try simp only [decide_eq_true_eq, decide_eq_false_iff_not] at c12_1
      refine lv_bipush (v := (-2)) hx hb dX5_has_15 (by decide) ?_
      rw [hQ]
      exact g_iret (wd := wC G ad) hx hb hr rfl hlocks hW hS (by skip; refine ⟨?_, Sm.rf⟩; simp [k_rN, c12_1]) dX5_has_17

set_option maxHeartbeats 4000000 in
set_option maxRecDepth 100000 in
theorem c_X5_send (l : Launch) (D : va_G) (G : Nat → ClassId) (ad : Nat → Nat → Nat) (hI : wI LC ad) (I : St) (r o w : Int32) (hT : okT I) (hWt : okW I) : Met l yX5_send wsX5_send ({ frames := 3, cells := 0, slots := 0, locals := 111 } : Room) (gPre D G LC ad [.ref (ad 0 (0)), .int (r), .int (o), .int (w)] (wC G ad I)) (gQi D LC ad (wC G ad) (fun r9 u => r9 = (if ((okN (nI 4) r && okN (nI 4) o) && (!decide (tn r = tn o) && okR 0 (nI 1) w)) = true then (if wt I < 6 then nI (wt I) else -4) else -2) ∧ u = (if ((okN (nI 4) r && okN (nI 4) o) && (!decide (tn r = tn o) && okR 0 (nI 1) w) && decide (wt I < 6)) = true then snS I (tn r) (tn o) (tn w) else I))) 0 0 (wA LC ad) := by
  refine g_entry (C := RX5) (cc := cX5_send) (maxL := 5) (ret := (some .int)) rfl (by decide) rfl (Nat.le_of_ble_eq_true rfl) (fun p e s m args below meth c Q ls hQ hx hb hr hts hown hlocks hml hW hK hl => ?_)
  have hl : lv_has ls 5 [(0, .ref (ad 0 (0))), (1, .int (r)), (2, .int (o)), (3, .int (w))] := hl
  have hS := va_S.rf (A := wA LC ad) (H0 := s.heap)
  have hinX2 : ∀ w ∈ wsX20, w ∈ wsX5_send := by decide +kernel
  have hinX5 : ∀ w ∈ wsX50, w ∈ wsX5_send := by decide +kernel
  have hf10 := hts (.fieldLink RX5 10 "JoinedStores" "now" "LJoinedStores$Network;") (by decide +kernel)
  have hf68 := hts (.fieldLink RX5 68 "JoinedStores$Network" "stores" "[LJoinedStores$Store;") (by decide +kernel)
  have hf148 := hts (.fieldLink RX5 148 "JoinedStores$Network" "waits" "I") (by decide +kernel)
  have hf152 := hts (.fieldLink RX5 152 "JoinedStores$Network" "parcels" "[LJoinedStores$Store;") (by decide +kernel)
  refine lv_iload_n hx hb dX5_send_0 rfl (lv_at hl 1 rfl) ?_
  refine g_pi (va_runS (As := [.int (r)]) (rest := []) ⟨hx, hb, hml, hown, hts⟩ (c_X5_isReplica l r) (va_cwS 1 hts gX5_send_X5_isReplica rfl rfl rfl (by decide +kernel) ⟨Nat.le_of_ble_eq_true rfl, Nat.le_of_ble_eq_true rfl⟩) p_preS rfl rfl hl.1 rfl (lv_room (Nat.le_of_ble_eq_true rfl)) dX5_send_1 ⟨Nat.le_refl _, Nat.le_refl _⟩) hW hS (fun H locs hW hS => ?_)
  refine lv_if_eq (tgt := 28) hx hb dX5_send_4 (by decide) (fun c4_0 => ?_) (fun c4_0 => ?_)
  · replace c4_0 := bI_0.mp c4_0
    try simp only [decide_eq_true_eq, decide_eq_false_iff_not] at c4_0
    refine lv_bipush (v := (-2)) hx hb dX5_send_28 (by decide) ?_
    rw [hQ]
    exact g_iret (wd := wC G ad) hx hb hr rfl hlocks hW hS (by refine ⟨?_, ?_⟩ <;> simp [c4_0]) dX5_send_30
  · replace c4_0 := bI_1.mp c4_0
    obtain ⟨rN, hrN, erN⟩ := okN_nI (k := 4) (by decide) c4_0
    subst erN
    have t_rN : tn (nI rN) = rN := tn_nI (by omega)
    have k_rN : okN (nI 4) (nI rN) = true := okN_of (by decide) hrN
    refine lv_iload_n hx hb dX5_send_7 rfl (lv_at hl 2 rfl) ?_
    refine g_pi (va_runS (As := [.int (o)]) (rest := []) ⟨hx, hb, hml, hown, hts⟩ (c_X5_isReplica l o) (va_cwS 1 hts gX5_send_X5_isReplica rfl rfl rfl (by decide +kernel) ⟨Nat.le_of_ble_eq_true rfl, Nat.le_of_ble_eq_true rfl⟩) p_preS rfl rfl hl.1 rfl (lv_room (Nat.le_of_ble_eq_true rfl)) dX5_send_8 ⟨Nat.le_refl _, Nat.le_refl _⟩) hW hS (fun H locs hW hS => ?_)
    refine lv_if_eq (tgt := 28) hx hb dX5_send_11 (by decide) (fun c11_1 => ?_) (fun c11_1 => ?_)
    · replace c11_1 := bI_0.mp c11_1
      try simp only [decide_eq_true_eq, decide_eq_false_iff_not] at c11_1
      refine lv_bipush (v := (-2)) hx hb dX5_send_28 (by decide) ?_
      rw [hQ]
      exact g_iret (wd := wC G ad) hx hb hr rfl hlocks hW hS (by refine ⟨?_, ?_⟩ <;> simp [k_rN, c11_1, t_rN]) dX5_send_30
    · replace c11_1 := bI_1.mp c11_1
      obtain ⟨oN, hoN, eoN⟩ := okN_nI (k := 4) (by decide) c11_1
      subst eoN
      have t_oN : tn (nI oN) = oN := tn_nI (by omega)
      have k_oN : okN (nI 4) (nI oN) = true := okN_of (by decide) hoN
      refine lv_iload_n hx hb dX5_send_14 rfl (lv_at hl 1 rfl) ?_
      refine lv_iload_n hx hb dX5_send_15 rfl (lv_at hl 2 rfl) ?_
      refine lv_icmp_eq (tgt := 28) hx hb dX5_send_16 (by decide) (fun c16_2 => ?_) (fun c16_2 => ?_)
      · replace c16_2 : rN = oN := (nI_eq (show rN < 2147483648 by omega) (show oN < 2147483648 by omega)).mp c16_2
        have k15 : decide (rN = oN) = true := decide_eq_true c16_2
        refine lv_bipush (v := (-2)) hx hb dX5_send_28 (by decide) ?_
        rw [hQ]
        exact g_iret (wd := wC G ad) hx hb hr rfl hlocks hW hS (by refine ⟨?_, ?_⟩ <;> simp [k_rN, k_oN, k15, t_rN, t_oN]) dX5_send_30
      · replace c16_2 : ¬ (rN = oN) := fun h => c16_2 ((nI_eq (show rN < 2147483648 by omega) (show oN < 2147483648 by omega)).mpr h)
        have k15 : decide (rN = oN) = false := decide_eq_false c16_2
        refine lv_iload_n hx hb dX5_send_19 rfl (lv_at hl 3 rfl) ?_
        refine lv_if_lt (tgt := 28) hx hb dX5_send_20 (by decide) (fun c20_3 => ?_) (fun c20_3 => ?_)
        · have k20 : okR 0 (nI 1) w = false := okR_a c20_3
          refine lv_bipush (v := (-2)) hx hb dX5_send_28 (by decide) ?_
          rw [hQ]
          exact g_iret (wd := wC G ad) hx hb hr rfl hlocks hW hS (by refine ⟨?_, ?_⟩ <;> simp [k_rN, k_oN, k15, k20, t_rN, t_oN]) dX5_send_30
        · refine lv_iload_n hx hb dX5_send_23 rfl (lv_at hl 3 rfl) ?_
          refine lv_iconst (v := nI 1) hx hb dX5_send_24 (by decide) ?_
          refine lv_icmp_le (tgt := 31) hx hb dX5_send_25 (by decide) (fun c25_4 => ?_) (fun c25_4 => ?_)
          · replace c25_4 := Int32.not_lt.mpr c25_4
            obtain ⟨wN, hwN, ewN⟩ := rng (k := 1) (by decide) c20_3 c25_4
            subst ewN
            have t_wN : tn (nI wN) = wN := tn_nI (by omega)
            have k_wN : okR 0 (nI 1) (nI wN) = true := okR_of (by decide) hwN
            refine lv_aload_n hx hb dX5_send_31 rfl (lv_at hl 0 rfl) ?_
            refine r_get hx hb hts hown hK hW 0 (0) 0 (mC (by decide) (by decide)) rfl rfl hinX5 (by decide) hf10 rfl rfl dX5_send_32 ?_
            refine r_get hx hb hts hown hK hW 1 (0) 6 (mC (by decide) (by decide)) rfl rfl hinX2 (by decide) hf148 rfl rfl dX5_send_35 (lv_topi (fun x6 ex6 => ?_))
            have hw6 := hT.2
            refine r_top (show x6 = nI (wt I) from (ex6.trans hT.1)) ?_
            refine lv_bipush (v := nI 6) hx hb dX5_send_38 (by decide) ?_
            refine lv_icmp_lt (tgt := 46) hx hb dX5_send_40 (by decide) (fun c40_6 => ?_) (fun c40_6 => ?_)
            · replace c40_6 : wt I < 6 := (nI_ltI (show wt I < 2147483648 by omega) (show 6 < 2147483648 by omega)).mp c40_6
              have hwl := c40_6
              refine lv_aload_n hx hb dX5_send_46 rfl (lv_at hl 0 rfl) ?_
              refine r_get hx hb hts hown hK hW 0 (0) 0 (mC (by decide) (by decide)) rfl rfl hinX5 (by decide) hf10 rfl rfl dX5_send_47 ?_
              refine r_get hx hb hts hown hK hW 1 (0) 3 (mC (by decide) (by decide)) rfl rfl hinX2 (by decide) hf152 rfl rfl dX5_send_50 ?_
              refine lv_iload_n hx hb dX5_send_53 rfl (lv_at hl 1 rfl) ?_
              refine lv_iload_n hx hb dX5_send_54 rfl (lv_at hl 2 rfl) ?_
              refine g_pi (va_runS (As := [.int (nI (rN)), .int (nI (oN))]) (rest := [.ref (ad 3 (1))]) ⟨hx, hb, hml, hown, hts⟩ (c_X5_pairOf l (rN) (oN)) (va_cwS 2 hts gX5_send_X5_pairOf rfl rfl rfl (by decide +kernel) ⟨Nat.le_of_ble_eq_true rfl, Nat.le_of_ble_eq_true rfl⟩) p_preS rfl rfl hl.1 rfl (lv_room (Nat.le_of_ble_eq_true rfl)) dX5_send_55 ⟨Nat.le_refl _, Nat.le_refl _⟩) hW hS (fun H locs hW hS => ?_)
              refine r_aald hx hb hK hW 1 3 (1) (rN * 4 + oN) (mC (by decide) (by decide)) rfl rfl (show rN * 4 + oN < 16 by omega) (by decide) rfl rfl dX5_send_58 ?_
              refine lv_astore (lv' := [(4, .ref (ad 4 (rN * 4 + oN + 4))), (0, .ref (ad 0 (0))), (1, .int (nI (rN))), (2, .int (nI (oN))), (3, .int (nI (wN)))]) hx hb dX5_send_59 hl (by decide) rfl (fun ls hl => ?_)
              refine lv_aload_n hx hb dX5_send_61 rfl (lv_at hl 1 rfl) ?_
              refine r_get hx hb hts hown hK hW 0 (0) 0 (mC (by decide) (by decide)) rfl rfl hinX5 (by decide) hf10 rfl rfl dX5_send_62 ?_
              refine lv_iload_n hx hb dX5_send_65 rfl (lv_at hl 2 rfl) ?_
              refine lv_iload_n hx hb dX5_send_66 rfl (lv_at hl 3 rfl) ?_
              refine lv_iload_n hx hb dX5_send_67 rfl (lv_at hl 4 rfl) ?_
              refine lv_if_ne (tgt := 83) hx hb dX5_send_68 (by decide) (fun c68_7 => ?_) (fun c68_7 => ?_)
              · replace c68_7 : ¬ wN = 0 := fun h => c68_7 ((nI_eq (show wN < 2147483648 by omega) (show 0 < 2147483648 by omega)).mpr h)
                refine lv_aload hx hb dX5_send_83 (lv_at hl 0 rfl) ?_
                refine g_cv (va_runV (As := [.int (nI (rN)), .int (nI (oN)), .ref (ad 4 (rN * 4 + oN + 4))]) (rest := []) ⟨hx, hb, hml, hown, hts⟩ (c_X2_post l D G ad hI I rN oN (rN * 4 + oN + 4) (show rN < 4 by omega) (show rN * 4 + oN + 4 < 59 by omega) hwl hT hWt) (cwV 3 hts gX5_send_X2_post rfl rfl rfl (by decide +kernel) ⟨Nat.le_of_ble_eq_true rfl, Nat.le_of_ble_eq_true rfl⟩) (g_preV hK hW 1 (0) (mC (by decide) (by decide)) rfl rfl) rfl rfl hl.1 rfl (lv_room (Nat.le_of_ble_eq_true rfl)) dX5_send_85 ⟨Nat.le_refl _, Nat.le_refl _⟩) hS (fun I9 H locs hp hW hS => ?_)
                have eI9 : I9 = psd I rN oN (rN * 4 + oN + 4) := hp
                refine lv_iload_n hx hb dX5_send_88 rfl (lv_at hl 4 rfl) ?_
                refine lv_iconst (v := nI 1) hx hb dX5_send_89 (by decide) ?_
                refine lv_icmp_ne (tgt := 98) hx hb dX5_send_90 (by decide) (fun c90_9 => ?_) (fun c90_9 => ?_)
                · replace c90_9 : ¬ wN = 1 := fun h => c90_9 ((nI_eq (show wN < 2147483648 by omega) (show 1 < 2147483648 by omega)).mpr h)
                  refine lv_aload_n hx hb dX5_send_98 rfl (lv_at hl 1 rfl) ?_
                  refine r_get hx hb hts hown hK hW 0 (0) 0 (mC (by decide) (by decide)) rfl rfl hinX5 (by decide) hf10 rfl rfl dX5_send_99 ?_
                  refine r_get hx hb hts hown hK hW 1 (0) 6 (mC (by decide) (by decide)) rfl rfl hinX2 (by decide) hf148 rfl rfl dX5_send_102 (lv_topi (fun x11 ex11 => ?_))
                  refine r_top (show x11 = nI (wt I + 1) from (by subst ex11 eI9 ex6; simp [clr_n, cpy_n, jn_n, mb_n, mg_n, jwP_n, tcP_n, up3_f, up3_s, mkd, gst_n, mset_n, psd_w, rsP_n, dr_n, lrP_n])) ?_
                  refine lv_iconst (v := nI 1) hx hb dX5_send_105 (by decide) ?_
                  refine lv_isub hx hb dX5_send_106 (r_top (pk_sub (show 1 ≤ wt I + 1 by omega)) ?_)
                  rw [hQ]
                  exact g_iret (wd := wC G ad) hx hb hr rfl hlocks hW hS (by first | (exfalso; omega) | (subst ex11 eI9 ex6; refine ⟨?_, ?_⟩; (rw [if_pos (by simp [k_rN, k_oN, k15, k_wN, t_rN, t_oN, t_wN]), if_pos (by assumption)]; exact congrArg nI (by omega)); rw [if_pos (by simp [k_rN, k_oN, k15, k_wN, t_rN, t_oN, t_wN, hwl])]; simp only [t_rN, t_oN, t_wN, snS]; (repeat' split) <;> first | rfl | (exfalso; omega))) dX5_send_107
                · replace c90_9 : wN = 1 := (nI_eq (show wN < 2147483648 by omega) (show 1 < 2147483648 by omega)).mp c90_9
                  refine lv_aload hx hb dX5_send_93 (lv_at hl 0 rfl) ?_
                  refine g_cv (va_runV (As := []) (rest := []) ⟨hx, hb, hml, hown, hts⟩ (c_X4_empty l D G ad hI I9 (rN * 4 + oN + 4) (show rN * 4 + oN + 4 < 59 by omega)) (cwV 0 hts gX5_send_X4_empty rfl rfl rfl (by decide +kernel) ⟨Nat.le_of_ble_eq_true rfl, Nat.le_of_ble_eq_true rfl⟩) (g_preV hK hW 4 (rN * 4 + oN + 4) (mC (by decide) (show rN * 4 + oN + 4 < 59 by omega)) rfl rfl) rfl rfl hl.1 rfl (lv_room (Nat.le_of_ble_eq_true rfl)) dX5_send_95 ⟨Nat.le_refl _, Nat.le_refl _⟩) hS (fun I12 H locs hp hW hS => ?_)
                  have eI12 : I12 = clr I9 (rN * 4 + oN + 4) := hp
                  refine lv_aload_n hx hb dX5_send_98 rfl (lv_at hl 1 rfl) ?_
                  refine r_get hx hb hts hown hK hW 0 (0) 0 (mC (by decide) (by decide)) rfl rfl hinX5 (by decide) hf10 rfl rfl dX5_send_99 ?_
                  refine r_get hx hb hts hown hK hW 1 (0) 6 (mC (by decide) (by decide)) rfl rfl hinX2 (by decide) hf148 rfl rfl dX5_send_102 (lv_topi (fun x13 ex13 => ?_))
                  refine r_top (show x13 = nI (wt I + 1) from (by subst ex13 eI12 eI9 ex6; simp [clr_n, cpy_n, jn_n, mb_n, mg_n, jwP_n, tcP_n, up3_f, up3_s, mkd, gst_n, mset_n, psd_w, rsP_n, dr_n, lrP_n])) ?_
                  refine lv_iconst (v := nI 1) hx hb dX5_send_105 (by decide) ?_
                  refine lv_isub hx hb dX5_send_106 (r_top (pk_sub (show 1 ≤ wt I + 1 by omega)) ?_)
                  rw [hQ]
                  exact g_iret (wd := wC G ad) hx hb hr rfl hlocks hW hS (by first | (exfalso; omega) | (subst ex13 eI12 eI9 ex6; refine ⟨?_, ?_⟩; (rw [if_pos (by simp [k_rN, k_oN, k15, k_wN, t_rN, t_oN, t_wN]), if_pos (by assumption)]; exact congrArg nI (by omega)); rw [if_pos (by simp [k_rN, k_oN, k15, k_wN, t_rN, t_oN, t_wN, hwl])]; simp only [t_rN, t_oN, t_wN, snS]; (repeat' split) <;> first | rfl | (exfalso; omega))) dX5_send_107
              · replace c68_7 : wN = 0 := (nI_eq (show wN < 2147483648 by omega) (show 0 < 2147483648 by omega)).mp c68_7
                refine lv_aload_n hx hb dX5_send_71 rfl (lv_at hl 1 rfl) ?_
                refine r_get hx hb hts hown hK hW 0 (0) 0 (mC (by decide) (by decide)) rfl rfl hinX5 (by decide) hf10 rfl rfl dX5_send_72 ?_
                refine r_get hx hb hts hown hK hW 1 (0) 2 (mC (by decide) (by decide)) rfl rfl hinX2 (by decide) hf68 rfl rfl dX5_send_75 ?_
                refine lv_iload_n hx hb dX5_send_78 rfl (lv_at hl 2 rfl) ?_
                refine r_aald hx hb hK hW 1 3 (0) (rN) (mC (by decide) (by decide)) rfl rfl (show rN < 4 by omega) (by decide) rfl rfl dX5_send_79 ?_
                refine lv_goto (tgt := 85) hx hb dX5_send_80 (by decide) ?_
                refine g_cv (va_runV (As := [.int (nI (rN)), .int (nI (oN)), .ref (ad 4 (rN))]) (rest := []) ⟨hx, hb, hml, hown, hts⟩ (c_X2_post l D G ad hI I rN oN rN (show rN < 4 by omega) (show rN < 59 by omega) hwl hT hWt) (cwV 3 hts gX5_send_X2_post rfl rfl rfl (by decide +kernel) ⟨Nat.le_of_ble_eq_true rfl, Nat.le_of_ble_eq_true rfl⟩) (g_preV hK hW 1 (0) (mC (by decide) (by decide)) rfl rfl) rfl rfl hl.1 rfl (lv_room (Nat.le_of_ble_eq_true rfl)) dX5_send_85 ⟨Nat.le_refl _, Nat.le_refl _⟩) hS (fun I14 H locs hp hW hS => ?_)
                have eI14 : I14 = psd I rN oN rN := hp
                refine lv_iload_n hx hb dX5_send_88 rfl (lv_at hl 4 rfl) ?_
                refine lv_iconst (v := nI 1) hx hb dX5_send_89 (by decide) ?_
                refine lv_icmp_ne (tgt := 98) hx hb dX5_send_90 (by decide) (fun c90_14 => ?_) (fun c90_14 => ?_)
                · replace c90_14 : ¬ wN = 1 := fun h => c90_14 ((nI_eq (show wN < 2147483648 by omega) (show 1 < 2147483648 by omega)).mpr h)
                  refine lv_aload_n hx hb dX5_send_98 rfl (lv_at hl 1 rfl) ?_
                  refine r_get hx hb hts hown hK hW 0 (0) 0 (mC (by decide) (by decide)) rfl rfl hinX5 (by decide) hf10 rfl rfl dX5_send_99 ?_
                  refine r_get hx hb hts hown hK hW 1 (0) 6 (mC (by decide) (by decide)) rfl rfl hinX2 (by decide) hf148 rfl rfl dX5_send_102 (lv_topi (fun x16 ex16 => ?_))
                  refine r_top (show x16 = nI (wt I + 1) from (by subst ex16 eI14 ex6; simp [clr_n, cpy_n, jn_n, mb_n, mg_n, jwP_n, tcP_n, up3_f, up3_s, mkd, gst_n, mset_n, psd_w, rsP_n, dr_n, lrP_n])) ?_
                  refine lv_iconst (v := nI 1) hx hb dX5_send_105 (by decide) ?_
                  refine lv_isub hx hb dX5_send_106 (r_top (pk_sub (show 1 ≤ wt I + 1 by omega)) ?_)
                  rw [hQ]
                  exact g_iret (wd := wC G ad) hx hb hr rfl hlocks hW hS (by first | (exfalso; omega) | (subst ex16 eI14 ex6; refine ⟨?_, ?_⟩; (rw [if_pos (by simp [k_rN, k_oN, k15, k_wN, t_rN, t_oN, t_wN]), if_pos (by assumption)]; exact congrArg nI (by omega)); rw [if_pos (by simp [k_rN, k_oN, k15, k_wN, t_rN, t_oN, t_wN, hwl])]; simp only [t_rN, t_oN, t_wN, snS]; (repeat' split) <;> first | rfl | (exfalso; omega))) dX5_send_107
                · replace c90_14 : wN = 1 := (nI_eq (show wN < 2147483648 by omega) (show 1 < 2147483648 by omega)).mp c90_14
                  refine lv_aload hx hb dX5_send_93 (lv_at hl 0 rfl) ?_
                  refine g_cv (va_runV (As := []) (rest := []) ⟨hx, hb, hml, hown, hts⟩ (c_X4_empty l D G ad hI I14 (rN * 4 + oN + 4) (show rN * 4 + oN + 4 < 59 by omega)) (cwV 0 hts gX5_send_X4_empty rfl rfl rfl (by decide +kernel) ⟨Nat.le_of_ble_eq_true rfl, Nat.le_of_ble_eq_true rfl⟩) (g_preV hK hW 4 (rN * 4 + oN + 4) (mC (by decide) (show rN * 4 + oN + 4 < 59 by omega)) rfl rfl) rfl rfl hl.1 rfl (lv_room (Nat.le_of_ble_eq_true rfl)) dX5_send_95 ⟨Nat.le_refl _, Nat.le_refl _⟩) hS (fun I17 H locs hp hW hS => ?_)
                  have eI17 : I17 = clr I14 (rN * 4 + oN + 4) := hp
                  refine lv_aload_n hx hb dX5_send_98 rfl (lv_at hl 1 rfl) ?_
                  refine r_get hx hb hts hown hK hW 0 (0) 0 (mC (by decide) (by decide)) rfl rfl hinX5 (by decide) hf10 rfl rfl dX5_send_99 ?_
                  refine r_get hx hb hts hown hK hW 1 (0) 6 (mC (by decide) (by decide)) rfl rfl hinX2 (by decide) hf148 rfl rfl dX5_send_102 (lv_topi (fun x18 ex18 => ?_))
                  refine r_top (show x18 = nI (wt I + 1) from (by subst ex18 eI17 eI14 ex6; simp [clr_n, cpy_n, jn_n, mb_n, mg_n, jwP_n, tcP_n, up3_f, up3_s, mkd, gst_n, mset_n, psd_w, rsP_n, dr_n, lrP_n])) ?_
                  refine lv_iconst (v := nI 1) hx hb dX5_send_105 (by decide) ?_
                  refine lv_isub hx hb dX5_send_106 (r_top (pk_sub (show 1 ≤ wt I + 1 by omega)) ?_)
                  rw [hQ]
                  exact g_iret (wd := wC G ad) hx hb hr rfl hlocks hW hS (by first | (exfalso; omega) | (subst ex18 eI17 eI14 ex6; refine ⟨?_, ?_⟩; (rw [if_pos (by simp [k_rN, k_oN, k15, k_wN, t_rN, t_oN, t_wN]), if_pos (by assumption)]; exact congrArg nI (by omega)); rw [if_pos (by simp [k_rN, k_oN, k15, k_wN, t_rN, t_oN, t_wN, hwl])]; simp only [t_rN, t_oN, t_wN, snS]; (repeat' split) <;> first | rfl | (exfalso; omega))) dX5_send_107
            · replace c40_6 : ¬ (wt I < 6) := fun h => c40_6 ((nI_ltI (show wt I < 2147483648 by omega) (show 6 < 2147483648 by omega)).mpr h)
              refine lv_bipush (v := (-4)) hx hb dX5_send_43 (by decide) ?_
              rw [hQ]
              exact g_iret (wd := wC G ad) hx hb hr rfl hlocks hW hS (by refine ⟨?_, ?_⟩ <;> simp [k_rN, k_oN, k15, k_wN, t_rN, t_oN, t_wN, c16_2, c20_3, c25_4, c40_6]) dX5_send_45
          · have k20 : okR 0 (nI 1) w = false := okR_b (Int32.not_le.mp c25_4)
            refine lv_bipush (v := (-2)) hx hb dX5_send_28 (by decide) ?_
            rw [hQ]
            exact g_iret (wd := wC G ad) hx hb hr rfl hlocks hW hS (by refine ⟨?_, ?_⟩ <;> simp [k_rN, k_oN, k15, k20, t_rN, t_oN]) dX5_send_30

