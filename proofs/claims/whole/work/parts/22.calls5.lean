/-! ===== calls of JoinedStores, five ===== -/
set_option maxHeartbeats 4000000 in
set_option maxRecDepth 100000 in
theorem c_X5_tells (l : Launch) (D : va_G) (G : Nat → ClassId) (ad : Nat → Nat → Nat) (hI : wI LC ad) (I : St) (k r a w : Int32) (hM : okM I) (hKd : okK I) (hT : okT I) (hWt : okW I) (hSh : okS I) : Met l yX5_tells wsX5_tells ({ frames := 7, cells := 0, slots := 0, locals := 300 } : Room) (gPre D G LC ad [.ref (ad 0 (0)), .int (k), .int (r), .int (a), .int (w)] (wC G ad I)) (gQi D LC ad (wC G ad) (fun r9 u => r9 = (if ((okN (nI 4) k && okN (nI 4) r) && (okN (nI 3) a && okR 0 (nI 3) w)) = true then (if I 7 (tn k) 0 = -1 then -11 else tls I (tn k) (tn r) (tn a) (tn w)) else -2) ∧ Sm gC I u)) 0 0 (wA LC ad) := by
  refine g_entry (C := RX5) (cc := cX5_tells) (maxL := 6) (ret := (some .int)) rfl (by decide) rfl (Nat.le_of_ble_eq_true rfl) (fun p e s m args below meth c Q ls hQ hx hb hr hts hown hlocks hml hW hK hl => ?_)
  have hl : lv_has ls 6 [(0, .ref (ad 0 (0))), (1, .int (k)), (2, .int (r)), (3, .int (a)), (4, .int (w))] := hl
  have hS := va_S.rf (A := wA LC ad) (H0 := s.heap)
  have hinX2 : ∀ w ∈ wsX20, w ∈ wsX5_tells := by decide +kernel
  have hinX3 : ∀ w ∈ wsX30, w ∈ wsX5_tells := by decide +kernel
  have hinX5 : ∀ w ∈ wsX50, w ∈ wsX5_tells := by decide +kernel
  have hf10 := hts (.fieldLink RX5 10 "JoinedStores" "now" "LJoinedStores$Network;") (by decide +kernel)
  have hf21 := hts (.fieldLink RX5 21 "JoinedStores" "sheets" "[LJoinedStores$Sheet;") (by decide +kernel)
  have hf68 := hts (.fieldLink RX5 68 "JoinedStores$Network" "stores" "[LJoinedStores$Store;") (by decide +kernel)
  have hf233 := hts (.fieldLink RX5 233 "JoinedStores$Sheet" "length" "I") (by decide +kernel)
  refine lv_iload_n hx hb dX5_tells_0 rfl (lv_at hl 1 rfl) ?_
  refine g_pi (va_runS (As := [.int (k)]) (rest := []) ⟨hx, hb, hml, hown, hts⟩ (c_X5_isSheet l k) (va_cwS 1 hts gX5_tells_X5_isSheet rfl rfl rfl (by decide +kernel) ⟨Nat.le_of_ble_eq_true rfl, Nat.le_of_ble_eq_true rfl⟩) p_preS rfl rfl hl.1 rfl (lv_room (Nat.le_of_ble_eq_true rfl)) dX5_tells_1 ⟨Nat.le_refl _, Nat.le_refl _⟩) hW hS (fun H locs hW hS => ?_)
  refine lv_if_eq (tgt := 32) hx hb dX5_tells_4 (by decide) (fun c4_0 => ?_) (fun c4_0 => ?_)
  · replace c4_0 := bI_0.mp c4_0
    try simp only [decide_eq_true_eq, decide_eq_false_iff_not] at c4_0
    refine lv_bipush (v := (-2)) hx hb dX5_tells_32 (by decide) ?_
    rw [hQ]
    exact g_iret (wd := wC G ad) hx hb hr rfl hlocks hW hS (by refine ⟨?_, Sm.rf⟩; simp [c4_0]) dX5_tells_34
  · replace c4_0 := bI_1.mp c4_0
    obtain ⟨kN, hkN, ekN⟩ := okN_nI (k := 4) (by decide) c4_0
    subst ekN
    have t_kN : tn (nI kN) = kN := tn_nI (by omega)
    have k_kN : okN (nI 4) (nI kN) = true := okN_of (by decide) hkN
    refine lv_iload_n hx hb dX5_tells_7 rfl (lv_at hl 2 rfl) ?_
    refine g_pi (va_runS (As := [.int (r)]) (rest := []) ⟨hx, hb, hml, hown, hts⟩ (c_X5_isReplica l r) (va_cwS 1 hts gX5_tells_X5_isReplica rfl rfl rfl (by decide +kernel) ⟨Nat.le_of_ble_eq_true rfl, Nat.le_of_ble_eq_true rfl⟩) p_preS rfl rfl hl.1 rfl (lv_room (Nat.le_of_ble_eq_true rfl)) dX5_tells_8 ⟨Nat.le_refl _, Nat.le_refl _⟩) hW hS (fun H locs hW hS => ?_)
    refine lv_if_eq (tgt := 32) hx hb dX5_tells_11 (by decide) (fun c11_1 => ?_) (fun c11_1 => ?_)
    · replace c11_1 := bI_0.mp c11_1
      try simp only [decide_eq_true_eq, decide_eq_false_iff_not] at c11_1
      refine lv_bipush (v := (-2)) hx hb dX5_tells_32 (by decide) ?_
      rw [hQ]
      exact g_iret (wd := wC G ad) hx hb hr rfl hlocks hW hS (by refine ⟨?_, Sm.rf⟩; simp [k_kN, c11_1]) dX5_tells_34
    · replace c11_1 := bI_1.mp c11_1
      obtain ⟨rN, hrN, erN⟩ := okN_nI (k := 4) (by decide) c11_1
      subst erN
      have t_rN : tn (nI rN) = rN := tn_nI (by omega)
      have k_rN : okN (nI 4) (nI rN) = true := okN_of (by decide) hrN
      refine lv_iload_n hx hb dX5_tells_14 rfl (lv_at hl 3 rfl) ?_
      refine g_pi (va_runS (As := [.int (a)]) (rest := []) ⟨hx, hb, hml, hown, hts⟩ (c_X5_isRoom l a) (va_cwS 1 hts gX5_tells_X5_isRoom rfl rfl rfl (by decide +kernel) ⟨Nat.le_of_ble_eq_true rfl, Nat.le_of_ble_eq_true rfl⟩) p_preS rfl rfl hl.1 rfl (lv_room (Nat.le_of_ble_eq_true rfl)) dX5_tells_15 ⟨Nat.le_refl _, Nat.le_refl _⟩) hW hS (fun H locs hW hS => ?_)
      refine lv_if_eq (tgt := 32) hx hb dX5_tells_18 (by decide) (fun c18_2 => ?_) (fun c18_2 => ?_)
      · replace c18_2 := bI_0.mp c18_2
        try simp only [decide_eq_true_eq, decide_eq_false_iff_not] at c18_2
        refine lv_bipush (v := (-2)) hx hb dX5_tells_32 (by decide) ?_
        rw [hQ]
        exact g_iret (wd := wC G ad) hx hb hr rfl hlocks hW hS (by refine ⟨?_, Sm.rf⟩; simp [k_kN, k_rN, c18_2]) dX5_tells_34
      · replace c18_2 := bI_1.mp c18_2
        obtain ⟨aN, haN, eaN⟩ := okN_nI (k := 3) (by decide) c18_2
        subst eaN
        have t_aN : tn (nI aN) = aN := tn_nI (by omega)
        have k_aN : okN (nI 3) (nI aN) = true := okN_of (by decide) haN
        refine lv_iload hx hb dX5_tells_21 (lv_at hl 4 rfl) ?_
        refine lv_if_lt (tgt := 32) hx hb dX5_tells_23 (by decide) (fun c23_3 => ?_) (fun c23_3 => ?_)
        · have k23 : okR 0 (nI 3) w = false := okR_a c23_3
          refine lv_bipush (v := (-2)) hx hb dX5_tells_32 (by decide) ?_
          rw [hQ]
          exact g_iret (wd := wC G ad) hx hb hr rfl hlocks hW hS (by refine ⟨?_, Sm.rf⟩; simp [k_kN, k_rN, k_aN, k23]) dX5_tells_34
        · refine lv_iload hx hb dX5_tells_26 (lv_at hl 4 rfl) ?_
          refine lv_iconst (v := nI 3) hx hb dX5_tells_28 (by decide) ?_
          refine lv_icmp_le (tgt := 35) hx hb dX5_tells_29 (by decide) (fun c29_4 => ?_) (fun c29_4 => ?_)
          · replace c29_4 := Int32.not_lt.mpr c29_4
            obtain ⟨wN, hwN, ewN⟩ := rng (k := 3) (by decide) c23_3 c29_4
            subst ewN
            have t_wN : tn (nI wN) = wN := tn_nI (by omega)
            have k_wN : okR 0 (nI 3) (nI wN) = true := okR_of (by decide) hwN
            refine lv_aload_n hx hb dX5_tells_35 rfl (lv_at hl 0 rfl) ?_
            refine r_get hx hb hts hown hK hW 0 (0) 3 (mC (by decide) (by decide)) rfl rfl hinX5 (by decide) hf21 rfl rfl dX5_tells_36 ?_
            refine lv_iload_n hx hb dX5_tells_39 rfl (lv_at hl 1 rfl) ?_
            refine r_aald hx hb hK hW 3 2 (0) (kN) (mC (by decide) (by decide)) rfl rfl (show kN < 4 by omega) (by decide) rfl rfl dX5_tells_40 ?_
            refine lv_astore (lv' := [(5, .ref (ad 7 (kN))), (0, .ref (ad 0 (0))), (1, .int (nI (kN))), (2, .int (nI (rN))), (3, .int (nI (aN))), (4, .int (nI (wN)))]) hx hb dX5_tells_41 hl (by decide) rfl (fun ls hl => ?_)
            refine lv_aload hx hb dX5_tells_43 (lv_at hl 0 rfl) ?_
            refine g_ci (va_runV (As := []) (rest := []) ⟨hx, hb, hml, hown, hts⟩ (c_X3_isMissing l D G ad hI I kN (show kN < 4 by omega)) (cwV 0 hts gX5_tells_X3_isMissing rfl rfl rfl (by decide +kernel) ⟨Nat.le_of_ble_eq_true rfl, Nat.le_of_ble_eq_true rfl⟩) (g_preV hK hW 7 (kN) (mC (by decide) (show kN < 4 by omega)) rfl rfl) rfl rfl hl.1 rfl (lv_room (Nat.le_of_ble_eq_true rfl)) dX5_tells_45 ⟨Nat.le_refl _, Nat.le_refl _⟩) hS (fun x6 I6 H locs hp hW hS => ?_)
            obtain ⟨ex6, eI6⟩ := hp
            rw [eI6] at hW
            clear eI6
            refine lv_if_eq (tgt := 54) hx hb dX5_tells_48 (by decide) (fun c48_6 => ?_) (fun c48_6 => ?_)
            · rw [ex6] at c48_6
              replace c48_6 := bI_0.mp c48_6
              try simp only [decide_eq_true_eq, decide_eq_false_iff_not] at c48_6
              obtain ⟨L, hLd⟩ : ∃ L, L = sl I kN := ⟨_, rfl⟩
              have hLe : I 7 kN 1 = nI L := by rw [hLd]; exact (hSh kN (by omega)).1
              have hL40 : L ≤ 40 := by rw [hLd]; exact (hSh kN (by omega)).2
              refine lv_aload hx hb dX5_tells_54 (lv_at hl 0 rfl) ?_
              refine r_get hx hb hts hown hK hW 7 (kN) 1 (mC (by decide) (show kN < 4 by omega)) rfl rfl hinX3 (by decide) hf233 rfl rfl dX5_tells_56 (lv_topi (fun x8 ex8 => ?_))
              refine r_top (show x8 = nI (L) from (ex8.trans hLe)) ?_
              refine lv_iconst (v := nI 4) hx hb dX5_tells_59 (by decide) ?_
              refine lv_icmp_gt (tgt := 77) hx hb dX5_tells_60 (by decide) (fun c60_8 => ?_) (fun c60_8 => ?_)
              · replace c60_8 : 4 < L := (nI_ltI (show 4 < 2147483648 by omega) (show L < 2147483648 by omega)).mp c60_8
                refine lv_bipush (v := (-2)) hx hb dX5_tells_77 (by decide) ?_
                rw [hQ]
                exact g_iret (wd := wC G ad) hx hb hr rfl hlocks hW hS (by first | (exfalso; omega) | (refine ⟨?_, Sm.rf⟩; rw [if_pos (by simp [k_kN, k_rN, k_aN, k_wN, c48_6]), if_neg (by simp only [t_kN, t_rN, t_aN, t_wN]; assumption)]; simp only [t_kN, t_rN, t_aN, t_wN, tls]; rw [← hLd]; (repeat' split) <;> first | (exfalso; omega) | (rfl))) dX5_tells_79
              · replace c60_8 : ¬ (4 < L) := fun h => c60_8 ((nI_ltI (show 4 < 2147483648 by omega) (show L < 2147483648 by omega)).mpr h)
                have hL4 : L ≤ 4 := by omega
                refine lv_iload hx hb dX5_tells_63 (lv_at hl 5 rfl) ?_
                refine lv_iconst (v := nI 2) hx hb dX5_tells_65 (by decide) ?_
                refine lv_icmp_ne (tgt := 80) hx hb dX5_tells_66 (by decide) (fun c66_9 => ?_) (fun c66_9 => ?_)
                · replace c66_9 : ¬ wN = 2 := fun h => c66_9 ((nI_eq (show wN < 2147483648 by omega) (show 2 < 2147483648 by omega)).mpr h)
                  refine lv_iload hx hb dX5_tells_80 (lv_at hl 5 rfl) ?_
                  refine lv_if_ne (tgt := 107) hx hb dX5_tells_82 (by decide) (fun c82_10 => ?_) (fun c82_10 => ?_)
                  · replace c82_10 : ¬ wN = 0 := fun h => c82_10 ((nI_eq (show wN < 2147483648 by omega) (show 0 < 2147483648 by omega)).mpr h)
                    refine lv_iload hx hb dX5_tells_107 (lv_at hl 5 rfl) ?_
                    refine lv_iconst (v := nI 1) hx hb dX5_tells_109 (by decide) ?_
                    refine lv_icmp_ne (tgt := 121) hx hb dX5_tells_110 (by decide) (fun c110_11 => ?_) (fun c110_11 => ?_)
                    · replace c110_11 : ¬ wN = 1 := fun h => c110_11 ((nI_eq (show wN < 2147483648 by omega) (show 1 < 2147483648 by omega)).mpr h)
                      refine lv_iload hx hb dX5_tells_121 (lv_at hl 5 rfl) ?_
                      refine lv_iconst (v := nI 2) hx hb dX5_tells_123 (by decide) ?_
                      refine lv_icmp_ne (tgt := 138) hx hb dX5_tells_124 (by decide) (fun c124_12 => ?_) (fun c124_12 => ?_)
                      · replace c124_12 : ¬ wN = 2 := fun h => c124_12 ((nI_eq (show wN < 2147483648 by omega) (show 2 < 2147483648 by omega)).mpr h)
                        refine lv_aload_n hx hb dX5_tells_138 rfl (lv_at hl 1 rfl) ?_
                        refine lv_aload hx hb dX5_tells_139 (lv_at hl 0 rfl) ?_
                        refine lv_iload_n hx hb dX5_tells_141 rfl (lv_at hl 3 rfl) ?_
                        refine lv_iload_n hx hb dX5_tells_142 rfl (lv_at hl 4 rfl) ?_
                        refine g_ci (va_runV (As := [.ref (ad 7 (kN)), .int (nI (rN)), .int (nI (aN))]) (rest := []) ⟨hx, hb, hml, hown, hts⟩ (c_X5_messagesThatTell l D G ad hI I kN rN aN L (show kN < 4 by omega) (show rN < 4 by omega) (show aN < 3 by omega) hL4 hLe hM hKd hT hWt) (cwV 3 hts gX5_tells_X5_messagesThatTell rfl rfl rfl (by decide +kernel) ⟨Nat.le_of_ble_eq_true rfl, Nat.le_of_ble_eq_true rfl⟩) (g_preV hK hW 0 (0) (mC (by decide) (by decide)) rfl rfl) rfl rfl hl.1 rfl (lv_room (Nat.le_of_ble_eq_true rfl)) dX5_tells_143 ⟨Nat.le_refl _, Nat.le_refl _⟩) hS (fun x14 I14 H locs hp hW hS => ?_)
                        obtain ⟨ex14, hu14⟩ := hp
                        rw [hQ]
                        exact g_iret (wd := wC G ad) hx hb hr rfl hlocks hW hS (by first | (exfalso; omega) | (refine ⟨?_, hu14⟩; rw [if_pos (by simp [k_kN, k_rN, k_aN, k_wN, c48_6]), if_neg (by simp only [t_kN, t_rN, t_aN, t_wN]; assumption)]; simp only [t_kN, t_rN, t_aN, t_wN, tls]; rw [← hLd]; (repeat' split) <;> first | (exfalso; omega) | (subst ex14 ex8 ex6; rfl))) dX5_tells_146
                      · replace c124_12 : wN = 2 := (nI_eq (show wN < 2147483648 by omega) (show 2 < 2147483648 by omega)).mp c124_12
                        refine lv_aload_n hx hb dX5_tells_127 rfl (lv_at hl 1 rfl) ?_
                        refine lv_aload hx hb dX5_tells_128 (lv_at hl 0 rfl) ?_
                        refine lv_iload_n hx hb dX5_tells_130 rfl (lv_at hl 3 rfl) ?_
                        refine lv_iload_n hx hb dX5_tells_131 rfl (lv_at hl 4 rfl) ?_
                        refine g_ci (va_runV (As := [.ref (ad 7 (kN)), .int (nI (rN)), .int (nI (aN))]) (rest := []) ⟨hx, hb, hml, hown, hts⟩ (c_X5_kindsThatTell l D G ad hI I kN rN aN L (show kN < 4 by omega) (show rN < 4 by omega) (show aN < 3 by omega) hL4 hLe hM hKd) (cwV 3 hts gX5_tells_X5_kindsThatTell rfl rfl rfl (by decide +kernel) ⟨Nat.le_of_ble_eq_true rfl, Nat.le_of_ble_eq_true rfl⟩) (g_preV hK hW 0 (0) (mC (by decide) (by decide)) rfl rfl) rfl rfl hl.1 rfl (lv_room (Nat.le_of_ble_eq_true rfl)) dX5_tells_132 ⟨Nat.le_refl _, Nat.le_refl _⟩) hS (fun x15 I15 H locs hp hW hS => ?_)
                        obtain ⟨ex15, hu15⟩ := hp
                        refine lv_goto (tgt := 146) hx hb dX5_tells_135 (by decide) ?_
                        rw [hQ]
                        exact g_iret (wd := wC G ad) hx hb hr rfl hlocks hW hS (by first | (exfalso; omega) | (refine ⟨?_, hu15⟩; rw [if_pos (by simp [k_kN, k_rN, k_aN, k_wN, c48_6]), if_neg (by simp only [t_kN, t_rN, t_aN, t_wN]; assumption)]; simp only [t_kN, t_rN, t_aN, t_wN, tls]; rw [← hLd]; (repeat' split) <;> first | (exfalso; omega) | (subst ex15 ex8 ex6; rfl))) dX5_tells_146
                    · replace c110_11 : wN = 1 := (nI_eq (show wN < 2147483648 by omega) (show 1 < 2147483648 by omega)).mp c110_11
                      refine lv_aload_n hx hb dX5_tells_113 rfl (lv_at hl 1 rfl) ?_
                      refine lv_aload hx hb dX5_tells_114 (lv_at hl 0 rfl) ?_
                      refine lv_iload_n hx hb dX5_tells_116 rfl (lv_at hl 4 rfl) ?_
                      refine g_ci (va_runV (As := [.ref (ad 7 (kN)), .int (nI (aN))]) (rest := []) ⟨hx, hb, hml, hown, hts⟩ (c_X5_replicasThatTell l D G ad hI I kN aN L (show kN < 4 by omega) (show aN < 3 by omega) hL4 hLe hM hKd) (cwV 2 hts gX5_tells_X5_replicasThatTell rfl rfl rfl (by decide +kernel) ⟨Nat.le_of_ble_eq_true rfl, Nat.le_of_ble_eq_true rfl⟩) (g_preV hK hW 0 (0) (mC (by decide) (by decide)) rfl rfl) rfl rfl hl.1 rfl (lv_room (Nat.le_of_ble_eq_true rfl)) dX5_tells_117 ⟨Nat.le_refl _, Nat.le_refl _⟩) hS (fun x16 I16 H locs hp hW hS => ?_)
                      obtain ⟨ex16, hu16⟩ := hp
                      rw [hQ]
                      exact g_iret (wd := wC G ad) hx hb hr rfl hlocks hW hS (by first | (exfalso; omega) | (refine ⟨?_, hu16⟩; rw [if_pos (by simp [k_kN, k_rN, k_aN, k_wN, c48_6]), if_neg (by simp only [t_kN, t_rN, t_aN, t_wN]; assumption)]; simp only [t_kN, t_rN, t_aN, t_wN, tls]; rw [← hLd]; (repeat' split) <;> first | (exfalso; omega) | (subst ex16 ex8 ex6; rfl))) dX5_tells_120
                  · replace c82_10 : wN = 0 := (nI_eq (show wN < 2147483648 by omega) (show 0 < 2147483648 by omega)).mp c82_10
                    refine lv_aload_n hx hb dX5_tells_85 rfl (lv_at hl 1 rfl) ?_
                    refine lv_aload hx hb dX5_tells_86 (lv_at hl 0 rfl) ?_
                    refine lv_aload_n hx hb dX5_tells_88 rfl (lv_at hl 1 rfl) ?_
                    refine r_get hx hb hts hown hK hW 0 (0) 0 (mC (by decide) (by decide)) rfl rfl hinX5 (by decide) hf10 rfl rfl dX5_tells_89 ?_
                    refine r_get hx hb hts hown hK hW 1 (0) 2 (mC (by decide) (by decide)) rfl rfl hinX2 (by decide) hf68 rfl rfl dX5_tells_92 ?_
                    refine lv_iload_n hx hb dX5_tells_95 rfl (lv_at hl 3 rfl) ?_
                    refine r_aald hx hb hK hW 1 3 (0) (rN) (mC (by decide) (by decide)) rfl rfl (show rN < 4 by omega) (by decide) rfl rfl dX5_tells_96 ?_
                    refine lv_iload_n hx hb dX5_tells_97 rfl (lv_at hl 4 rfl) ?_
                    refine lv_aload_n hx hb dX5_tells_98 rfl (lv_at hl 1 rfl) ?_
                    refine lv_iload_n hx hb dX5_tells_99 rfl (lv_at hl 4 rfl) ?_
                    refine g_ci (va_runV (As := [.int (nI (aN))]) (rest := [.int (nI (aN)), .ref (ad 4 (rN)), .ref (ad 7 (kN)), .ref (ad 0 (0))]) ⟨hx, hb, hml, hown, hts⟩ (c_X5_kindOfFirst l D G ad hI I aN (show aN < 3 by omega) hKd) (cwV 1 hts gX5_tells_X5_kindOfFirst rfl rfl rfl (by decide +kernel) ⟨Nat.le_of_ble_eq_true rfl, Nat.le_of_ble_eq_true rfl⟩) (g_preV hK hW 0 (0) (mC (by decide) (by decide)) rfl rfl) rfl rfl hl.1 rfl (lv_room (Nat.le_of_ble_eq_true rfl)) dX5_tells_100 ⟨Nat.le_refl _, Nat.le_refl _⟩) hS (fun x17 I17 H locs hp hW hS => ?_)
                    obtain ⟨ex17, eI17⟩ := hp
                    rw [eI17] at hW
                    clear eI17
                    refine r_top ex17 ?_
                    have hkf6 := (hKd (aN * 4) (by omega)).2
                    refine g_ci (va_runV (As := [.ref (ad 7 (kN)), .ref (ad 4 (rN)), .int (nI (aN)), .int (nI (kd I (aN * 4)))]) (rest := []) ⟨hx, hb, hml, hown, hts⟩ (c_X5_firstOtherwise l D G ad hI I kN rN aN (kd I (aN * 4)) L (show kN < 4 by omega) (show rN < 59 by omega) (show aN < 3 by omega) (show kd I (aN * 4) < 6 by omega) hL4 ((Sm.e Sm.rf (by decide) (by decide) (by decide)).trans hLe) (Sm.M Sm.rf hM) (Sm.K Sm.rf hKd)) (cwV 4 hts gX5_tells_X5_firstOtherwise rfl rfl rfl (by decide +kernel) ⟨Nat.le_of_ble_eq_true rfl, Nat.le_of_ble_eq_true rfl⟩) (g_preV hK hW 0 (0) (mC (by decide) (by decide)) rfl rfl) rfl rfl hl.1 rfl (lv_room (Nat.le_of_ble_eq_true rfl)) dX5_tells_103 ⟨Nat.le_refl _, Nat.le_refl _⟩) hS (fun x18 I18 H locs hp hW hS => ?_)
                    obtain ⟨ex18, hs18⟩ := hp
                    have hu18 : Sm gC I I18 := Sm.tr Sm.rf hs18.GC
                    rw [hQ]
                    exact g_iret (wd := wC G ad) hx hb hr rfl hlocks hW hS (by first | (exfalso; omega) | (refine ⟨?_, hu18⟩; rw [if_pos (by simp [k_kN, k_rN, k_aN, k_wN, c48_6]), if_neg (by simp only [t_kN, t_rN, t_aN, t_wN]; assumption)]; simp only [t_kN, t_rN, t_aN, t_wN, tls]; rw [← hLd]; (repeat' split) <;> first | (exfalso; omega) | (subst ex18 ex17 ex8 ex6; rfl))) dX5_tells_106
                · replace c66_9 : wN = 2 := (nI_eq (show wN < 2147483648 by omega) (show 2 < 2147483648 by omega)).mp c66_9
                  refine lv_aload hx hb dX5_tells_69 (lv_at hl 0 rfl) ?_
                  refine r_get hx hb hts hown hK hW 7 (kN) 1 (mC (by decide) (show kN < 4 by omega)) rfl rfl hinX3 (by decide) hf233 rfl rfl dX5_tells_71 (lv_topi (fun x19 ex19 => ?_))
                  refine r_top (show x19 = nI (L) from (ex19.trans hLe)) ?_
                  refine lv_if_ne (tgt := 80) hx hb dX5_tells_74 (by decide) (fun c74_19 => ?_) (fun c74_19 => ?_)
                  · replace c74_19 : ¬ L = 0 := fun h => c74_19 ((nI_eq (show L < 2147483648 by omega) (show 0 < 2147483648 by omega)).mpr h)
                    refine lv_iload hx hb dX5_tells_80 (lv_at hl 5 rfl) ?_
                    refine lv_if_ne (tgt := 107) hx hb dX5_tells_82 (by decide) (fun c82_20 => ?_) (fun c82_20 => ?_)
                    · replace c82_20 : ¬ wN = 0 := fun h => c82_20 ((nI_eq (show wN < 2147483648 by omega) (show 0 < 2147483648 by omega)).mpr h)
                      refine lv_iload hx hb dX5_tells_107 (lv_at hl 5 rfl) ?_
                      refine lv_iconst (v := nI 1) hx hb dX5_tells_109 (by decide) ?_
                      refine lv_icmp_ne (tgt := 121) hx hb dX5_tells_110 (by decide) (fun c110_21 => ?_) (fun c110_21 => ?_)
                      · replace c110_21 : ¬ wN = 1 := fun h => c110_21 ((nI_eq (show wN < 2147483648 by omega) (show 1 < 2147483648 by omega)).mpr h)
                        refine lv_iload hx hb dX5_tells_121 (lv_at hl 5 rfl) ?_
                        refine lv_iconst (v := nI 2) hx hb dX5_tells_123 (by decide) ?_
                        refine lv_icmp_ne (tgt := 138) hx hb dX5_tells_124 (by decide) (fun c124_22 => ?_) (fun c124_22 => ?_)
                        · replace c124_22 : ¬ wN = 2 := fun h => c124_22 ((nI_eq (show wN < 2147483648 by omega) (show 2 < 2147483648 by omega)).mpr h)
                          refine lv_aload_n hx hb dX5_tells_138 rfl (lv_at hl 1 rfl) ?_
                          refine lv_aload hx hb dX5_tells_139 (lv_at hl 0 rfl) ?_
                          refine lv_iload_n hx hb dX5_tells_141 rfl (lv_at hl 3 rfl) ?_
                          refine lv_iload_n hx hb dX5_tells_142 rfl (lv_at hl 4 rfl) ?_
                          refine g_ci (va_runV (As := [.ref (ad 7 (kN)), .int (nI (rN)), .int (nI (aN))]) (rest := []) ⟨hx, hb, hml, hown, hts⟩ (c_X5_messagesThatTell l D G ad hI I kN rN aN L (show kN < 4 by omega) (show rN < 4 by omega) (show aN < 3 by omega) hL4 hLe hM hKd hT hWt) (cwV 3 hts gX5_tells_X5_messagesThatTell rfl rfl rfl (by decide +kernel) ⟨Nat.le_of_ble_eq_true rfl, Nat.le_of_ble_eq_true rfl⟩) (g_preV hK hW 0 (0) (mC (by decide) (by decide)) rfl rfl) rfl rfl hl.1 rfl (lv_room (Nat.le_of_ble_eq_true rfl)) dX5_tells_143 ⟨Nat.le_refl _, Nat.le_refl _⟩) hS (fun x24 I24 H locs hp hW hS => ?_)
                          obtain ⟨ex24, hu24⟩ := hp
                          rw [hQ]
                          exact g_iret (wd := wC G ad) hx hb hr rfl hlocks hW hS (by first | (exfalso; omega) | (refine ⟨?_, hu24⟩; rw [if_pos (by simp [k_kN, k_rN, k_aN, k_wN, c48_6]), if_neg (by simp only [t_kN, t_rN, t_aN, t_wN]; assumption)]; simp only [t_kN, t_rN, t_aN, t_wN, tls]; rw [← hLd]; (repeat' split) <;> first | (exfalso; omega) | (subst ex24 ex19 ex8 ex6; rfl))) dX5_tells_146
                        · replace c124_22 : wN = 2 := (nI_eq (show wN < 2147483648 by omega) (show 2 < 2147483648 by omega)).mp c124_22
                          refine lv_aload_n hx hb dX5_tells_127 rfl (lv_at hl 1 rfl) ?_
                          refine lv_aload hx hb dX5_tells_128 (lv_at hl 0 rfl) ?_
                          refine lv_iload_n hx hb dX5_tells_130 rfl (lv_at hl 3 rfl) ?_
                          refine lv_iload_n hx hb dX5_tells_131 rfl (lv_at hl 4 rfl) ?_
                          refine g_ci (va_runV (As := [.ref (ad 7 (kN)), .int (nI (rN)), .int (nI (aN))]) (rest := []) ⟨hx, hb, hml, hown, hts⟩ (c_X5_kindsThatTell l D G ad hI I kN rN aN L (show kN < 4 by omega) (show rN < 4 by omega) (show aN < 3 by omega) hL4 hLe hM hKd) (cwV 3 hts gX5_tells_X5_kindsThatTell rfl rfl rfl (by decide +kernel) ⟨Nat.le_of_ble_eq_true rfl, Nat.le_of_ble_eq_true rfl⟩) (g_preV hK hW 0 (0) (mC (by decide) (by decide)) rfl rfl) rfl rfl hl.1 rfl (lv_room (Nat.le_of_ble_eq_true rfl)) dX5_tells_132 ⟨Nat.le_refl _, Nat.le_refl _⟩) hS (fun x25 I25 H locs hp hW hS => ?_)
                          obtain ⟨ex25, hu25⟩ := hp
                          refine lv_goto (tgt := 146) hx hb dX5_tells_135 (by decide) ?_
                          rw [hQ]
                          exact g_iret (wd := wC G ad) hx hb hr rfl hlocks hW hS (by first | (exfalso; omega) | (refine ⟨?_, hu25⟩; rw [if_pos (by simp [k_kN, k_rN, k_aN, k_wN, c48_6]), if_neg (by simp only [t_kN, t_rN, t_aN, t_wN]; assumption)]; simp only [t_kN, t_rN, t_aN, t_wN, tls]; rw [← hLd]; (repeat' split) <;> first | (exfalso; omega) | (subst ex25 ex19 ex8 ex6; rfl))) dX5_tells_146
                      · replace c110_21 : wN = 1 := (nI_eq (show wN < 2147483648 by omega) (show 1 < 2147483648 by omega)).mp c110_21
                        refine lv_aload_n hx hb dX5_tells_113 rfl (lv_at hl 1 rfl) ?_
                        refine lv_aload hx hb dX5_tells_114 (lv_at hl 0 rfl) ?_
                        refine lv_iload_n hx hb dX5_tells_116 rfl (lv_at hl 4 rfl) ?_
                        refine g_ci (va_runV (As := [.ref (ad 7 (kN)), .int (nI (aN))]) (rest := []) ⟨hx, hb, hml, hown, hts⟩ (c_X5_replicasThatTell l D G ad hI I kN aN L (show kN < 4 by omega) (show aN < 3 by omega) hL4 hLe hM hKd) (cwV 2 hts gX5_tells_X5_replicasThatTell rfl rfl rfl (by decide +kernel) ⟨Nat.le_of_ble_eq_true rfl, Nat.le_of_ble_eq_true rfl⟩) (g_preV hK hW 0 (0) (mC (by decide) (by decide)) rfl rfl) rfl rfl hl.1 rfl (lv_room (Nat.le_of_ble_eq_true rfl)) dX5_tells_117 ⟨Nat.le_refl _, Nat.le_refl _⟩) hS (fun x26 I26 H locs hp hW hS => ?_)
                        obtain ⟨ex26, hu26⟩ := hp
                        rw [hQ]
                        exact g_iret (wd := wC G ad) hx hb hr rfl hlocks hW hS (by first | (exfalso; omega) | (refine ⟨?_, hu26⟩; rw [if_pos (by simp [k_kN, k_rN, k_aN, k_wN, c48_6]), if_neg (by simp only [t_kN, t_rN, t_aN, t_wN]; assumption)]; simp only [t_kN, t_rN, t_aN, t_wN, tls]; rw [← hLd]; (repeat' split) <;> first | (exfalso; omega) | (subst ex26 ex19 ex8 ex6; rfl))) dX5_tells_120
                    · replace c82_20 : wN = 0 := (nI_eq (show wN < 2147483648 by omega) (show 0 < 2147483648 by omega)).mp c82_20
                      refine lv_aload_n hx hb dX5_tells_85 rfl (lv_at hl 1 rfl) ?_
                      refine lv_aload hx hb dX5_tells_86 (lv_at hl 0 rfl) ?_
                      refine lv_aload_n hx hb dX5_tells_88 rfl (lv_at hl 1 rfl) ?_
                      refine r_get hx hb hts hown hK hW 0 (0) 0 (mC (by decide) (by decide)) rfl rfl hinX5 (by decide) hf10 rfl rfl dX5_tells_89 ?_
                      refine r_get hx hb hts hown hK hW 1 (0) 2 (mC (by decide) (by decide)) rfl rfl hinX2 (by decide) hf68 rfl rfl dX5_tells_92 ?_
                      refine lv_iload_n hx hb dX5_tells_95 rfl (lv_at hl 3 rfl) ?_
                      refine r_aald hx hb hK hW 1 3 (0) (rN) (mC (by decide) (by decide)) rfl rfl (show rN < 4 by omega) (by decide) rfl rfl dX5_tells_96 ?_
                      refine lv_iload_n hx hb dX5_tells_97 rfl (lv_at hl 4 rfl) ?_
                      refine lv_aload_n hx hb dX5_tells_98 rfl (lv_at hl 1 rfl) ?_
                      refine lv_iload_n hx hb dX5_tells_99 rfl (lv_at hl 4 rfl) ?_
                      refine g_ci (va_runV (As := [.int (nI (aN))]) (rest := [.int (nI (aN)), .ref (ad 4 (rN)), .ref (ad 7 (kN)), .ref (ad 0 (0))]) ⟨hx, hb, hml, hown, hts⟩ (c_X5_kindOfFirst l D G ad hI I aN (show aN < 3 by omega) hKd) (cwV 1 hts gX5_tells_X5_kindOfFirst rfl rfl rfl (by decide +kernel) ⟨Nat.le_of_ble_eq_true rfl, Nat.le_of_ble_eq_true rfl⟩) (g_preV hK hW 0 (0) (mC (by decide) (by decide)) rfl rfl) rfl rfl hl.1 rfl (lv_room (Nat.le_of_ble_eq_true rfl)) dX5_tells_100 ⟨Nat.le_refl _, Nat.le_refl _⟩) hS (fun x27 I27 H locs hp hW hS => ?_)
                      obtain ⟨ex27, eI27⟩ := hp
                      rw [eI27] at hW
                      clear eI27
                      refine r_top ex27 ?_
                      have hkf6 := (hKd (aN * 4) (by omega)).2
                      refine g_ci (va_runV (As := [.ref (ad 7 (kN)), .ref (ad 4 (rN)), .int (nI (aN)), .int (nI (kd I (aN * 4)))]) (rest := []) ⟨hx, hb, hml, hown, hts⟩ (c_X5_firstOtherwise l D G ad hI I kN rN aN (kd I (aN * 4)) L (show kN < 4 by omega) (show rN < 59 by omega) (show aN < 3 by omega) (show kd I (aN * 4) < 6 by omega) hL4 ((Sm.e Sm.rf (by decide) (by decide) (by decide)).trans hLe) (Sm.M Sm.rf hM) (Sm.K Sm.rf hKd)) (cwV 4 hts gX5_tells_X5_firstOtherwise rfl rfl rfl (by decide +kernel) ⟨Nat.le_of_ble_eq_true rfl, Nat.le_of_ble_eq_true rfl⟩) (g_preV hK hW 0 (0) (mC (by decide) (by decide)) rfl rfl) rfl rfl hl.1 rfl (lv_room (Nat.le_of_ble_eq_true rfl)) dX5_tells_103 ⟨Nat.le_refl _, Nat.le_refl _⟩) hS (fun x28 I28 H locs hp hW hS => ?_)
                      obtain ⟨ex28, hs28⟩ := hp
                      have hu28 : Sm gC I I28 := Sm.tr Sm.rf hs28.GC
                      rw [hQ]
                      exact g_iret (wd := wC G ad) hx hb hr rfl hlocks hW hS (by first | (exfalso; omega) | (refine ⟨?_, hu28⟩; rw [if_pos (by simp [k_kN, k_rN, k_aN, k_wN, c48_6]), if_neg (by simp only [t_kN, t_rN, t_aN, t_wN]; assumption)]; simp only [t_kN, t_rN, t_aN, t_wN, tls]; rw [← hLd]; (repeat' split) <;> first | (exfalso; omega) | (subst ex28 ex27 ex19 ex8 ex6; rfl))) dX5_tells_106
                  · replace c74_19 : L = 0 := (nI_eq (show L < 2147483648 by omega) (show 0 < 2147483648 by omega)).mp c74_19
                    refine lv_bipush (v := (-2)) hx hb dX5_tells_77 (by decide) ?_
                    rw [hQ]
                    exact g_iret (wd := wC G ad) hx hb hr rfl hlocks hW hS (by first | (exfalso; omega) | (refine ⟨?_, Sm.rf⟩; rw [if_pos (by simp [k_kN, k_rN, k_aN, k_wN, c48_6]), if_neg (by simp only [t_kN, t_rN, t_aN, t_wN]; assumption)]; simp only [t_kN, t_rN, t_aN, t_wN, tls]; rw [← hLd]; (repeat' split) <;> first | (exfalso; omega) | (rfl))) dX5_tells_79
            · rw [ex6] at c48_6
              replace c48_6 := bI_1.mp c48_6
              try simp only [decide_eq_true_eq, decide_eq_false_iff_not] at c48_6
              refine lv_bipush (v := (-11)) hx hb dX5_tells_51 (by decide) ?_
              rw [hQ]
              exact g_iret (wd := wC G ad) hx hb hr rfl hlocks hW hS (by refine ⟨?_, Sm.rf⟩; rw [if_pos (by simp [k_kN, k_rN, k_aN, k_wN, c48_6]), if_pos (by simp only [t_kN, t_rN, t_aN, t_wN]; assumption)]) dX5_tells_53
          · have k23 : okR 0 (nI 3) w = false := okR_b (Int32.not_le.mp c29_4)
            refine lv_bipush (v := (-2)) hx hb dX5_tells_32 (by decide) ?_
            rw [hQ]
            exact g_iret (wd := wC G ad) hx hb hr rfl hlocks hW hS (by refine ⟨?_, Sm.rf⟩; simp [k_kN, k_rN, k_aN, k23]) dX5_tells_34

set_option maxHeartbeats 4000000 in
set_option maxRecDepth 100000 in
theorem c_X5_film (l : Launch) (D : va_G) (G : Nat → ClassId) (ad : Nat → Nat → Nat) (hI : wI LC ad) (I : St) (k r a n0 : Int32) (hM : okM I) (hKd : okK I) : Met l yX5_film wsX5_film ({ frames := 6, cells := 0, slots := 0, locals := 269 } : Room) (gPre D G LC ad [.ref (ad 0 (0)), .int (k), .int (r), .int (a), .int (n0)] (wC G ad I)) (gQi D LC ad (wC G ad) (fun r9 u => r9 = (if ((okN (nI 4) k && okN (nI 4) r) && (okN (nI 3) a && okR 0 (nI 4) n0)) = true then n0 else -2) ∧ u = (if ((okN (nI 4) k && okN (nI 4) r) && (okN (nI 3) a && okR 0 (nI 4) n0)) = true then flP I (tn k) (tn r) (tn a) (tn n0) (tn n0) else I))) 0 0 (wA LC ad) := by
  refine g_entry (C := RX5) (cc := cX5_film) (maxL := 7) (ret := (some .int)) rfl (by decide) rfl (Nat.le_of_ble_eq_true rfl) (fun p e s m args below meth c Q ls hQ hx hb hr hts hown hlocks hml hW hK hl => ?_)
  have hl : lv_has ls 7 [(0, .ref (ad 0 (0))), (1, .int (k)), (2, .int (r)), (3, .int (a)), (4, .int (n0))] := hl
  have hS := va_S.rf (A := wA LC ad) (H0 := s.heap)
  have hinX2 : ∀ w ∈ wsX20, w ∈ wsX5_film := by decide +kernel
  have hinX3 : ∀ w ∈ wsX30, w ∈ wsX5_film := by decide +kernel
  have hinX5 : ∀ w ∈ wsX50, w ∈ wsX5_film := by decide +kernel
  have hf10 := hts (.fieldLink RX5 10 "JoinedStores" "now" "LJoinedStores$Network;") (by decide +kernel)
  have hf21 := hts (.fieldLink RX5 21 "JoinedStores" "sheets" "[LJoinedStores$Sheet;") (by decide +kernel)
  have hf68 := hts (.fieldLink RX5 68 "JoinedStores$Network" "stores" "[LJoinedStores$Store;") (by decide +kernel)
  have hf256 := hts (.fieldLink RX5 256 "JoinedStores$Sheet" "items" "[I") (by decide +kernel)
  refine lv_iload_n hx hb dX5_film_0 rfl (lv_at hl 1 rfl) ?_
  refine g_pi (va_runS (As := [.int (k)]) (rest := []) ⟨hx, hb, hml, hown, hts⟩ (c_X5_isSheet l k) (va_cwS 1 hts gX5_film_X5_isSheet rfl rfl rfl (by decide +kernel) ⟨Nat.le_of_ble_eq_true rfl, Nat.le_of_ble_eq_true rfl⟩) p_preS rfl rfl hl.1 rfl (lv_room (Nat.le_of_ble_eq_true rfl)) dX5_film_1 ⟨Nat.le_refl _, Nat.le_refl _⟩) hW hS (fun H locs hW hS => ?_)
  refine lv_if_eq (tgt := 32) hx hb dX5_film_4 (by decide) (fun c4_0 => ?_) (fun c4_0 => ?_)
  · replace c4_0 := bI_0.mp c4_0
    try simp only [decide_eq_true_eq, decide_eq_false_iff_not] at c4_0
    refine lv_bipush (v := (-2)) hx hb dX5_film_32 (by decide) ?_
    rw [hQ]
    exact g_iret (wd := wC G ad) hx hb hr rfl hlocks hW hS (by refine ⟨?_, ?_⟩ <;> simp [c4_0]) dX5_film_34
  · replace c4_0 := bI_1.mp c4_0
    obtain ⟨kN, hkN, ekN⟩ := okN_nI (k := 4) (by decide) c4_0
    subst ekN
    have t_kN : tn (nI kN) = kN := tn_nI (by omega)
    have k_kN : okN (nI 4) (nI kN) = true := okN_of (by decide) hkN
    refine lv_iload_n hx hb dX5_film_7 rfl (lv_at hl 2 rfl) ?_
    refine g_pi (va_runS (As := [.int (r)]) (rest := []) ⟨hx, hb, hml, hown, hts⟩ (c_X5_isReplica l r) (va_cwS 1 hts gX5_film_X5_isReplica rfl rfl rfl (by decide +kernel) ⟨Nat.le_of_ble_eq_true rfl, Nat.le_of_ble_eq_true rfl⟩) p_preS rfl rfl hl.1 rfl (lv_room (Nat.le_of_ble_eq_true rfl)) dX5_film_8 ⟨Nat.le_refl _, Nat.le_refl _⟩) hW hS (fun H locs hW hS => ?_)
    refine lv_if_eq (tgt := 32) hx hb dX5_film_11 (by decide) (fun c11_1 => ?_) (fun c11_1 => ?_)
    · replace c11_1 := bI_0.mp c11_1
      try simp only [decide_eq_true_eq, decide_eq_false_iff_not] at c11_1
      refine lv_bipush (v := (-2)) hx hb dX5_film_32 (by decide) ?_
      rw [hQ]
      exact g_iret (wd := wC G ad) hx hb hr rfl hlocks hW hS (by refine ⟨?_, ?_⟩ <;> simp [k_kN, c11_1]) dX5_film_34
    · replace c11_1 := bI_1.mp c11_1
      obtain ⟨rN, hrN, erN⟩ := okN_nI (k := 4) (by decide) c11_1
      subst erN
      have t_rN : tn (nI rN) = rN := tn_nI (by omega)
      have k_rN : okN (nI 4) (nI rN) = true := okN_of (by decide) hrN
      refine lv_iload_n hx hb dX5_film_14 rfl (lv_at hl 3 rfl) ?_
      refine g_pi (va_runS (As := [.int (a)]) (rest := []) ⟨hx, hb, hml, hown, hts⟩ (c_X5_isRoom l a) (va_cwS 1 hts gX5_film_X5_isRoom rfl rfl rfl (by decide +kernel) ⟨Nat.le_of_ble_eq_true rfl, Nat.le_of_ble_eq_true rfl⟩) p_preS rfl rfl hl.1 rfl (lv_room (Nat.le_of_ble_eq_true rfl)) dX5_film_15 ⟨Nat.le_refl _, Nat.le_refl _⟩) hW hS (fun H locs hW hS => ?_)
      refine lv_if_eq (tgt := 32) hx hb dX5_film_18 (by decide) (fun c18_2 => ?_) (fun c18_2 => ?_)
      · replace c18_2 := bI_0.mp c18_2
        try simp only [decide_eq_true_eq, decide_eq_false_iff_not] at c18_2
        refine lv_bipush (v := (-2)) hx hb dX5_film_32 (by decide) ?_
        rw [hQ]
        exact g_iret (wd := wC G ad) hx hb hr rfl hlocks hW hS (by refine ⟨?_, ?_⟩ <;> simp [k_kN, k_rN, c18_2]) dX5_film_34
      · replace c18_2 := bI_1.mp c18_2
        obtain ⟨aN, haN, eaN⟩ := okN_nI (k := 3) (by decide) c18_2
        subst eaN
        have t_aN : tn (nI aN) = aN := tn_nI (by omega)
        have k_aN : okN (nI 3) (nI aN) = true := okN_of (by decide) haN
        refine lv_iload hx hb dX5_film_21 (lv_at hl 4 rfl) ?_
        refine lv_if_lt (tgt := 32) hx hb dX5_film_23 (by decide) (fun c23_3 => ?_) (fun c23_3 => ?_)
        · have k23 : okR 0 (nI 4) n0 = false := okR_a c23_3
          refine lv_bipush (v := (-2)) hx hb dX5_film_32 (by decide) ?_
          rw [hQ]
          exact g_iret (wd := wC G ad) hx hb hr rfl hlocks hW hS (by refine ⟨?_, ?_⟩ <;> simp [k_kN, k_rN, k_aN, k23]) dX5_film_34
        · refine lv_iload hx hb dX5_film_26 (lv_at hl 4 rfl) ?_
          refine lv_iconst (v := nI 4) hx hb dX5_film_28 (by decide) ?_
          refine lv_icmp_le (tgt := 35) hx hb dX5_film_29 (by decide) (fun c29_4 => ?_) (fun c29_4 => ?_)
          · replace c29_4 := Int32.not_lt.mpr c29_4
            obtain ⟨n0N, hn0N, en0N⟩ := rng (k := 4) (by decide) c23_3 c29_4
            subst en0N
            have t_n0N : tn (nI n0N) = n0N := tn_nI (by omega)
            have k_n0N : okR 0 (nI 4) (nI n0N) = true := okR_of (by decide) hn0N
            refine lv_aload_n hx hb dX5_film_35 rfl (lv_at hl 0 rfl) ?_
            refine r_get hx hb hts hown hK hW 0 (0) 3 (mC (by decide) (by decide)) rfl rfl hinX5 (by decide) hf21 rfl rfl dX5_film_36 ?_
            refine lv_iload_n hx hb dX5_film_39 rfl (lv_at hl 1 rfl) ?_
            refine r_aald hx hb hK hW 3 2 (0) (kN) (mC (by decide) (by decide)) rfl rfl (show kN < 4 by omega) (by decide) rfl rfl dX5_film_40 ?_
            refine lv_astore (lv' := [(5, .ref (ad 7 (kN))), (0, .ref (ad 0 (0))), (1, .int (nI (kN))), (2, .int (nI (rN))), (3, .int (nI (aN))), (4, .int (nI (n0N)))]) hx hb dX5_film_41 hl (by decide) rfl (fun ls hl => ?_)
            refine lv_aload hx hb dX5_film_43 (lv_at hl 0 rfl) ?_
            refine lv_iconst (v := nI 0) hx hb dX5_film_45 (by decide) ?_
            refine lv_iload hx hb dX5_film_46 (lv_at hl 5 rfl) ?_
            refine g_cv (va_runV (As := [.int (nI (0)), .int (nI (n0N))]) (rest := []) ⟨hx, hb, hml, hown, hts⟩ (c_X3_become l D G ad hI I kN (show kN < 4 by omega) (nI (0)) (nI (n0N))) (cwV 2 hts gX5_film_X3_become rfl rfl rfl (by decide +kernel) ⟨Nat.le_of_ble_eq_true rfl, Nat.le_of_ble_eq_true rfl⟩) (g_preV hK hW 7 (kN) (mC (by decide) (show kN < 4 by omega)) rfl rfl) rfl rfl hl.1 rfl (lv_room (Nat.le_of_ble_eq_true rfl)) dX5_film_48 ⟨Nat.le_refl _, Nat.le_refl _⟩) hS (fun I6 H locs hp hW hS => ?_)
            have eI6 : I6 = shb I kN (nI (0)) (nI (n0N)) := hp
            refine lv_iconst (v := nI 0) hx hb dX5_film_51 (by decide) ?_
            refine lv_istore (lv' := [(6, .int (nI (0))), (5, .ref (ad 7 (kN))), (0, .ref (ad 0 (0))), (1, .int (nI (kN))), (2, .int (nI (rN))), (3, .int (nI (aN))), (4, .int (nI (n0N)))]) hx hb dX5_film_52 hl (by decide) rfl (fun ls hl => ?_)
            have K54 : ∀ (n : Nat) (i : Nat), (i ≤ n0N) → n0N < i + n → ∀ (H : Heap) (locs : List Loc), va_P D vwCl (wS LC ad (wC G ad (flP I kN rN aN n0N i))) H → va_S (wA LC ad) s.heap H locs → ∀ (ls : Array Slot), lv_has ls 7 [(6, .int (nI (i))), (5, .ref (ad 7 (kN))), (0, .ref (ad 0 (0))), (1, .int (nI (kN))), (2, .int (nI (rN))), (3, .int (nI (aN))), (4, .int (nI (n0N)))] → W p l e ({ frames := 6, cells := 0, slots := 0, locals := 269 } : Room) s m args below meth c H locs 0 0 Q (F0 m 54 ls []) := by
              intro n54
              induction n54 with
              | zero => intro i hi hfu; exact absurd hfu (by omega)
              | succ n54 ih54 =>
                intro i hi hfu H locs hW hS ls hl
                refine lv_iload hx hb dX5_film_54 (lv_at hl 0 rfl) ?_
                refine lv_iload hx hb dX5_film_56 (lv_at hl 6 rfl) ?_
                refine lv_icmp_ge (tgt := 98) hx hb dX5_film_58 (by decide) (fun c58_6 => ?_) (fun c58_6 => ?_)
                · replace c58_6 : n0N ≤ i := (nI_leI (show n0N < 2147483648 by omega) (show i < 2147483648 by omega)).mp c58_6
                  refine lv_iload hx hb dX5_film_98 (lv_at hl 6 rfl) ?_
                  rw [hQ]
                  exact g_iret (wd := wC G ad) hx hb hr rfl hlocks hW hS (by have e4 : i = n0N := (by omega); subst e4; refine ⟨?_, ?_⟩ <;> rw [if_pos (by simp [k_kN, k_rN, k_aN, k_n0N])] <;> simp only [t_kN, t_rN, t_aN, t_n0N]) dX5_film_100
                · replace c58_6 : ¬ (n0N ≤ i) := fun h => c58_6 ((nI_leI (show n0N < 2147483648 by omega) (show i < 2147483648 by omega)).mpr h)
                  refine lv_aload hx hb dX5_film_61 (lv_at hl 1 rfl) ?_
                  refine r_get hx hb hts hown hK hW 7 (kN) 2 (mC (by decide) (show kN < 4 by omega)) rfl rfl hinX3 (by decide) hf256 rfl rfl dX5_film_63 ?_
                  refine lv_iload hx hb dX5_film_66 (lv_at hl 0 rfl) ?_
                  refine lv_aload_n hx hb dX5_film_68 rfl (lv_at hl 2 rfl) ?_
                  refine r_get hx hb hts hown hK hW 0 (0) 0 (mC (by decide) (by decide)) rfl rfl hinX5 (by decide) hf10 rfl rfl dX5_film_69 ?_
                  refine lv_aload_n hx hb dX5_film_72 rfl (lv_at hl 2 rfl) ?_
                  refine r_get hx hb hts hown hK hW 0 (0) 0 (mC (by decide) (by decide)) rfl rfl hinX5 (by decide) hf10 rfl rfl dX5_film_73 ?_
                  refine r_get hx hb hts hown hK hW 1 (0) 2 (mC (by decide) (by decide)) rfl rfl hinX2 (by decide) hf68 rfl rfl dX5_film_76 ?_
                  refine lv_iload_n hx hb dX5_film_79 rfl (lv_at hl 4 rfl) ?_
                  refine r_aald hx hb hK hW 1 3 (0) (rN) (mC (by decide) (by decide)) rfl rfl (show rN < 4 by omega) (by decide) rfl rfl dX5_film_80 ?_
                  refine lv_iload_n hx hb dX5_film_81 rfl (lv_at hl 5 rfl) ?_
                  refine lv_iload hx hb dX5_film_82 (lv_at hl 0 rfl) ?_
                  refine g_pi (va_runS (As := [.int (nI (aN)), .int (nI (i))]) (rest := [.ref (ad 4 (rN)), .ref (ad 1 (0)), .int (nI (i)), .ref (ad 19 (kN))]) ⟨hx, hb, hml, hown, hts⟩ (c_X5_objectAt l (aN) (i)) (va_cwS 2 hts gX5_film_X5_objectAt rfl rfl rfl (by decide +kernel) ⟨Nat.le_of_ble_eq_true rfl, Nat.le_of_ble_eq_true rfl⟩) p_preS rfl rfl hl.1 rfl (lv_room (Nat.le_of_ble_eq_true rfl)) dX5_film_84 ⟨Nat.le_refl _, Nat.le_refl _⟩) hW hS (fun H locs hW hS => ?_)
                  have hM_7 : okM (flP I kN rN aN n0N i) := okM_e (fun r9 => by skip; simp [clr_n, cpy_n, jn_n, mb_n, mg_n, jwP_n, tcP_n, up3_f, up3_s, mkd, gst_n, mset_n, psd_w, rsP_n, dr_n, lrP_n, flP_n, shP_n]) hM
                  have hK_8 : okK (flP I kN rN aN n0N i) := okK_e (fun o9 => by skip; simp [clr_n, cpy_n, jn_n, mb_n, mg_n, jwP_n, tcP_n, up3_f, up3_s, mkd, gst_n, mset_n, psd_w, rsP_n, dr_n, lrP_n, flP_n, shP_n]) hKd
                  refine g_cl (va_runV (As := [.ref (ad 4 (rN)), .int (nI (aN * 4 + i))]) (rest := [.int (nI (i)), .ref (ad 19 (kN))]) ⟨hx, hb, hml, hown, hts⟩ (c_X2_worthIn l D G ad hI (flP I kN rN aN n0N i) rN (aN * 4 + i) (show rN < 59 by omega) (show aN * 4 + i < 12 by omega) hM_7 hK_8) (cwV 2 hts gX5_film_X2_worthIn rfl rfl rfl (by decide +kernel) ⟨Nat.le_of_ble_eq_true rfl, Nat.le_of_ble_eq_true rfl⟩) (g_preV hK hW 1 (0) (mC (by decide) (by decide)) rfl rfl) rfl rfl hl.1 rfl (lv_room (Nat.le_of_ble_eq_true rfl)) dX5_film_87 ⟨Nat.le_refl _, Nat.le_refl _⟩) hS (fun x10 I10 H locs hp hW hS => ?_)
                  obtain ⟨ex10, eI10⟩ := hp
                  refine lv_l2i hx hb dX5_film_90 rfl ?_
                  refine rC_iast hx hb hK hI hW hS 19 (kN) (i) (by decide) (by decide) (show kN < 4 by omega) (show i < 40 by omega) rfl dX5_film_91 (fun I11 H locs eI11 hW hS => ?_)
                  refine lv_iinc (v := nI (i + 1)) (lv' := [(6, .int (nI (i + 1))), (5, .ref (ad 7 (kN))), (0, .ref (ad 0 (0))), (1, .int (nI (kN))), (2, .int (nI (rN))), (3, .int (nI (aN))), (4, .int (nI (n0N)))]) hx hb dX5_film_92 hl (k := 0) rfl (nI_inc i 1) (by decide) rfl (fun ls hl => ?_)
                  refine lv_goto (tgt := 54) hx hb dX5_film_95 (by decide) ?_
                  have e9 : I11 = flP I kN rN aN n0N (i + 1) := by
                    subst eI11 eI10 ex10
                    rfl
                  have hW9 := hW
                  rw [e9] at hW9
                  exact ih54 (i + 1) (by omega) (by omega) _ _ hW9 hS _ (lv_sub hl [0, 1, 2, 3, 4, 5, 6] rfl)
            have e9 : I6 = flP I kN rN aN n0N 0 := by
              subst eI6
              rfl
            have hW9 := hW
            rw [e9] at hW9
            exact K54 (n0N + 1) (0) (Nat.zero_le _) (by omega) _ _ hW9 hS _ (lv_sub hl [0, 1, 2, 3, 4, 5, 6] rfl)
          · have k23 : okR 0 (nI 4) n0 = false := okR_b (Int32.not_le.mp c29_4)
            refine lv_bipush (v := (-2)) hx hb dX5_film_32 (by decide) ?_
            rw [hQ]
            exact g_iret (wd := wC G ad) hx hb hr rfl hlocks hW hS (by refine ⟨?_, ?_⟩ <;> simp [k_kN, k_rN, k_aN, k23]) dX5_film_34

set_option maxHeartbeats 4000000 in
set_option maxRecDepth 100000 in
theorem c_X5_image (l : Launch) (D : va_G) (G : Nat → ClassId) (ad : Nat → Nat → Nat) (hI : wI LC ad) (I : St) (hWt : okW I) : Met l yX5_image wsX5_image ({ frames := 4, cells := 0, slots := 0, locals := 131 } : Room) (gPre D G LC ad [.ref (ad 0 (0))] (wC G ad I)) (gQi D LC ad (wC G ad) (fun r9 u => r9 = I 1 0 6 ∧ u = imS I)) 0 0 (wA LC ad) := by
  refine g_entry (C := RX5) (cc := cX5_image) (maxL := 1) (ret := (some .int)) rfl (by decide) rfl (Nat.le_of_ble_eq_true rfl) (fun p e s m args below meth c Q ls hQ hx hb hr hts hown hlocks hml hW hK hl => ?_)
  have hl : lv_has ls 1 [(0, .ref (ad 0 (0)))] := hl
  have hS := va_S.rf (A := wA LC ad) (H0 := s.heap)
  have hinX2 : ∀ w ∈ wsX20, w ∈ wsX5_image := by decide +kernel
  have hinX5 : ∀ w ∈ wsX50, w ∈ wsX5_image := by decide +kernel
  have hf10 := hts (.fieldLink RX5 10 "JoinedStores" "now" "LJoinedStores$Network;") (by decide +kernel)
  have hf16 := hts (.fieldLink RX5 16 "JoinedStores" "kept" "LJoinedStores$Network;") (by decide +kernel)
  have hf148 := hts (.fieldLink RX5 148 "JoinedStores$Network" "waits" "I") (by decide +kernel)
  have hf262 := hts (.fieldLink RX5 262 "JoinedStores" "hasImage" "Z") (by decide +kernel)
  refine lv_aload_n hx hb dX5_image_0 rfl (lv_at hl 0 rfl) ?_
  refine r_get hx hb hts hown hK hW 0 (0) 1 (mC (by decide) (by decide)) rfl rfl hinX5 (by decide) hf16 rfl rfl dX5_image_1 ?_
  refine lv_aload_n hx hb dX5_image_4 rfl (lv_at hl 0 rfl) ?_
  refine r_get hx hb hts hown hK hW 0 (0) 0 (mC (by decide) (by decide)) rfl rfl hinX5 (by decide) hf10 rfl rfl dX5_image_5 ?_
  refine g_cv (va_runV (As := [.ref (ad 1 (0))]) (rest := []) ⟨hx, hb, hml, hown, hts⟩ (c_X2_become_1 l D G ad hI I  hWt) (cwV 1 hts gX5_image_X2_become rfl rfl rfl (by decide +kernel) ⟨Nat.le_of_ble_eq_true rfl, Nat.le_of_ble_eq_true rfl⟩) (g_preV hK hW 1 (1) (mC (by decide) (by decide)) rfl rfl) rfl rfl hl.1 rfl (lv_room (Nat.le_of_ble_eq_true rfl)) dX5_image_8 ⟨Nat.le_refl _, Nat.le_refl _⟩) hS (fun I1 H locs hp hW hS => ?_)
  have eI1 : I1 = nbk I 0 1 0 39 4 43 := hp
  refine lv_aload_n hx hb dX5_image_11 rfl (lv_at hl 0 rfl) ?_
  refine lv_iconst (v := nI 1) hx hb dX5_image_12 (by decide) ?_
  refine r_puti (wd := wC G ad) (ty := .boolean) hx hb hts hown hK hI hW hS 0 (0) 2 (mC (by decide) (by decide)) rfl rfl hinX5 (by decide) hf262 rfl tyX5 tyX5_ok nmX5 rfl (by decide +kernel) (by decide) (by decide) (Nat.le_of_ble_eq_true rfl) (by simp [wC, up3]) (fun f' i' hn => wC_up f' i' hn) dX5_image_13 (fun I2 H locs eI2 hW hS => ?_)
  refine lv_aload_n hx hb dX5_image_16 rfl (lv_at hl 0 rfl) ?_
  refine r_get hx hb hts hown hK hW 0 (0) 0 (mC (by decide) (by decide)) rfl rfl hinX5 (by decide) hf10 rfl rfl dX5_image_17 ?_
  refine r_get hx hb hts hown hK hW 1 (0) 6 (mC (by decide) (by decide)) rfl rfl hinX2 (by decide) hf148 rfl rfl dX5_image_20 (lv_topi (fun x3 ex3 => ?_))
  rw [hQ]
  exact g_iret (wd := wC G ad) hx hb hr rfl hlocks hW hS (by subst ex3 eI2 eI1; refine ⟨?_, rfl⟩; rw [up3_f (by decide)]; exact nbk1_w I) dX5_image_23

set_option maxHeartbeats 4000000 in
set_option maxRecDepth 100000 in
theorem c_X5_back (l : Launch) (D : va_G) (G : Nat → ClassId) (ad : Nat → Nat → Nat) (hI : wI LC ad) (I : St) (hWt : okW I) : Met l yX5_back wsX5_back ({ frames := 4, cells := 0, slots := 0, locals := 131 } : Room) (gPre D G LC ad [.ref (ad 0 (0))] (wC G ad I)) (gQi D LC ad (wC G ad) (fun r9 u => r9 = (if I 0 0 2 = 0 then -3 else I 1 1 6) ∧ u = (if I 0 0 2 = 0 then I else bkS I))) 0 0 (wA LC ad) := by
  refine g_entry (C := RX5) (cc := cX5_back) (maxL := 1) (ret := (some .int)) rfl (by decide) rfl (Nat.le_of_ble_eq_true rfl) (fun p e s m args below meth c Q ls hQ hx hb hr hts hown hlocks hml hW hK hl => ?_)
  have hl : lv_has ls 1 [(0, .ref (ad 0 (0)))] := hl
  have hS := va_S.rf (A := wA LC ad) (H0 := s.heap)
  have hinX2 : ∀ w ∈ wsX20, w ∈ wsX5_back := by decide +kernel
  have hinX5 : ∀ w ∈ wsX50, w ∈ wsX5_back := by decide +kernel
  have hf10 := hts (.fieldLink RX5 10 "JoinedStores" "now" "LJoinedStores$Network;") (by decide +kernel)
  have hf16 := hts (.fieldLink RX5 16 "JoinedStores" "kept" "LJoinedStores$Network;") (by decide +kernel)
  have hf148 := hts (.fieldLink RX5 148 "JoinedStores$Network" "waits" "I") (by decide +kernel)
  have hf262 := hts (.fieldLink RX5 262 "JoinedStores" "hasImage" "Z") (by decide +kernel)
  refine lv_aload_n hx hb dX5_back_0 rfl (lv_at hl 0 rfl) ?_
  refine r_get hx hb hts hown hK hW 0 (0) 2 (mC (by decide) (by decide)) rfl rfl hinX5 (by decide) hf262 rfl rfl dX5_back_1 (lv_topi (fun x1 ex1 => ?_))
  refine lv_if_ne (tgt := 10) hx hb dX5_back_4 (by decide) (fun c4_1 => ?_) (fun c4_1 => ?_)
  · refine lv_aload_n hx hb dX5_back_10 rfl (lv_at hl 0 rfl) ?_
    refine r_get hx hb hts hown hK hW 0 (0) 0 (mC (by decide) (by decide)) rfl rfl hinX5 (by decide) hf10 rfl rfl dX5_back_11 ?_
    refine lv_aload_n hx hb dX5_back_14 rfl (lv_at hl 0 rfl) ?_
    refine r_get hx hb hts hown hK hW 0 (0) 1 (mC (by decide) (by decide)) rfl rfl hinX5 (by decide) hf16 rfl rfl dX5_back_15 ?_
    refine g_cv (va_runV (As := [.ref (ad 1 (1))]) (rest := []) ⟨hx, hb, hml, hown, hts⟩ (c_X2_become_0 l D G ad hI I  hWt) (cwV 1 hts gX5_back_X2_become rfl rfl rfl (by decide +kernel) ⟨Nat.le_of_ble_eq_true rfl, Nat.le_of_ble_eq_true rfl⟩) (g_preV hK hW 1 (0) (mC (by decide) (by decide)) rfl rfl) rfl rfl hl.1 rfl (lv_room (Nat.le_of_ble_eq_true rfl)) dX5_back_18 ⟨Nat.le_refl _, Nat.le_refl _⟩) hS (fun I3 H locs hp hW hS => ?_)
    have eI3 : I3 = nbk I 1 0 39 0 43 4 := hp
    refine lv_aload_n hx hb dX5_back_21 rfl (lv_at hl 0 rfl) ?_
    refine r_get hx hb hts hown hK hW 0 (0) 0 (mC (by decide) (by decide)) rfl rfl hinX5 (by decide) hf10 rfl rfl dX5_back_22 ?_
    refine r_get hx hb hts hown hK hW 1 (0) 6 (mC (by decide) (by decide)) rfl rfl hinX2 (by decide) hf148 rfl rfl dX5_back_25 (lv_topi (fun x4 ex4 => ?_))
    rw [hQ]
    exact g_iret (wd := wC G ad) hx hb hr rfl hlocks hW hS (by subst ex4 eI3 ex1; refine ⟨?_, ?_⟩ <;> rw [if_neg (by assumption)]; exact nbk0_w I; rfl) dX5_back_28
  · refine lv_bipush (v := (-3)) hx hb dX5_back_7 (by decide) ?_
    rw [hQ]
    exact g_iret (wd := wC G ad) hx hb hr rfl hlocks hW hS (by subst ex1; refine ⟨?_, ?_⟩ <;> rw [if_pos (by assumption)]) dX5_back_9

set_option maxHeartbeats 4000000 in
set_option maxRecDepth 100000 in
theorem c_X5_count (l : Launch) (D : va_G) (G : Nat → ClassId) (ad : Nat → Nat → Nat) (hI : wI LC ad) (I : St) (w : Int32) : Met l yX5_count wsX5_count ({ frames := 5, cells := 0, slots := 0, locals := 113 } : Room) (gPre D G LC ad [.ref (ad 0 (0)), .int (w)] (wC G ad I)) (gQi D LC ad (wC G ad) (fun r9 u => r9 = cnv I w ∧ Sm gC I u)) 0 0 (wA LC ad) := by
  refine g_entry (C := RX5) (cc := cX5_count) (maxL := 2) (ret := (some .int)) rfl (by decide) rfl (Nat.le_of_ble_eq_true rfl) (fun p e s m args below meth c Q ls hQ hx hb hr hts hown hlocks hml hW hK hl => ?_)
  have hl : lv_has ls 2 [(0, .ref (ad 0 (0))), (1, .int (w))] := hl
  have hS := va_S.rf (A := wA LC ad) (H0 := s.heap)
  have hinX2 : ∀ w ∈ wsX20, w ∈ wsX5_count := by decide +kernel
  have hinX5 : ∀ w ∈ wsX50, w ∈ wsX5_count := by decide +kernel
  have hf10 := hts (.fieldLink RX5 10 "JoinedStores" "now" "LJoinedStores$Network;") (by decide +kernel)
  have hf32 := hts (.fieldLink RX5 32 "JoinedStores" "all" "LJoinedStores$Store;") (by decide +kernel)
  have hf51 := hts (.fieldLink RX5 51 "JoinedStores$Network" "dots" "LJoinedStores$Dots;") (by decide +kernel)
  have hf68 := hts (.fieldLink RX5 68 "JoinedStores$Network" "stores" "[LJoinedStores$Store;") (by decide +kernel)
  have hf148 := hts (.fieldLink RX5 148 "JoinedStores$Network" "waits" "I") (by decide +kernel)
  refine lv_iload_n hx hb dX5_count_0 rfl (lv_at hl 1 rfl) ?_
  by_cases c1_0_0 : w = nI 0
  · refine lv_tableIn (tgt := 36) (off := 35) hx hb dX5_count_1 (by rw [c1_0_0]; decide) (by rw [c1_0_0]; decide) (by rw [c1_0_0]; rfl) (by decide) ?_
    refine lv_aload_n hx hb dX5_count_36 rfl (lv_at hl 0 rfl) ?_
    refine r_get hx hb hts hown hK hW 0 (0) 0 (mC (by decide) (by decide)) rfl rfl hinX5 (by decide) hf10 rfl rfl dX5_count_37 ?_
    refine r_get hx hb hts hown hK hW 1 (0) 0 (mC (by decide) (by decide)) rfl rfl hinX2 (by decide) hf51 rfl rfl dX5_count_40 ?_
    refine g_ci (va_runV (As := []) (rest := []) ⟨hx, hb, hml, hown, hts⟩ (c_X0_madeInAll l D G ad hI I  ) (cwV 0 hts gX5_count_X0_madeInAll rfl rfl rfl (by decide +kernel) ⟨Nat.le_of_ble_eq_true rfl, Nat.le_of_ble_eq_true rfl⟩) (g_preV hK hW 5 (0) (mC (by decide) (by decide)) rfl rfl) rfl rfl hl.1 rfl (lv_room (Nat.le_of_ble_eq_true rfl)) dX5_count_43 ⟨Nat.le_refl _, Nat.le_refl _⟩) hS (fun x2 I2 H locs hp hW hS => ?_)
    obtain ⟨ex2, eI2⟩ := hp
    rw [eI2] at hW
    clear eI2
    rw [hQ]
    exact g_iret (wd := wC G ad) hx hb hr rfl hlocks hW hS (by subst ex2; refine ⟨?_, Sm.rf⟩; simp only [cnv]; (repeat' split) <;> first | contradiction | rfl) dX5_count_46
  by_cases c1_0_1 : w = nI 1
  · refine lv_tableIn (tgt := 47) (off := 46) hx hb dX5_count_1 (by rw [c1_0_1]; decide) (by rw [c1_0_1]; decide) (by rw [c1_0_1]; rfl) (by decide) ?_
    refine lv_aload_n hx hb dX5_count_47 rfl (lv_at hl 0 rfl) ?_
    refine r_get hx hb hts hown hK hW 0 (0) 0 (mC (by decide) (by decide)) rfl rfl hinX5 (by decide) hf10 rfl rfl dX5_count_48 ?_
    refine r_get hx hb hts hown hK hW 1 (0) 6 (mC (by decide) (by decide)) rfl rfl hinX2 (by decide) hf148 rfl rfl dX5_count_51 (lv_topi (fun x3 ex3 => ?_))
    rw [hQ]
    exact g_iret (wd := wC G ad) hx hb hr rfl hlocks hW hS (by subst ex3; refine ⟨?_, Sm.rf⟩; simp only [cnv]; (repeat' split) <;> first | contradiction | rfl) dX5_count_54
  by_cases c1_0_2 : w = nI 2
  · refine lv_tableIn (tgt := 55) (off := 54) hx hb dX5_count_1 (by rw [c1_0_2]; decide) (by rw [c1_0_2]; decide) (by rw [c1_0_2]; rfl) (by decide) ?_
    refine lv_aload_n hx hb dX5_count_55 rfl (lv_at hl 0 rfl) ?_
    refine lv_aload_n hx hb dX5_count_56 rfl (lv_at hl 0 rfl) ?_
    refine r_get hx hb hts hown hK hW 0 (0) 0 (mC (by decide) (by decide)) rfl rfl hinX5 (by decide) hf10 rfl rfl dX5_count_57 ?_
    refine r_get hx hb hts hown hK hW 1 (0) 2 (mC (by decide) (by decide)) rfl rfl hinX2 (by decide) hf68 rfl rfl dX5_count_60 ?_
    refine g_ci (va_runV (As := [.ref (ad 3 (0))]) (rest := []) ⟨hx, hb, hml, hown, hts⟩ (c_X5_alikeAll_now l D G ad hI I  ) (cwV 1 hts gX5_count_X5_alikeAll rfl rfl rfl (by decide +kernel) ⟨Nat.le_of_ble_eq_true rfl, Nat.le_of_ble_eq_true rfl⟩) (g_preV hK hW 0 (0) (mC (by decide) (by decide)) rfl rfl) rfl rfl hl.1 rfl (lv_room (Nat.le_of_ble_eq_true rfl)) dX5_count_63 ⟨Nat.le_refl _, Nat.le_refl _⟩) hS (fun x4 I4 H locs hp hW hS => ?_)
    obtain ⟨ex4, eI4⟩ := hp
    refine r_top ex4 ?_
    rw [hQ]
    exact g_iret (wd := wC G ad) hx hb hr rfl hlocks hW hS (by subst eI4 ex4; refine ⟨?_, Sm.mtP Sm.rf 0 4⟩; simp only [cnv]; (repeat' split) <;> first | contradiction | rfl) dX5_count_66
  by_cases c1_0_3 : w = nI 3
  · refine lv_tableIn (tgt := 67) (off := 66) hx hb dX5_count_1 (by rw [c1_0_3]; decide) (by rw [c1_0_3]; decide) (by rw [c1_0_3]; rfl) (by decide) ?_
    refine lv_aload_n hx hb dX5_count_67 rfl (lv_at hl 0 rfl) ?_
    refine lv_aload_n hx hb dX5_count_68 rfl (lv_at hl 0 rfl) ?_
    refine r_get hx hb hts hown hK hW 0 (0) 0 (mC (by decide) (by decide)) rfl rfl hinX5 (by decide) hf10 rfl rfl dX5_count_69 ?_
    refine r_get hx hb hts hown hK hW 1 (0) 2 (mC (by decide) (by decide)) rfl rfl hinX2 (by decide) hf68 rfl rfl dX5_count_72 ?_
    refine g_cv (va_runV (As := [.ref (ad 3 (0))]) (rest := []) ⟨hx, hb, hml, hown, hts⟩ (c_X5_meet_now l D G ad hI I  ) (cwV 1 hts gX5_count_X5_meet rfl rfl rfl (by decide +kernel) ⟨Nat.le_of_ble_eq_true rfl, Nat.le_of_ble_eq_true rfl⟩) (g_preV hK hW 0 (0) (mC (by decide) (by decide)) rfl rfl) rfl rfl hl.1 rfl (lv_room (Nat.le_of_ble_eq_true rfl)) dX5_count_75 ⟨Nat.le_refl _, Nat.le_refl _⟩) hS (fun I5 H locs hp hW hS => ?_)
    have eI5 : I5 = mtP I 0 4 := hp
    refine lv_aload_n hx hb dX5_count_78 rfl (lv_at hl 0 rfl) ?_
    refine r_get hx hb hts hown hK hW 0 (0) 5 (mC (by decide) (by decide)) rfl rfl hinX5 (by decide) hf32 rfl rfl dX5_count_79 ?_
    refine g_ci (va_runV (As := []) (rest := []) ⟨hx, hb, hml, hown, hts⟩ (c_X4_aliveInAll l D G ad hI I5 32 (by decide)) (cwV 0 hts gX5_count_X4_aliveInAll rfl rfl rfl (by decide +kernel) ⟨Nat.le_of_ble_eq_true rfl, Nat.le_of_ble_eq_true rfl⟩) (g_preV hK hW 4 (32) (mC (by decide) (by decide)) rfl rfl) rfl rfl hl.1 rfl (lv_room (Nat.le_of_ble_eq_true rfl)) dX5_count_82 ⟨Nat.le_refl _, Nat.le_refl _⟩) hS (fun x6 I6 H locs hp hW hS => ?_)
    obtain ⟨ex6, eI6⟩ := hp
    rw [eI6] at hW
    clear eI6
    rw [hQ]
    exact g_iret (wd := wC G ad) hx hb hr rfl hlocks hW hS (by subst ex6 eI5; refine ⟨?_, Sm.mtP Sm.rf 0 4⟩; simp only [cnv]; (repeat' split) <;> first | contradiction | rfl) dX5_count_85
  by_cases c1_0_4 : w = nI 4
  · refine lv_tableIn (tgt := 86) (off := 85) hx hb dX5_count_1 (by rw [c1_0_4]; decide) (by rw [c1_0_4]; decide) (by rw [c1_0_4]; rfl) (by decide) ?_
    refine lv_aload_n hx hb dX5_count_86 rfl (lv_at hl 0 rfl) ?_
    refine r_get hx hb hts hown hK hW 0 (0) 0 (mC (by decide) (by decide)) rfl rfl hinX5 (by decide) hf10 rfl rfl dX5_count_87 ?_
    refine g_ci (va_runV (As := []) (rest := []) ⟨hx, hb, hml, hown, hts⟩ (c_X2_tagsInAll l D G ad hI I  ) (cwV 0 hts gX5_count_X2_tagsInAll rfl rfl rfl (by decide +kernel) ⟨Nat.le_of_ble_eq_true rfl, Nat.le_of_ble_eq_true rfl⟩) (g_preV hK hW 1 (0) (mC (by decide) (by decide)) rfl rfl) rfl rfl hl.1 rfl (lv_room (Nat.le_of_ble_eq_true rfl)) dX5_count_90 ⟨Nat.le_refl _, Nat.le_refl _⟩) hS (fun x7 I7 H locs hp hW hS => ?_)
    obtain ⟨ex7, eI7⟩ := hp
    rw [eI7] at hW
    clear eI7
    rw [hQ]
    exact g_iret (wd := wC G ad) hx hb hr rfl hlocks hW hS (by subst ex7; refine ⟨?_, Sm.rf⟩; simp only [cnv]; (repeat' split) <;> first | contradiction | rfl) dX5_count_93
  refine lv_tableOut (tgt := 94) hx hb dX5_count_1 (sw_rng 0 4 (by decide) (fun j h1 h2 => by rcases (by omega : j = 0 ∨ j = 1 ∨ j = 2 ∨ j = 3 ∨ j = 4) with rfl | rfl | rfl | rfl | rfl <;> assumption)) (by decide) ?_
  refine lv_bipush (v := (-2)) hx hb dX5_count_94 (by decide) ?_
  rw [hQ]
  exact g_iret (wd := wC G ad) hx hb hr rfl hlocks hW hS (by skip; refine ⟨?_, Sm.rf⟩; simp only [cnv]; (repeat' split) <;> first | contradiction | rfl) dX5_count_96

set_option maxHeartbeats 4000000 in
set_option maxRecDepth 100000 in
theorem c_X5_sheet (l : Launch) (D : va_G) (G : Nat → ClassId) (ad : Nat → Nat → Nat) (hI : wI LC ad) (I : St) (k so n0 : Int32) : Met l yX5_sheet wsX5_sheet ({ frames := 1, cells := 0, slots := 0, locals := 23 } : Room) (gPre D G LC ad [.ref (ad 0 (0)), .int (k), .int (so), .int (n0)] (wC G ad I)) (gQi D LC ad (wC G ad) (fun r9 u => r9 = (if (okN (nI 4) k && okR (-1) (nI 1) so) = true then (if so = -1 then nI 1 else if nI 40 < n0 then -2 else if n0 < 0 then -14 else nI 1) else -2) ∧ u = (if (okN (nI 4) k && okR (-1) (nI 1) so) = true then shv I (tn k) so n0 else I))) 0 0 (wA LC ad) := by
  refine g_entry (C := RX5) (cc := cX5_sheet) (maxL := 4) (ret := (some .int)) rfl (by decide) rfl (Nat.le_of_ble_eq_true rfl) (fun p e s m args below meth c Q ls hQ hx hb hr hts hown hlocks hml hW hK hl => ?_)
  have hl : lv_has ls 4 [(0, .ref (ad 0 (0))), (1, .int (k)), (2, .int (so)), (3, .int (n0))] := hl
  have hS := va_S.rf (A := wA LC ad) (H0 := s.heap)
  have hinX5 : ∀ w ∈ wsX50, w ∈ wsX5_sheet := by decide +kernel
  have hf21 := hts (.fieldLink RX5 21 "JoinedStores" "sheets" "[LJoinedStores$Sheet;") (by decide +kernel)
  refine lv_iload_n hx hb dX5_sheet_0 rfl (lv_at hl 1 rfl) ?_
  refine g_pi (va_runS (As := [.int (k)]) (rest := []) ⟨hx, hb, hml, hown, hts⟩ (c_X5_isSheet l k) (va_cwS 1 hts gX5_sheet_X5_isSheet rfl rfl rfl (by decide +kernel) ⟨Nat.le_of_ble_eq_true rfl, Nat.le_of_ble_eq_true rfl⟩) p_preS rfl rfl hl.1 rfl (lv_room (Nat.le_of_ble_eq_true rfl)) dX5_sheet_1 ⟨Nat.le_refl _, Nat.le_refl _⟩) hW hS (fun H locs hW hS => ?_)
  refine lv_if_eq (tgt := 17) hx hb dX5_sheet_4 (by decide) (fun c4_0 => ?_) (fun c4_0 => ?_)
  · replace c4_0 := bI_0.mp c4_0
    try simp only [decide_eq_true_eq, decide_eq_false_iff_not] at c4_0
    refine lv_bipush (v := (-2)) hx hb dX5_sheet_17 (by decide) ?_
    rw [hQ]
    exact g_iret (wd := wC G ad) hx hb hr rfl hlocks hW hS (by refine ⟨?_, ?_⟩ <;> simp [c4_0]) dX5_sheet_19
  · replace c4_0 := bI_1.mp c4_0
    obtain ⟨kN, hkN, ekN⟩ := okN_nI (k := 4) (by decide) c4_0
    subst ekN
    have t_kN : tn (nI kN) = kN := tn_nI (by omega)
    have k_kN : okN (nI 4) (nI kN) = true := okN_of (by decide) hkN
    refine lv_iload_n hx hb dX5_sheet_7 rfl (lv_at hl 2 rfl) ?_
    refine lv_iconst (v := (-1)) hx hb dX5_sheet_8 (by decide) ?_
    refine lv_icmp_lt (tgt := 17) hx hb dX5_sheet_9 (by decide) (fun c9_1 => ?_) (fun c9_1 => ?_)
    · have k9 : okR (-1) (nI 1) so = false := okR_a c9_1
      refine lv_bipush (v := (-2)) hx hb dX5_sheet_17 (by decide) ?_
      rw [hQ]
      exact g_iret (wd := wC G ad) hx hb hr rfl hlocks hW hS (by refine ⟨?_, ?_⟩ <;> simp [k_kN, k9]) dX5_sheet_19
    · refine lv_iload_n hx hb dX5_sheet_12 rfl (lv_at hl 2 rfl) ?_
      refine lv_iconst (v := nI 1) hx hb dX5_sheet_13 (by decide) ?_
      refine lv_icmp_le (tgt := 20) hx hb dX5_sheet_14 (by decide) (fun c14_2 => ?_) (fun c14_2 => ?_)
      · have k9 : okR (-1) (nI 1) so = true := okR_y c9_1 c14_2
        refine lv_iload_n hx hb dX5_sheet_20 rfl (lv_at hl 2 rfl) ?_
        refine lv_iconst (v := (-1)) hx hb dX5_sheet_21 (by decide) ?_
        refine lv_icmp_ne (tgt := 38) hx hb dX5_sheet_22 (by decide) (fun c22_3 => ?_) (fun c22_3 => ?_)
        · refine lv_iload_n hx hb dX5_sheet_38 rfl (lv_at hl 3 rfl) ?_
          refine lv_bipush (v := nI 40) hx hb dX5_sheet_39 (by decide) ?_
          refine lv_icmp_le (tgt := 47) hx hb dX5_sheet_41 (by decide) (fun c41_4 => ?_) (fun c41_4 => ?_)
          · refine lv_iload_n hx hb dX5_sheet_47 rfl (lv_at hl 3 rfl) ?_
            refine lv_if_ge (tgt := 54) hx hb dX5_sheet_48 (by decide) (fun c48_5 => ?_) (fun c48_5 => ?_)
            · refine lv_aload_n hx hb dX5_sheet_54 rfl (lv_at hl 0 rfl) ?_
              refine r_get hx hb hts hown hK hW 0 (0) 3 (mC (by decide) (by decide)) rfl rfl hinX5 (by decide) hf21 rfl rfl dX5_sheet_55 ?_
              refine lv_iload_n hx hb dX5_sheet_58 rfl (lv_at hl 1 rfl) ?_
              refine r_aald hx hb hK hW 3 2 (0) (kN) (mC (by decide) (by decide)) rfl rfl (show kN < 4 by omega) (by decide) rfl rfl dX5_sheet_59 ?_
              refine lv_iload_n hx hb dX5_sheet_60 rfl (lv_at hl 2 rfl) ?_
              refine lv_iload_n hx hb dX5_sheet_61 rfl (lv_at hl 3 rfl) ?_
              refine g_cv (va_runV (As := [.int (so), .int (n0)]) (rest := []) ⟨hx, hb, hml, hown, hts⟩ (c_X3_become l D G ad hI I kN (show kN < 4 by omega) so n0) (cwV 2 hts gX5_sheet_X3_become rfl rfl rfl (by decide +kernel) ⟨Nat.le_of_ble_eq_true rfl, Nat.le_of_ble_eq_true rfl⟩) (g_preV hK hW 7 (kN) (mC (by decide) (show kN < 4 by omega)) rfl rfl) rfl rfl hl.1 rfl (lv_room (Nat.le_of_ble_eq_true rfl)) dX5_sheet_62 ⟨Nat.le_refl _, Nat.le_refl _⟩) hS (fun I7 H locs hp hW hS => ?_)
              have eI7 : I7 = shb I kN so n0 := hp
              refine lv_iconst (v := nI 1) hx hb dX5_sheet_65 (by decide) ?_
              rw [hQ]
              exact g_iret (wd := wC G ad) hx hb hr rfl hlocks hW hS (by subst eI7; refine ⟨?_, ?_⟩ <;> rw [if_pos (by simp [k_kN, k9])] <;> (try simp only [t_kN]); rw [if_neg (by assumption), if_neg (Int32.not_lt.mpr (by assumption)), if_neg (Int32.not_lt.mpr (by assumption))]; rw [shv, if_neg (by assumption), if_neg (fun q9 => q9.elim (Int32.not_lt.mpr (by assumption)) (Int32.not_lt.mpr (by assumption)))]) dX5_sheet_66
            · refine lv_bipush (v := (-14)) hx hb dX5_sheet_51 (by decide) ?_
              rw [hQ]
              exact g_iret (wd := wC G ad) hx hb hr rfl hlocks hW hS (by refine ⟨?_, ?_⟩ <;> rw [if_pos (by simp [k_kN, k9])] <;> (try simp only [t_kN]); rw [if_neg (by assumption), if_neg (Int32.not_lt.mpr (by assumption)), if_pos (Int32.not_le.mp (by assumption))]; rw [shv, if_neg (by assumption), if_pos (Or.inr (Int32.not_le.mp (by assumption)))]) dX5_sheet_53
          · refine lv_bipush (v := (-2)) hx hb dX5_sheet_44 (by decide) ?_
            rw [hQ]
            exact g_iret (wd := wC G ad) hx hb hr rfl hlocks hW hS (by refine ⟨?_, ?_⟩ <;> rw [if_pos (by simp [k_kN, k9])] <;> (try simp only [t_kN]); rw [if_neg (by assumption), if_pos (Int32.not_le.mp (by assumption))]; rw [shv, if_neg (by assumption), if_pos (Or.inl (Int32.not_le.mp (by assumption)))]) dX5_sheet_46
        · refine lv_aload_n hx hb dX5_sheet_25 rfl (lv_at hl 0 rfl) ?_
          refine r_get hx hb hts hown hK hW 0 (0) 3 (mC (by decide) (by decide)) rfl rfl hinX5 (by decide) hf21 rfl rfl dX5_sheet_26 ?_
          refine lv_iload_n hx hb dX5_sheet_29 rfl (lv_at hl 1 rfl) ?_
          refine r_aald hx hb hK hW 3 2 (0) (kN) (mC (by decide) (by decide)) rfl rfl (show kN < 4 by omega) (by decide) rfl rfl dX5_sheet_30 ?_
          refine lv_iconst (v := (-1)) hx hb dX5_sheet_31 (by decide) ?_
          refine lv_iconst (v := nI 0) hx hb dX5_sheet_32 (by decide) ?_
          refine g_cv (va_runV (As := [.int ((-1)), .int (nI (0))]) (rest := []) ⟨hx, hb, hml, hown, hts⟩ (c_X3_become l D G ad hI I kN (show kN < 4 by omega) ((-1)) (nI (0))) (cwV 2 hts gX5_sheet_X3_become rfl rfl rfl (by decide +kernel) ⟨Nat.le_of_ble_eq_true rfl, Nat.le_of_ble_eq_true rfl⟩) (g_preV hK hW 7 (kN) (mC (by decide) (show kN < 4 by omega)) rfl rfl) rfl rfl hl.1 rfl (lv_room (Nat.le_of_ble_eq_true rfl)) dX5_sheet_33 ⟨Nat.le_refl _, Nat.le_refl _⟩) hS (fun I8 H locs hp hW hS => ?_)
          have eI8 : I8 = shb I kN ((-1)) (nI (0)) := hp
          refine lv_iconst (v := nI 1) hx hb dX5_sheet_36 (by decide) ?_
          rw [hQ]
          exact g_iret (wd := wC G ad) hx hb hr rfl hlocks hW hS (by subst eI8; refine ⟨?_, ?_⟩ <;> rw [if_pos (by simp [k_kN, k9])] <;> (try simp only [t_kN]); rw [if_pos (by assumption)]; rw [shv, if_pos (by assumption)]) dX5_sheet_37
      · have k9 : okR (-1) (nI 1) so = false := okR_b (Int32.not_le.mp c14_2)
        refine lv_bipush (v := (-2)) hx hb dX5_sheet_17 (by decide) ?_
        rw [hQ]
        exact g_iret (wd := wC G ad) hx hb hr rfl hlocks hW hS (by refine ⟨?_, ?_⟩ <;> simp [k_kN, k9]) dX5_sheet_19


set_option maxHeartbeats 4000000 in
set_option maxRecDepth 100000 in
theorem c_X5_put (l : Launch) (D : va_G) (G : Nat → ClassId) (ad : Nat → Nat → Nat) (hI : wI LC ad) (I : St) (k j v : Int32) (hSh : okS I) : Met l yX5_put wsX5_put ({ frames := 2, cells := 0, slots := 0, locals := 42 } : Room) (gPre D G LC ad [.ref (ad 0 (0)), .int (k), .int (j), .int (v)] (wC G ad I)) (gQi D LC ad (wC G ad) (fun r9 u => r9 = (if rfi I k j = 0 then nI 1 else rfi I k j) ∧ u = (if rfi I k j = 0 then up3 I 19 (tn k) (tn j) (ptv I (tn k) v) else I))) 0 0 (wA LC ad) := by
  refine g_entry (C := RX5) (cc := cX5_put) (maxL := 6) (ret := (some .int)) rfl (by decide) rfl (Nat.le_of_ble_eq_true rfl) (fun p e s m args below meth c Q ls hQ hx hb hr hts hown hlocks hml hW hK hl => ?_)
  have hl : lv_has ls 6 [(0, .ref (ad 0 (0))), (1, .int (k)), (2, .int (j)), (3, .int (v))] := hl
  have hS := va_S.rf (A := wA LC ad) (H0 := s.heap)
  have hinX3 : ∀ w ∈ wsX30, w ∈ wsX5_put := by decide +kernel
  have hinX5 : ∀ w ∈ wsX50, w ∈ wsX5_put := by decide +kernel
  have hf21 := hts (.fieldLink RX5 21 "JoinedStores" "sheets" "[LJoinedStores$Sheet;") (by decide +kernel)
  have hf256 := hts (.fieldLink RX5 256 "JoinedStores$Sheet" "items" "[I") (by decide +kernel)
  have hf279 := hts (.fieldLink RX5 279 "JoinedStores$Sheet" "sort" "I") (by decide +kernel)
  refine lv_aload_n hx hb dX5_put_0 rfl (lv_at hl 0 rfl) ?_
  refine lv_iload_n hx hb dX5_put_1 rfl (lv_at hl 1 rfl) ?_
  refine lv_iload_n hx hb dX5_put_2 rfl (lv_at hl 2 rfl) ?_
  refine g_ci (va_runV (As := [.int (k), .int (j)]) (rest := []) ⟨hx, hb, hml, hown, hts⟩ (c_X5_refusalOfItem l D G ad hI I k j ) (cwV 2 hts gX5_put_X5_refusalOfItem rfl rfl rfl (by decide +kernel) ⟨Nat.le_of_ble_eq_true rfl, Nat.le_of_ble_eq_true rfl⟩) (g_preV hK hW 0 (0) (mC (by decide) (by decide)) rfl rfl) rfl rfl hl.1 rfl (lv_room (Nat.le_of_ble_eq_true rfl)) dX5_put_3 ⟨Nat.le_refl _, Nat.le_refl _⟩) hS (fun x1 I1 H locs hp hW hS => ?_)
  obtain ⟨ex1, eI1⟩ := hp
  rw [eI1] at hW
  clear eI1
  refine lv_istore (lv' := [(4, .int (x1)), (0, .ref (ad 0 (0))), (1, .int (k)), (2, .int (j)), (3, .int (v))]) hx hb dX5_put_6 hl (by decide) rfl (fun ls hl => ?_)
  refine lv_iload hx hb dX5_put_8 (lv_at hl 0 rfl) ?_
  refine lv_if_eq (tgt := 16) hx hb dX5_put_10 (by decide) (fun c10_1 => ?_) (fun c10_1 => ?_)
  · obtain ⟨kN, jN, hkN, ek, hns, ej, hjl, hl40⟩ := rfi_0 hSh (ex1.symm.trans c10_1)
    subst ek
    subst ej
    have t_kN : tn (nI kN) = kN := tn_nI (by omega)
    have t_jN : tn (nI jN) = jN := tn_nI (by omega)
    refine lv_aload_n hx hb dX5_put_16 rfl (lv_at hl 1 rfl) ?_
    refine r_get hx hb hts hown hK hW 0 (0) 3 (mC (by decide) (by decide)) rfl rfl hinX5 (by decide) hf21 rfl rfl dX5_put_17 ?_
    refine lv_iload_n hx hb dX5_put_20 rfl (lv_at hl 2 rfl) ?_
    refine r_aald hx hb hK hW 3 2 (0) (kN) (mC (by decide) (by decide)) rfl rfl (show kN < 4 by omega) (by decide) rfl rfl dX5_put_21 ?_
    refine lv_astore (lv' := [(5, .ref (ad 7 (kN))), (4, .int (x1)), (0, .ref (ad 0 (0))), (1, .int (nI (kN))), (2, .int (nI (jN))), (3, .int (v))]) hx hb dX5_put_22 hl (by decide) rfl (fun ls hl => ?_)
    refine lv_aload hx hb dX5_put_24 (lv_at hl 0 rfl) ?_
    refine r_get hx hb hts hown hK hW 7 (kN) 2 (mC (by decide) (show kN < 4 by omega)) rfl rfl hinX3 (by decide) hf256 rfl rfl dX5_put_26 ?_
    refine lv_iload_n hx hb dX5_put_29 rfl (lv_at hl 4 rfl) ?_
    refine lv_aload hx hb dX5_put_30 (lv_at hl 0 rfl) ?_
    refine r_get hx hb hts hown hK hW 7 (kN) 0 (mC (by decide) (show kN < 4 by omega)) rfl rfl hinX3 (by decide) hf279 rfl rfl dX5_put_32 (lv_topi (fun x3 ex3 => ?_))
    refine lv_iconst (v := nI 1) hx hb dX5_put_35 (by decide) ?_
    refine lv_icmp_ne (tgt := 51) hx hb dX5_put_36 (by decide) (fun c36_3 => ?_) (fun c36_3 => ?_)
    · refine lv_iload_n hx hb dX5_put_51 rfl (lv_at hl 5 rfl) ?_
      refine rC_iast hx hb hK hI hW hS 19 (kN) (jN) (by decide) (by decide) (show kN < 4 by omega) (show jN < 40 by omega) rfl dX5_put_52 (fun I5 H locs eI5 hW hS => ?_)
      refine lv_iconst (v := nI 1) hx hb dX5_put_53 (by decide) ?_
      rw [hQ]
      exact g_iret (wd := wC G ad) hx hb hr rfl hlocks hW hS (by subst eI5 ex3 ex1; refine ⟨?_, ?_⟩ <;> rw [if_pos (by assumption)]; simp only [t_kN, t_jN, ptv]; first | rw [if_pos (by assumption)] | rw [if_neg (by assumption)]) dX5_put_54
    · refine lv_iload_n hx hb dX5_put_39 rfl (lv_at hl 5 rfl) ?_
      refine lv_i2f hx hb dX5_put_40 ?_
      refine lv_ldcwf (v := (1090519040)) hx hb hown (hts (.constantFloat RX5 282 (1090519040)) (by decide +kernel)) dX5_put_41 ?_
      refine lv_fdiv hx hb dX5_put_44 (okF_nn (okF_d8 v)) ?_
      refine g_pi (va_runS (As := [.float (FP.fdiv (FP.i2f v) 1090519040)]) (rest := [.int (nI (jN)), .ref (ad 19 (kN))]) ⟨hx, hb, hml, hown, hts⟩ (c_X5_bitsOf l (FP.fdiv (FP.i2f v) 1090519040) (okF_d8 v)) (va_cwS 1 hts gX5_put_X5_bitsOf rfl rfl rfl (by decide +kernel) ⟨Nat.le_of_ble_eq_true rfl, Nat.le_of_ble_eq_true rfl⟩) p_preS rfl rfl hl.1 rfl (lv_room (Nat.le_of_ble_eq_true rfl)) dX5_put_45 ⟨Nat.le_refl _, Nat.le_refl _⟩) hW hS (fun H locs hW hS => ?_)
      refine lv_goto (tgt := 52) hx hb dX5_put_48 (by decide) ?_
      refine rC_iast hx hb hK hI hW hS 19 (kN) (jN) (by decide) (by decide) (show kN < 4 by omega) (show jN < 40 by omega) rfl dX5_put_52 (fun I6 H locs eI6 hW hS => ?_)
      refine lv_iconst (v := nI 1) hx hb dX5_put_53 (by decide) ?_
      rw [hQ]
      exact g_iret (wd := wC G ad) hx hb hr rfl hlocks hW hS (by subst eI6 ex3 ex1; refine ⟨?_, ?_⟩ <;> rw [if_pos (by assumption)]; simp only [t_kN, t_jN, ptv]; first | rw [if_pos (by assumption)] | rw [if_neg (by assumption)]) dX5_put_54
  · refine lv_iload hx hb dX5_put_13 (lv_at hl 0 rfl) ?_
    rw [hQ]
    exact g_iret (wd := wC G ad) hx hb hr rfl hlocks hW hS (by subst ex1; refine ⟨?_, ?_⟩ <;> rw [if_neg (by assumption)]) dX5_put_15

set_option maxHeartbeats 4000000 in
set_option maxRecDepth 100000 in
theorem c_X5_item (l : Launch) (D : va_G) (G : Nat → ClassId) (ad : Nat → Nat → Nat) (hI : wI LC ad) (I : St) (k j : Int32) (hSh : okS I) : Met l yX5_item wsX5_item ({ frames := 2, cells := 0, slots := 0, locals := 42 } : Room) (gPre D G LC ad [.ref (ad 0 (0)), .int (k), .int (j)] (wC G ad I)) (gQl D LC ad (wC G ad) (fun r9 u => r9 = (if rfi I k j = 0 then (I 19 (tn k) (tn j)).toInt64 else -1000000000000 + (rfi I k j).toInt64) ∧ u = I)) 0 0 (wA LC ad) := by
  refine g_entry (C := RX5) (cc := cX5_item) (maxL := 4) (ret := (some .long)) rfl (by decide) rfl (Nat.le_of_ble_eq_true rfl) (fun p e s m args below meth c Q ls hQ hx hb hr hts hown hlocks hml hW hK hl => ?_)
  have hl : lv_has ls 4 [(0, .ref (ad 0 (0))), (1, .int (k)), (2, .int (j))] := hl
  have hS := va_S.rf (A := wA LC ad) (H0 := s.heap)
  have hinX3 : ∀ w ∈ wsX30, w ∈ wsX5_item := by decide +kernel
  have hinX5 : ∀ w ∈ wsX50, w ∈ wsX5_item := by decide +kernel
  have hf21 := hts (.fieldLink RX5 21 "JoinedStores" "sheets" "[LJoinedStores$Sheet;") (by decide +kernel)
  have hf256 := hts (.fieldLink RX5 256 "JoinedStores$Sheet" "items" "[I") (by decide +kernel)
  refine lv_aload_n hx hb dX5_item_0 rfl (lv_at hl 0 rfl) ?_
  refine lv_iload_n hx hb dX5_item_1 rfl (lv_at hl 1 rfl) ?_
  refine lv_iload_n hx hb dX5_item_2 rfl (lv_at hl 2 rfl) ?_
  refine g_ci (va_runV (As := [.int (k), .int (j)]) (rest := []) ⟨hx, hb, hml, hown, hts⟩ (c_X5_refusalOfItem l D G ad hI I k j ) (cwV 2 hts gX5_item_X5_refusalOfItem rfl rfl rfl (by decide +kernel) ⟨Nat.le_of_ble_eq_true rfl, Nat.le_of_ble_eq_true rfl⟩) (g_preV hK hW 0 (0) (mC (by decide) (by decide)) rfl rfl) rfl rfl hl.1 rfl (lv_room (Nat.le_of_ble_eq_true rfl)) dX5_item_3 ⟨Nat.le_refl _, Nat.le_refl _⟩) hS (fun x1 I1 H locs hp hW hS => ?_)
  obtain ⟨ex1, eI1⟩ := hp
  rw [eI1] at hW
  clear eI1
  refine lv_istore_n (lv' := [(3, .int (x1)), (0, .ref (ad 0 (0))), (1, .int (k)), (2, .int (j))]) hx hb dX5_item_6 rfl hl (by decide) rfl (fun ls hl => ?_)
  refine lv_iload_n hx hb dX5_item_7 rfl (lv_at hl 0 rfl) ?_
  refine lv_if_eq (tgt := 18) hx hb dX5_item_8 (by decide) (fun c8_1 => ?_) (fun c8_1 => ?_)
  · obtain ⟨kN, jN, hkN, ek, hns, ej, hjl, hl40⟩ := rfi_0 hSh (ex1.symm.trans c8_1)
    subst ek
    subst ej
    have t_kN : tn (nI kN) = kN := tn_nI (by omega)
    have t_jN : tn (nI jN) = jN := tn_nI (by omega)
    refine lv_aload_n hx hb dX5_item_18 rfl (lv_at hl 1 rfl) ?_
    refine r_get hx hb hts hown hK hW 0 (0) 3 (mC (by decide) (by decide)) rfl rfl hinX5 (by decide) hf21 rfl rfl dX5_item_19 ?_
    refine lv_iload_n hx hb dX5_item_22 rfl (lv_at hl 2 rfl) ?_
    refine r_aald hx hb hK hW 3 2 (0) (kN) (mC (by decide) (by decide)) rfl rfl (show kN < 4 by omega) (by decide) rfl rfl dX5_item_23 ?_
    refine r_get hx hb hts hown hK hW 7 (kN) 2 (mC (by decide) (show kN < 4 by omega)) rfl rfl hinX3 (by decide) hf256 rfl rfl dX5_item_24 ?_
    refine lv_iload_n hx hb dX5_item_27 rfl (lv_at hl 3 rfl) ?_
    refine rC_iald hx hb hK hW 19 (kN) (jN) (by decide) (by decide) (show kN < 4 by omega) (show jN < 40 by omega) rfl dX5_item_28 (fun x3 ex3 => ?_)
    refine lv_i2l hx hb dX5_item_29 rfl ?_
    rw [hQ]
    exact g_lret (wd := wC G ad) hx hb hr hlocks hW hS (by subst ex3 ex1; refine ⟨?_, rfl⟩; rw [if_pos (by assumption)]; simp only [t_kN, t_jN]) dX5_item_30
  · refine lv_ldc2 (v := (-1000000000000)) hx hb hown (hts (.constantLong RX5 287 (-1000000000000)) (by decide +kernel)) dX5_item_11 ?_
    refine lv_iload_n hx hb dX5_item_14 rfl (lv_at hl 0 rfl) ?_
    refine lv_i2l hx hb dX5_item_15 rfl ?_
    refine lv_ladd hx hb dX5_item_16 ?_
    rw [hQ]
    exact g_lret (wd := wC G ad) hx hb hr hlocks hW hS (by subst ex1; refine ⟨?_, rfl⟩; rw [if_neg (by assumption)]) dX5_item_17

set_option maxHeartbeats 4000000 in
set_option maxRecDepth 100000 in
theorem c_X5_copy (l : Launch) (D : va_G) (G : Nat → ClassId) (ad : Nat → Nat → Nat) (hI : wI LC ad) (I : St) (k i o j n0 : Int32) (hSh : okS I) : Met l yX5_copy wsX5_copy ({ frames := 1, cells := 0, slots := 0, locals := 64 } : Room) (gPre D G LC ad [.ref (ad 0 (0)), .int (k), .int (i), .int (o), .int (j), .int (n0)] (wC G ad I)) (gQi D LC ad (wC G ad) (fun r9 u => r9 = (if (okN (nI 4) k && okN (nI 4) o) = true then cpr I (tn k) i (tn o) j n0 else -2) ∧ u = (if (okN (nI 4) k && okN (nI 4) o) = true then cps I (tn k) i (tn o) j n0 else I))) 0 0 (wA LC ad) := by
  refine g_entry (C := RX5) (cc := cX5_copy) (maxL := 8) (ret := (some .int)) rfl (by decide) rfl (Nat.le_of_ble_eq_true rfl) (fun p e s m args below meth c Q ls hQ hx hb hr hts hown hlocks hml hW hK hl => ?_)
  have hl : lv_has ls 8 [(0, .ref (ad 0 (0))), (1, .int (k)), (2, .int (i)), (3, .int (o)), (4, .int (j)), (5, .int (n0))] := hl
  have hS := va_S.rf (A := wA LC ad) (H0 := s.heap)
  have hinX3 : ∀ w ∈ wsX30, w ∈ wsX5_copy := by decide +kernel
  have hinX5 : ∀ w ∈ wsX50, w ∈ wsX5_copy := by decide +kernel
  have hf21 := hts (.fieldLink RX5 21 "JoinedStores" "sheets" "[LJoinedStores$Sheet;") (by decide +kernel)
  have hf256 := hts (.fieldLink RX5 256 "JoinedStores$Sheet" "items" "[I") (by decide +kernel)
  have hf279 := hts (.fieldLink RX5 279 "JoinedStores$Sheet" "sort" "I") (by decide +kernel)
  refine lv_iload_n hx hb dX5_copy_0 rfl (lv_at hl 1 rfl) ?_
  refine g_pi (va_runS (As := [.int (k)]) (rest := []) ⟨hx, hb, hml, hown, hts⟩ (c_X5_isSheet l k) (va_cwS 1 hts gX5_copy_X5_isSheet rfl rfl rfl (by decide +kernel) ⟨Nat.le_of_ble_eq_true rfl, Nat.le_of_ble_eq_true rfl⟩) p_preS rfl rfl hl.1 rfl (lv_room (Nat.le_of_ble_eq_true rfl)) dX5_copy_1 ⟨Nat.le_refl _, Nat.le_refl _⟩) hW hS (fun H locs hW hS => ?_)
  refine lv_if_eq (tgt := 14) hx hb dX5_copy_4 (by decide) (fun c4_0 => ?_) (fun c4_0 => ?_)
  · replace c4_0 := bI_0.mp c4_0
    try simp only [decide_eq_true_eq, decide_eq_false_iff_not] at c4_0
    refine lv_bipush (v := (-2)) hx hb dX5_copy_14 (by decide) ?_
    rw [hQ]
    exact g_iret (wd := wC G ad) hx hb hr rfl hlocks hW hS (by skip; refine ⟨?_, ?_⟩ <;> simp [c4_0]) dX5_copy_16
  · replace c4_0 := bI_1.mp c4_0
    obtain ⟨kN, hkN, ekN⟩ := okN_nI (k := 4) (by decide) c4_0
    subst ekN
    have t_kN : tn (nI kN) = kN := tn_nI (by omega)
    have k_kN : okN (nI 4) (nI kN) = true := okN_of (by decide) hkN
    refine lv_iload_n hx hb dX5_copy_7 rfl (lv_at hl 3 rfl) ?_
    refine g_pi (va_runS (As := [.int (o)]) (rest := []) ⟨hx, hb, hml, hown, hts⟩ (c_X5_isSheet l o) (va_cwS 1 hts gX5_copy_X5_isSheet rfl rfl rfl (by decide +kernel) ⟨Nat.le_of_ble_eq_true rfl, Nat.le_of_ble_eq_true rfl⟩) p_preS rfl rfl hl.1 rfl (lv_room (Nat.le_of_ble_eq_true rfl)) dX5_copy_8 ⟨Nat.le_refl _, Nat.le_refl _⟩) hW hS (fun H locs hW hS => ?_)
    refine lv_if_ne (tgt := 17) hx hb dX5_copy_11 (by decide) (fun c11_1 => ?_) (fun c11_1 => ?_)
    · replace c11_1 := bI_1.mp c11_1
      obtain ⟨oN, hoN, eoN⟩ := okN_nI (k := 4) (by decide) c11_1
      subst eoN
      have t_oN : tn (nI oN) = oN := tn_nI (by omega)
      have k_oN : okN (nI 4) (nI oN) = true := okN_of (by decide) hoN
      refine lv_aload_n hx hb dX5_copy_17 rfl (lv_at hl 0 rfl) ?_
      refine r_get hx hb hts hown hK hW 0 (0) 3 (mC (by decide) (by decide)) rfl rfl hinX5 (by decide) hf21 rfl rfl dX5_copy_18 ?_
      refine lv_iload_n hx hb dX5_copy_21 rfl (lv_at hl 1 rfl) ?_
      refine r_aald hx hb hK hW 3 2 (0) (kN) (mC (by decide) (by decide)) rfl rfl (show kN < 4 by omega) (by decide) rfl rfl dX5_copy_22 ?_
      refine lv_astore (lv' := [(6, .ref (ad 7 (kN))), (0, .ref (ad 0 (0))), (1, .int (nI (kN))), (2, .int (i)), (3, .int (nI (oN))), (4, .int (j)), (5, .int (n0))]) hx hb dX5_copy_23 hl (by decide) rfl (fun ls hl => ?_)
      refine lv_aload_n hx hb dX5_copy_25 rfl (lv_at hl 1 rfl) ?_
      refine r_get hx hb hts hown hK hW 0 (0) 3 (mC (by decide) (by decide)) rfl rfl hinX5 (by decide) hf21 rfl rfl dX5_copy_26 ?_
      refine lv_iload_n hx hb dX5_copy_29 rfl (lv_at hl 4 rfl) ?_
      refine r_aald hx hb hK hW 3 2 (0) (oN) (mC (by decide) (by decide)) rfl rfl (show oN < 4 by omega) (by decide) rfl rfl dX5_copy_30 ?_
      refine lv_astore (lv' := [(7, .ref (ad 7 (oN))), (6, .ref (ad 7 (kN))), (0, .ref (ad 0 (0))), (1, .int (nI (kN))), (2, .int (i)), (3, .int (nI (oN))), (4, .int (j)), (5, .int (n0))]) hx hb dX5_copy_31 hl (by decide) rfl (fun ls hl => ?_)
      refine lv_aload hx hb dX5_copy_33 (lv_at hl 1 rfl) ?_
      refine g_ci (va_runV (As := []) (rest := []) ⟨hx, hb, hml, hown, hts⟩ (c_X3_isMissing l D G ad hI I kN (show kN < 4 by omega)) (cwV 0 hts gX5_copy_X3_isMissing rfl rfl rfl (by decide +kernel) ⟨Nat.le_of_ble_eq_true rfl, Nat.le_of_ble_eq_true rfl⟩) (g_preV hK hW 7 (kN) (mC (by decide) (show kN < 4 by omega)) rfl rfl) rfl rfl hl.1 rfl (lv_room (Nat.le_of_ble_eq_true rfl)) dX5_copy_35 ⟨Nat.le_refl _, Nat.le_refl _⟩) hS (fun x3 I3 H locs hp hW hS => ?_)
      obtain ⟨ex3, eI3⟩ := hp
      rw [eI3] at hW
      clear eI3
      refine lv_if_ne (tgt := 49) hx hb dX5_copy_38 (by decide) (fun c38_3 => ?_) (fun c38_3 => ?_)
      · rw [ex3] at c38_3
        replace c38_3 := bI_1.mp c38_3
        try simp only [decide_eq_true_eq, decide_eq_false_iff_not] at c38_3
        refine lv_bipush (v := (-11)) hx hb dX5_copy_49 (by decide) ?_
        rw [hQ]
        exact g_iret (wd := wC G ad) hx hb hr rfl hlocks hW hS (by refine ⟨?_, ?_⟩ <;> rw [if_pos (by simp [k_kN, k_oN, c38_3])] <;> simp only [t_kN, t_oN, cpr, cps] <;> rw [if_pos (by first | (left; assumption) | (right; assumption))]) dX5_copy_51
      · rw [ex3] at c38_3
        replace c38_3 := bI_0.mp c38_3
        try simp only [decide_eq_true_eq, decide_eq_false_iff_not] at c38_3
        refine lv_aload hx hb dX5_copy_41 (lv_at hl 0 rfl) ?_
        refine g_ci (va_runV (As := []) (rest := []) ⟨hx, hb, hml, hown, hts⟩ (c_X3_isMissing l D G ad hI I oN (show oN < 4 by omega)) (cwV 0 hts gX5_copy_X3_isMissing rfl rfl rfl (by decide +kernel) ⟨Nat.le_of_ble_eq_true rfl, Nat.le_of_ble_eq_true rfl⟩) (g_preV hK hW 7 (oN) (mC (by decide) (show oN < 4 by omega)) rfl rfl) rfl rfl hl.1 rfl (lv_room (Nat.le_of_ble_eq_true rfl)) dX5_copy_43 ⟨Nat.le_refl _, Nat.le_refl _⟩) hS (fun x5 I5 H locs hp hW hS => ?_)
        obtain ⟨ex5, eI5⟩ := hp
        rw [eI5] at hW
        clear eI5
        refine lv_if_eq (tgt := 52) hx hb dX5_copy_46 (by decide) (fun c46_5 => ?_) (fun c46_5 => ?_)
        · rw [ex5] at c46_5
          replace c46_5 := bI_0.mp c46_5
          try simp only [decide_eq_true_eq, decide_eq_false_iff_not] at c46_5
          refine lv_aload hx hb dX5_copy_52 (lv_at hl 1 rfl) ?_
          refine r_get hx hb hts hown hK hW 7 (kN) 0 (mC (by decide) (show kN < 4 by omega)) rfl rfl hinX3 (by decide) hf279 rfl rfl dX5_copy_54 (lv_topi (fun x7 ex7 => ?_))
          refine lv_aload hx hb dX5_copy_57 (lv_at hl 0 rfl) ?_
          refine r_get hx hb hts hown hK hW 7 (oN) 0 (mC (by decide) (show oN < 4 by omega)) rfl rfl hinX3 (by decide) hf279 rfl rfl dX5_copy_59 (lv_topi (fun x8 ex8 => ?_))
          refine lv_icmp_eq (tgt := 68) hx hb dX5_copy_62 (by decide) (fun c62_8 => ?_) (fun c62_8 => ?_)
          · refine lv_aload hx hb dX5_copy_68 (lv_at hl 1 rfl) ?_
            refine lv_iload_n hx hb dX5_copy_70 rfl (lv_at hl 4 rfl) ?_
            refine lv_iload hx hb dX5_copy_71 (lv_at hl 7 rfl) ?_
            refine g_ci (va_runV (As := [.int (i), .int (n0)]) (rest := []) ⟨hx, hb, hml, hown, hts⟩ (c_X3_holds l D G ad hI I kN ((show kN < 4 by omega)) i n0 ) (cwV 2 hts gX5_copy_X3_holds rfl rfl rfl (by decide +kernel) ⟨Nat.le_of_ble_eq_true rfl, Nat.le_of_ble_eq_true rfl⟩) (g_preV hK hW 7 (kN) (mC (by decide) (show kN < 4 by omega)) rfl rfl) rfl rfl hl.1 rfl (lv_room (Nat.le_of_ble_eq_true rfl)) dX5_copy_73 ⟨Nat.le_refl _, Nat.le_refl _⟩) hS (fun x10 I10 H locs hp hW hS => ?_)
            obtain ⟨ex10, eI10⟩ := hp
            rw [eI10] at hW
            clear eI10
            refine lv_if_eq (tgt := 91) hx hb dX5_copy_76 (by decide) (fun c76_10 => ?_) (fun c76_10 => ?_)
            · rw [ex10] at c76_10
              replace c76_10 := bI_0.mp c76_10
              try simp only [decide_eq_true_eq, decide_eq_false_iff_not] at c76_10
              refine lv_bipush (v := (-12)) hx hb dX5_copy_91 (by decide) ?_
              rw [hQ]
              exact g_iret (wd := wC G ad) hx hb hr rfl hlocks hW hS (by subst ex10 ex8 ex7 ex5 ex3; refine ⟨?_, ?_⟩ <;> rw [if_pos (by simp [k_kN, k_oN, c38_3, c46_5, c76_10])] <;> simp only [t_kN, t_oN, cpr, cps] <;> rw [if_neg (fun q9 => q9.elim (by assumption) (by assumption)), if_neg (fun q9 => q9 (by assumption)), if_pos (by simp [k_kN, k_oN, c38_3, c46_5, c76_10])]) dX5_copy_93
            · rw [ex10] at c76_10
              replace c76_10 := bI_1.mp c76_10
              try simp only [decide_eq_true_eq, decide_eq_false_iff_not] at c76_10
              refine lv_aload hx hb dX5_copy_79 (lv_at hl 0 rfl) ?_
              refine lv_iload hx hb dX5_copy_81 (lv_at hl 6 rfl) ?_
              refine lv_iload hx hb dX5_copy_83 (lv_at hl 7 rfl) ?_
              refine g_ci (va_runV (As := [.int (j), .int (n0)]) (rest := []) ⟨hx, hb, hml, hown, hts⟩ (c_X3_holds l D G ad hI I oN ((show oN < 4 by omega)) j n0 ) (cwV 2 hts gX5_copy_X3_holds rfl rfl rfl (by decide +kernel) ⟨Nat.le_of_ble_eq_true rfl, Nat.le_of_ble_eq_true rfl⟩) (g_preV hK hW 7 (oN) (mC (by decide) (show oN < 4 by omega)) rfl rfl) rfl rfl hl.1 rfl (lv_room (Nat.le_of_ble_eq_true rfl)) dX5_copy_85 ⟨Nat.le_refl _, Nat.le_refl _⟩) hS (fun x12 I12 H locs hp hW hS => ?_)
              obtain ⟨ex12, eI12⟩ := hp
              rw [eI12] at hW
              clear eI12
              refine lv_if_ne (tgt := 94) hx hb dX5_copy_88 (by decide) (fun c88_12 => ?_) (fun c88_12 => ?_)
              · rw [ex12] at c88_12
                replace c88_12 := bI_1.mp c88_12
                try simp only [decide_eq_true_eq, decide_eq_false_iff_not] at c88_12
                obtain ⟨i9, j9, n9, ei, ej, en, hi9, hj9, hi8, hj8⟩ := hld_2 (hSh kN (by omega)) (hSh oN (by omega)) c76_10 c88_12
                subst ei
                have t_i9 : tn (nI i9) = i9 := tn_nI (by omega)
                subst ej
                have t_j9 : tn (nI j9) = j9 := tn_nI (by omega)
                subst en
                have t_n9 : tn (nI n9) = n9 := tn_nI (by omega)
                refine lv_aload hx hb dX5_copy_94 (lv_at hl 1 rfl) ?_
                refine r_get hx hb hts hown hK hW 7 (kN) 2 (mC (by decide) (show kN < 4 by omega)) rfl rfl hinX3 (by decide) hf256 rfl rfl dX5_copy_96 ?_
                refine lv_iload_n hx hb dX5_copy_99 rfl (lv_at hl 4 rfl) ?_
                refine lv_aload hx hb dX5_copy_100 (lv_at hl 0 rfl) ?_
                refine r_get hx hb hts hown hK hW 7 (oN) 2 (mC (by decide) (show oN < 4 by omega)) rfl rfl hinX3 (by decide) hf256 rfl rfl dX5_copy_102 ?_
                refine lv_iload hx hb dX5_copy_105 (lv_at hl 6 rfl) ?_
                refine lv_iload hx hb dX5_copy_107 (lv_at hl 7 rfl) ?_
                refine rC_copy hx hb (hml.trans hl.1.symm) hown (hts (.methodLink RX5 292 arraycopyName) (by decide +kernel)) (hts (.native arraycopyName) (by decide +kernel)) (hts (.static arraycopyName) (by decide +kernel)) (hts (.initialized "java/lang/System") (by decide +kernel)) hK hI hW hS 19 (kN) 19 (oN) (i9) (j9) (n9) (by decide) (by decide) (show kN < 4 by omega) (by decide) (by decide) (show oN < 4 by omega) (show i9 + n9 ≤ 40 by omega) (show j9 + n9 ≤ 40 by omega) rfl rfl rfl (by decide) (by decide) dX5_copy_109 (fun I14 H locs eI14 hW hS => ?_)
                refine lv_iload hx hb dX5_copy_112 (lv_at hl 7 rfl) ?_
                rw [hQ]
                exact g_iret (wd := wC G ad) hx hb hr rfl hlocks hW hS (by subst eI14 ex12 ex10 ex8 ex7 ex5 ex3; refine ⟨?_, ?_⟩ <;> rw [if_pos (by simp [k_kN, k_oN, c38_3, c46_5, c76_10, c88_12])] <;> simp only [t_kN, t_oN, t_i9, t_j9, t_n9, cpr, cps] <;> rw [if_neg (fun q9 => q9.elim (by assumption) (by assumption)), if_neg (fun q9 => q9 (by assumption)), if_neg (by simp [k_kN, k_oN, c38_3, c46_5, c76_10, c88_12])] <;> (try simp only [t_kN, t_oN, t_i9, t_j9, t_n9])) dX5_copy_114
              · rw [ex12] at c88_12
                replace c88_12 := bI_0.mp c88_12
                try simp only [decide_eq_true_eq, decide_eq_false_iff_not] at c88_12
                refine lv_bipush (v := (-12)) hx hb dX5_copy_91 (by decide) ?_
                rw [hQ]
                exact g_iret (wd := wC G ad) hx hb hr rfl hlocks hW hS (by subst ex12 ex10 ex8 ex7 ex5 ex3; refine ⟨?_, ?_⟩ <;> rw [if_pos (by simp [k_kN, k_oN, c38_3, c46_5, c76_10, c88_12])] <;> simp only [t_kN, t_oN, cpr, cps] <;> rw [if_neg (fun q9 => q9.elim (by assumption) (by assumption)), if_neg (fun q9 => q9 (by assumption)), if_pos (by simp [k_kN, k_oN, c38_3, c46_5, c76_10, c88_12])]) dX5_copy_93
          · refine lv_bipush (v := (-13)) hx hb dX5_copy_65 (by decide) ?_
            rw [hQ]
            exact g_iret (wd := wC G ad) hx hb hr rfl hlocks hW hS (by subst ex8 ex7 ex5 ex3; refine ⟨?_, ?_⟩ <;> rw [if_pos (by simp [k_kN, k_oN, c38_3, c46_5])] <;> simp only [t_kN, t_oN, cpr, cps] <;> rw [if_neg (fun q9 => q9.elim (by assumption) (by assumption)), if_pos (by assumption)]) dX5_copy_67
        · rw [ex5] at c46_5
          replace c46_5 := bI_1.mp c46_5
          try simp only [decide_eq_true_eq, decide_eq_false_iff_not] at c46_5
          refine lv_bipush (v := (-11)) hx hb dX5_copy_49 (by decide) ?_
          rw [hQ]
          exact g_iret (wd := wC G ad) hx hb hr rfl hlocks hW hS (by refine ⟨?_, ?_⟩ <;> rw [if_pos (by simp [k_kN, k_oN, c38_3, c46_5])] <;> simp only [t_kN, t_oN, cpr, cps] <;> rw [if_pos (by first | (left; assumption) | (right; assumption))]) dX5_copy_51
    · replace c11_1 := bI_0.mp c11_1
      try simp only [decide_eq_true_eq, decide_eq_false_iff_not] at c11_1
      refine lv_bipush (v := (-2)) hx hb dX5_copy_14 (by decide) ?_
      rw [hQ]
      exact g_iret (wd := wC G ad) hx hb hr rfl hlocks hW hS (by skip; refine ⟨?_, ?_⟩ <;> simp [k_kN, c11_1]) dX5_copy_16
