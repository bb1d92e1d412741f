/-! ===== the model, seven ===== -/
set_option maxHeartbeats 4000000 in
set_option maxRecDepth 100000 in
theorem c_X6_count (l : Launch) (D : va_G) (G : Nat → ClassId) (ad : Nat → Nat → Nat) (hI : wI LM ad) (J : St) (w : Int32) (hT : okT (V J)) : Met l yX6_count wsX6_count ({ frames := 3, cells := 0, slots := 0, locals := 107 } : Room) (gPre D G LM ad [.ref (ad 0 (0)), .int (w)] (wM G ad J)) (gQi D LM ad (wM G ad) (fun r9 u => r9 = cnM J w ∧ Sm gM J u)) 0 0 (wA LM ad) := by
  refine g_entry (C := RX6) (cc := cX6_count) (maxL := 5) (ret := (some .int)) rfl (by decide) rfl (Nat.le_of_ble_eq_true rfl) (fun p e s m args below meth c Q ls hQ hx hb hr hts hown hlocks hml hW hK hl => ?_)
  have hl : lv_has ls 5 [(0, .ref (ad 0 (0))), (1, .int (w))] := hl
  have hS := va_S.rf (A := wA LM ad) (H0 := s.heap)
  have hinX6 : ∀ w ∈ wsX60, w ∈ wsX6_count := by decide +kernel
  have hf9 := hts (.fieldLink RX6 9 "JoinedStoresModel" "made" "[I") (by decide +kernel)
  have hf30 := hts (.fieldLink RX6 30 "JoinedStoresModel" "alive" "[[I") (by decide +kernel)
  have hf92 := hts (.fieldLink RX6 92 "JoinedStoresModel" "letters" "I") (by decide +kernel)
  refine lv_iconst (v := nI 0) hx hb dX6_count_0 (by decide) ?_
  refine lv_istore_n (lv' := [(2, .int (nI (0))), (0, .ref (ad 0 (0))), (1, .int (w))]) hx hb dX6_count_1 rfl hl (by decide) rfl (fun ls hl => ?_)
  refine lv_iload_n hx hb dX6_count_2 rfl (lv_at hl 2 rfl) ?_
  by_cases c3_0_0 : w = nI 0
  · refine lv_tableIn (tgt := 36) (off := 33) hx hb dX6_count_3 (by rw [c3_0_0]; decide) (by rw [c3_0_0]; decide) (by rw [c3_0_0]; rfl) (by decide) ?_
    refine lv_iconst (v := nI 0) hx hb dX6_count_36 (by decide) ?_
    refine lv_istore_n (lv' := [(3, .int (nI (0))), (2, .int (nI (0))), (0, .ref (ad 0 (0))), (1, .int (w))]) hx hb dX6_count_37 rfl hl (by decide) rfl (fun ls hl => ?_)
    have K38 : ∀ (n : Nat) (i : Nat) (d : Int32), (i ≤ 4) → (d = mads J i) → 4 < i + n → ∀ (H : Heap) (locs : List Loc), va_P D vwCl (wS LM ad (wM G ad J)) H → va_S (wA LM ad) s.heap H locs → ∀ (ls : Array Slot), lv_has ls 5 [(3, .int (nI (i))), (2, .int (d)), (0, .ref (ad 0 (0))), (1, .int (w))] → W p l e ({ frames := 3, cells := 0, slots := 0, locals := 107 } : Room) s m args below meth c H locs 0 0 Q (F0 m 38 ls []) := by
      intro n38
      induction n38 with
      | zero => intro i d hi hd hfu; exact absurd hfu (by omega)
      | succ n38 ih38 =>
        intro i d hi hd hfu H locs hW hS ls hl
        refine lv_iload_n hx hb dX6_count_38 rfl (lv_at hl 0 rfl) ?_
        refine lv_iconst (v := nI 4) hx hb dX6_count_39 (by decide) ?_
        refine lv_icmp_ge (tgt := 58) hx hb dX6_count_40 (by decide) (fun c40_1 => ?_) (fun c40_1 => ?_)
        · replace c40_1 : 4 ≤ i := (nI_leI (show 4 < 2147483648 by omega) (show i < 2147483648 by omega)).mp c40_1
          refine lv_iload_n hx hb dX6_count_58 rfl (lv_at hl 1 rfl) ?_
          rw [hQ]
          exact g_iret (wd := wM G ad) hx hb hr rfl hlocks hW hS (by have e4 : i = 4 := (by omega); subst e4; refine ⟨?_, Sm.rf⟩; rw [cnM, if_pos (by assumption)]; exact hd) dX6_count_59
        · replace c40_1 : ¬ (4 ≤ i) := fun h => c40_1 ((nI_leI (show 4 < 2147483648 by omega) (show i < 2147483648 by omega)).mpr h)
          refine lv_iload_n hx hb dX6_count_43 rfl (lv_at hl 1 rfl) ?_
          refine lv_aload_n hx hb dX6_count_44 rfl (lv_at hl 2 rfl) ?_
          refine r_get hx hb hts hown hK hW 0 (0) 0 (mM (by decide) (by decide)) rfl rfl hinX6 (by decide) hf9 rfl rfl dX6_count_45 ?_
          refine lv_iload_n hx hb dX6_count_48 rfl (lv_at hl 0 rfl) ?_
          refine rM_iald hx hb hK hW 12 (0) (i) (by decide) (by decide) (by decide) (show i < 4 by omega) rfl dX6_count_49 (fun x3 ex3 => ?_)
          refine lv_iadd hx hb dX6_count_50 (lv_topi (fun x4 ex4 => ?_))
          refine lv_istore_n (lv' := [(2, .int (x4)), (3, .int (nI (i))), (0, .ref (ad 0 (0))), (1, .int (w))]) hx hb dX6_count_51 rfl hl (by decide) rfl (fun ls hl => ?_)
          refine lv_iinc (v := nI (i + 1)) (lv' := [(3, .int (nI (i + 1))), (2, .int (x4)), (0, .ref (ad 0 (0))), (1, .int (w))]) hx hb dX6_count_52 hl (k := 1) rfl (nI_inc i 1) (by decide) rfl (fun ls hl => ?_)
          refine lv_goto (tgt := 38) hx hb dX6_count_55 (by decide) ?_
          exact ih38 (i + 1) (x4) (by omega) (by subst ex4 ex3; rw [hd]; rfl) (by omega) _ _ hW hS _ (lv_sub hl [0, 1, 2, 3] rfl)
    exact K38 (4 + 1) (0) (nI (0)) (by decide) rfl (by omega) _ _ hW hS _ (lv_sub hl [0, 1, 2, 3] rfl)
  by_cases c3_0_1 : w = nI 1
  · refine lv_tableIn (tgt := 60) (off := 57) hx hb dX6_count_3 (by rw [c3_0_1]; decide) (by rw [c3_0_1]; decide) (by rw [c3_0_1]; rfl) (by decide) ?_
    refine lv_aload_n hx hb dX6_count_60 rfl (lv_at hl 1 rfl) ?_
    refine r_get hx hb hts hown hK hW 0 (0) 8 (mM (by decide) (by decide)) rfl rfl hinX6 (by decide) hf92 rfl rfl dX6_count_61 (lv_topi (fun x5 ex5 => ?_))
    rw [hQ]
    exact g_iret (wd := wM G ad) hx hb hr rfl hlocks hW hS (by subst ex5; refine ⟨?_, Sm.rf⟩; rw [cnM, if_neg (by assumption), if_pos (by assumption)]) dX6_count_64
  by_cases c3_0_2 : w = nI 2
  · refine lv_tableIn (tgt := 65) (off := 62) hx hb dX6_count_3 (by rw [c3_0_2]; decide) (by rw [c3_0_2]; decide) (by rw [c3_0_2]; rfl) (by decide) ?_
    refine lv_aload_n hx hb dX6_count_65 rfl (lv_at hl 1 rfl) ?_
    refine g_cv (va_runV (As := []) (rest := []) ⟨hx, hb, hml, hown, hts⟩ (c_X6_meets l D G ad hI J  ) (cwV 0 hts gX6_count_X6_meets rfl rfl rfl (by decide +kernel) ⟨Nat.le_of_ble_eq_true rfl, Nat.le_of_ble_eq_true rfl⟩) (g_preV hK hW 0 (0) (mM (by decide) (by decide)) rfl rfl) rfl rfl hl.1 rfl (lv_room (Nat.le_of_ble_eq_true rfl)) dX6_count_66 ⟨Nat.le_refl _, Nat.le_refl _⟩) hS (fun I6 H locs hp hW hS => ?_)
    have eI6 : I6 = mtM J 3 := hp
    refine lv_aload_n hx hb dX6_count_69 rfl (lv_at hl 1 rfl) ?_
    refine lv_iconst (v := nI 0) hx hb dX6_count_70 (by decide) ?_
    refine g_ci (va_runV (As := [.int (nI (0))]) (rest := []) ⟨hx, hb, hml, hown, hts⟩ (c_X6_alikeMet l D G ad hI I6 0 (show 0 + 4 ≤ 33 by omega)) (cwV 1 hts gX6_count_X6_alikeMet rfl rfl rfl (by decide +kernel) ⟨Nat.le_of_ble_eq_true rfl, Nat.le_of_ble_eq_true rfl⟩) (g_preV hK hW 0 (0) (mM (by decide) (by decide)) rfl rfl) rfl rfl hl.1 rfl (lv_room (Nat.le_of_ble_eq_true rfl)) dX6_count_71 ⟨Nat.le_refl _, Nat.le_refl _⟩) hS (fun x7 I7 H locs hp hW hS => ?_)
    obtain ⟨ex7, eI7⟩ := hp
    rw [eI7] at hW
    clear eI7
    refine r_top ex7 ?_
    rw [hQ]
    exact g_iret (wd := wM G ad) hx hb hr rfl hlocks hW hS (by subst ex7 eI6; refine ⟨?_, sq_mt Sm.rf 3⟩; rw [cnM, if_neg (by assumption), if_neg (by assumption), if_pos (by assumption)]) dX6_count_74
  by_cases c3_0_3 : w = nI 3
  · refine lv_tableIn (tgt := 75) (off := 72) hx hb dX6_count_3 (by rw [c3_0_3]; decide) (by rw [c3_0_3]; decide) (by rw [c3_0_3]; rfl) (by decide) ?_
    refine lv_aload_n hx hb dX6_count_75 rfl (lv_at hl 1 rfl) ?_
    refine g_cv (va_runV (As := []) (rest := []) ⟨hx, hb, hml, hown, hts⟩ (c_X6_meets l D G ad hI J  ) (cwV 0 hts gX6_count_X6_meets rfl rfl rfl (by decide +kernel) ⟨Nat.le_of_ble_eq_true rfl, Nat.le_of_ble_eq_true rfl⟩) (g_preV hK hW 0 (0) (mM (by decide) (by decide)) rfl rfl) rfl rfl hl.1 rfl (lv_room (Nat.le_of_ble_eq_true rfl)) dX6_count_76 ⟨Nat.le_refl _, Nat.le_refl _⟩) hS (fun I8 H locs hp hW hS => ?_)
    have eI8 : I8 = mtM J 3 := hp
    refine lv_aload_n hx hb dX6_count_79 rfl (lv_at hl 1 rfl) ?_
    refine lv_aload_n hx hb dX6_count_80 rfl (lv_at hl 1 rfl) ?_
    refine r_get hx hb hts hown hK hW 0 (0) 6 (mM (by decide) (by decide)) rfl rfl hinX6 (by decide) hf30 rfl rfl dX6_count_81 ?_
    refine lv_bipush (v := nI 26) hx hb dX6_count_84 (by decide) ?_
    refine r_aaldI hx hb hK hW 1 4 (26) (mM (by decide) (by decide)) rfl (by decide) (by decide) rfl rfl dX6_count_86 ?_
    refine g_ci (va_runV (As := [.ref (ad 11 (26))]) (rest := []) ⟨hx, hb, hml, hown, hts⟩ (c_X6_bitsOf_11 l D G ad hI I8 26 (by decide)) (cwV 1 hts gX6_count_X6_bitsOf rfl rfl rfl (by decide +kernel) ⟨Nat.le_of_ble_eq_true rfl, Nat.le_of_ble_eq_true rfl⟩) (g_preV hK hW 0 (0) (mM (by decide) (by decide)) rfl rfl) rfl rfl hl.1 rfl (lv_room (Nat.le_of_ble_eq_true rfl)) dX6_count_87 ⟨Nat.le_refl _, Nat.le_refl _⟩) hS (fun x9 I9 H locs hp hW hS => ?_)
    obtain ⟨ex9, eI9⟩ := hp
    rw [eI9] at hW
    clear eI9
    rw [hQ]
    exact g_iret (wd := wM G ad) hx hb hr rfl hlocks hW hS (by subst ex9 eI8; refine ⟨?_, sq_mt Sm.rf 3⟩; rw [cnM, if_neg (by assumption), if_neg (by assumption), if_neg (by assumption), if_pos (by assumption)]) dX6_count_90
  by_cases c3_0_4 : w = nI 4
  · refine lv_tableIn (tgt := 91) (off := 88) hx hb dX6_count_3 (by rw [c3_0_4]; decide) (by rw [c3_0_4]; decide) (by rw [c3_0_4]; rfl) (by decide) ?_
    refine lv_iconst (v := nI 0) hx hb dX6_count_91 (by decide) ?_
    refine lv_istore_n (lv' := [(3, .int (nI (0))), (2, .int (nI (0))), (0, .ref (ad 0 (0))), (1, .int (w))]) hx hb dX6_count_92 rfl hl (by decide) rfl (fun ls hl => ?_)
    have K93 : ∀ (n : Nat) (r : Nat) (d : Int32), (r ≤ 4) → (d = tgsM J r) → 4 < r + n → ∀ (H : Heap) (locs : List Loc), va_P D vwCl (wS LM ad (wM G ad J)) H → va_S (wA LM ad) s.heap H locs → ∀ (ls : Array Slot), lv_has ls 5 [(3, .int (nI (r))), (2, .int (d)), (0, .ref (ad 0 (0))), (1, .int (w))] → W p l e ({ frames := 3, cells := 0, slots := 0, locals := 107 } : Room) s m args below meth c H locs 0 0 Q (F0 m 93 ls []) := by
      intro n93
      induction n93 with
      | zero => intro r d hr4 hd hfu; exact absurd hfu (by omega)
      | succ n93 ih93 =>
        intro r d hr4 hd hfu H locs hW hS ls hl
        refine lv_iload_n hx hb dX6_count_93 rfl (lv_at hl 0 rfl) ?_
        refine lv_iconst (v := nI 4) hx hb dX6_count_94 (by decide) ?_
        refine lv_icmp_ge (tgt := 132) hx hb dX6_count_95 (by decide) (fun c95_9 => ?_) (fun c95_9 => ?_)
        · replace c95_9 : 4 ≤ r := (nI_leI (show 4 < 2147483648 by omega) (show r < 2147483648 by omega)).mp c95_9
          refine lv_iload_n hx hb dX6_count_132 rfl (lv_at hl 1 rfl) ?_
          rw [hQ]
          exact g_iret (wd := wM G ad) hx hb hr rfl hlocks hW hS (by have e4 : r = 4 := (by omega); subst e4; refine ⟨?_, Sm.rf⟩; rw [cnM, if_neg (by assumption), if_neg (by assumption), if_neg (by assumption), if_neg (by assumption), if_pos (by assumption)]; exact hd) dX6_count_133
        · replace c95_9 : ¬ (4 ≤ r) := fun h => c95_9 ((nI_leI (show 4 < 2147483648 by omega) (show r < 2147483648 by omega)).mpr h)
          refine lv_iconst (v := nI 0) hx hb dX6_count_98 (by decide) ?_
          refine lv_istore (lv' := [(4, .int (nI (0))), (3, .int (nI (r))), (2, .int (d)), (0, .ref (ad 0 (0))), (1, .int (w))]) hx hb dX6_count_99 hl (by decide) rfl (fun ls hl => ?_)
          have K101 : ∀ (n : Nat) (x : Nat) (q : Int32), (x ≤ 4) → (q = tgrM J r (tgsM J r) x) → 4 < x + n → ∀ (H : Heap) (locs : List Loc), va_P D vwCl (wS LM ad (wM G ad J)) H → va_S (wA LM ad) s.heap H locs → ∀ (ls : Array Slot), lv_has ls 5 [(4, .int (nI (x))), (3, .int (nI (r))), (2, .int (q)), (0, .ref (ad 0 (0))), (1, .int (w))] → W p l e ({ frames := 3, cells := 0, slots := 0, locals := 107 } : Room) s m args below meth c H locs 0 0 Q (F0 m 101 ls []) := by
            intro n101
            induction n101 with
            | zero => intro x q hx4 hq hfu; exact absurd hfu (by omega)
            | succ n101 ih101 =>
              intro x q hx4 hq hfu H locs hW hS ls hl
              refine lv_iload hx hb dX6_count_101 (lv_at hl 0 rfl) ?_
              refine lv_iconst (v := nI 4) hx hb dX6_count_103 (by decide) ?_
              refine lv_icmp_ge (tgt := 126) hx hb dX6_count_104 (by decide) (fun c104_10 => ?_) (fun c104_10 => ?_)
              · replace c104_10 : 4 ≤ x := (nI_leI (show 4 < 2147483648 by omega) (show x < 2147483648 by omega)).mp c104_10
                refine lv_iinc (v := nI (r + 1)) (lv' := [(3, .int (nI (r + 1))), (4, .int (nI (x))), (2, .int (q)), (0, .ref (ad 0 (0))), (1, .int (w))]) hx hb dX6_count_126 hl (k := 1) rfl (nI_inc r 1) (by decide) rfl (fun ls hl => ?_)
                refine lv_goto (tgt := 93) hx hb dX6_count_129 (by decide) ?_
                exact ih93 (r + 1) (q) (by omega) (by have e9 : x = 4 := (by omega); subst e9; exact hq) (by omega) _ _ hW hS _ (lv_sub hl [0, 2, 3, 4] rfl)
              · replace c104_10 : ¬ (4 ≤ x) := fun h => c104_10 ((nI_leI (show 4 < 2147483648 by omega) (show x < 2147483648 by omega)).mpr h)
                refine lv_iload_n hx hb dX6_count_107 rfl (lv_at hl 2 rfl) ?_
                refine lv_aload_n hx hb dX6_count_108 rfl (lv_at hl 3 rfl) ?_
                refine lv_iload_n hx hb dX6_count_109 rfl (lv_at hl 1 rfl) ?_
                refine lv_iload hx hb dX6_count_110 (lv_at hl 0 rfl) ?_
                refine g_ci (va_runV (As := [.int (nI (r)), .int (nI (x))]) (rest := [.int (q)]) ⟨hx, hb, hml, hown, hts⟩ (c_X6_tags l D G ad hI J r x (show r < 4 by omega) (show x < 4 by omega)) (cwV 2 hts gX6_count_X6_tags rfl rfl rfl (by decide +kernel) ⟨Nat.le_of_ble_eq_true rfl, Nat.le_of_ble_eq_true rfl⟩) (g_preV hK hW 0 (0) (mM (by decide) (by decide)) rfl rfl) rfl rfl hl.1 rfl (lv_room (Nat.le_of_ble_eq_true rfl)) dX6_count_112 ⟨Nat.le_refl _, Nat.le_refl _⟩) hS (fun x12 I12 H locs hp hW hS => ?_)
                obtain ⟨ex12, eI12⟩ := hp
                rw [eI12] at hW
                clear eI12
                refine g_pi (va_runS (As := [.int (x12)]) (rest := [.int (q)]) ⟨hx, hb, hml, hown, hts⟩ (c_J6_bitCount_0f7a4 l x12) (va_cwS 1 hts gX6_count_J6_bitCount_0f7a4 rfl rfl rfl (by decide +kernel) ⟨Nat.le_of_ble_eq_true rfl, Nat.le_of_ble_eq_true rfl⟩) p_preS rfl rfl hl.1 rfl (lv_room (Nat.le_of_ble_eq_true rfl)) dX6_count_115 ⟨Nat.le_refl _, Nat.le_refl _⟩) hW hS (fun H locs hW hS => ?_)
                refine lv_iadd hx hb dX6_count_118 (lv_topi (fun x13 ex13 => ?_))
                refine lv_istore_n (lv' := [(2, .int (x13)), (4, .int (nI (x))), (3, .int (nI (r))), (0, .ref (ad 0 (0))), (1, .int (w))]) hx hb dX6_count_119 rfl hl (by decide) rfl (fun ls hl => ?_)
                refine lv_iinc (v := nI (x + 1)) (lv' := [(4, .int (nI (x + 1))), (2, .int (x13)), (3, .int (nI (r))), (0, .ref (ad 0 (0))), (1, .int (w))]) hx hb dX6_count_120 hl (k := 1) rfl (nI_inc x 1) (by decide) rfl (fun ls hl => ?_)
                refine lv_goto (tgt := 101) hx hb dX6_count_123 (by decide) ?_
                exact ih101 (x + 1) (x13) (by omega) (by subst ex13 ex12; rw [hq]; rfl) (by omega) _ _ hW hS _ (lv_sub hl [0, 2, 1, 3, 4] rfl)
          exact K101 (4 + 1) (0) (d) (by decide) hd (by omega) _ _ hW hS _ (lv_sub hl [0, 1, 2, 3, 4] rfl)
    exact K93 (4 + 1) (0) (nI (0)) (by decide) rfl (by omega) _ _ hW hS _ (lv_sub hl [0, 1, 2, 3] rfl)
  refine lv_tableOut (tgt := 134) hx hb dX6_count_3 (sw_rng 0 4 (by decide) (fun j h1 h2 => by rcases (by omega : j = 0 ∨ j = 1 ∨ j = 2 ∨ j = 3 ∨ j = 4) with rfl | rfl | rfl | rfl | rfl <;> assumption)) (by decide) ?_
  refine lv_bipush (v := (-2)) hx hb dX6_count_134 (by decide) ?_
  rw [hQ]
  exact g_iret (wd := wM G ad) hx hb hr rfl hlocks hW hS (by refine ⟨?_, Sm.rf⟩; rw [cnM, if_neg (by assumption), if_neg (by assumption), if_neg (by assumption), if_neg (by assumption), if_neg (by assumption)]) dX6_count_136

set_option maxHeartbeats 4000000 in
set_option maxRecDepth 100000 in
theorem c_X6_all_3_8 (l : Launch) (D : va_G) (G : Nat → ClassId) (ad : Nat → Nat → Nat) (hI : wI LM ad) (J : St)  : Met l yX6_all wsX6_all ({ frames := 1, cells := 0, slots := 0, locals := 64 } : Room) (gPre D G LM ad [.ref (ad 1 (3)), .ref (ad 1 (8))] (wM G ad J)) (gQv D LM ad (wM G ad) (fun u => u = alM J 10 31 33)) 0 0 (wA LM ad) := by
  refine g_entry (C := RX6) (cc := cX6_all) (maxL := 3) (ret := none) rfl (by decide) rfl (Nat.le_of_ble_eq_true rfl) (fun p e s m args below meth c Q ls hQ hx hb hr hts hown hlocks hml hW hK hl => ?_)
  have hl : lv_has ls 3 [(0, .ref (ad 1 (3))), (1, .ref (ad 1 (8)))] := hl
  have hS := va_S.rf (A := wA LM ad) (H0 := s.heap)
  refine lv_iconst (v := nI 0) hx hb dX6_all_0 (by decide) ?_
  refine lv_istore_n (lv' := [(2, .int (nI (0))), (0, .ref (ad 1 (3))), (1, .ref (ad 1 (8)))]) hx hb dX6_all_1 rfl hl (by decide) rfl (fun ls hl => ?_)
  have K2 : ∀ (n : Nat) (i : Nat), (i ≤ 33) → 33 < i + n → ∀ (H : Heap) (locs : List Loc), va_P D vwCl (wS LM ad (wM G ad (alM J 10 31 i))) H → va_S (wA LM ad) s.heap H locs → ∀ (ls : Array Slot), lv_has ls 3 [(2, .int (nI (i))), (0, .ref (ad 1 (3))), (1, .ref (ad 1 (8)))] → W p l e ({ frames := 1, cells := 0, slots := 0, locals := 64 } : Room) s m args below meth c H locs 0 0 Q (F0 m 2 ls []) := by
    intro n2
    induction n2 with
    | zero => intro i hi hfu; exact absurd hfu (by omega)
    | succ n2 ih2 =>
      intro i hi hfu H locs hW hS ls hl
      refine lv_iload_n hx hb dX6_all_2 rfl (lv_at hl 0 rfl) ?_
      refine lv_aload_n hx hb dX6_all_3 rfl (lv_at hl 1 rfl) ?_
      refine r_alenI hx hb hK hW 1 3 (mM (by decide) (by decide)) rfl dX6_all_4 ?_
      refine lv_icmp_ge (tgt := 29) hx hb dX6_all_5 (by decide) (fun c5_0 => ?_) (fun c5_0 => ?_)
      · replace c5_0 : 33 ≤ i := (nI_leI (show 33 < 2147483648 by omega) (show i < 2147483648 by omega)).mp c5_0
        rw [hQ]
        exact g_vret (wd := wM G ad) hx hb hr hlocks hW hS (by have e4 : i = 33 := (by omega); subst e4; rfl) dX6_all_29
      · replace c5_0 : ¬ (33 ≤ i) := fun h => c5_0 ((nI_leI (show 33 < 2147483648 by omega) (show i < 2147483648 by omega)).mpr h)
        refine lv_aload_n hx hb dX6_all_8 rfl (lv_at hl 1 rfl) ?_
        refine lv_iload_n hx hb dX6_all_9 rfl (lv_at hl 0 rfl) ?_
        refine r_aaldI hx hb hK hW 1 3 (i) (mM (by decide) (by decide)) rfl (show i < 33 by omega) (by decide) rfl rfl dX6_all_10 ?_
        refine lv_iconst (v := nI 0) hx hb dX6_all_11 (by decide) ?_
        refine lv_aload_n hx hb dX6_all_12 rfl (lv_at hl 2 rfl) ?_
        refine lv_iload_n hx hb dX6_all_13 rfl (lv_at hl 0 rfl) ?_
        refine r_aaldI hx hb hK hW 1 8 (i) (mM (by decide) (by decide)) rfl (show i < 33 by omega) (by decide) rfl rfl dX6_all_14 ?_
        refine lv_iconst (v := nI 0) hx hb dX6_all_15 (by decide) ?_
        refine lv_aload_n hx hb dX6_all_16 rfl (lv_at hl 1 rfl) ?_
        refine lv_iload_n hx hb dX6_all_17 rfl (lv_at hl 0 rfl) ?_
        refine r_aaldI hx hb hK hW 1 3 (i) (mM (by decide) (by decide)) rfl (show i < 33 by omega) (by decide) rfl rfl dX6_all_18 ?_
        refine r_alen hx hb hK hW 10 (i) (mM (by decide) (show i < 33 by omega)) (wM_arr (by decide)) dX6_all_19 ?_
        refine rM_copy hx hb (hml.trans hl.1.symm) hown (hts (.methodLink RX6 98 arraycopyName) (by decide +kernel)) (hts (.native arraycopyName) (by decide +kernel)) (hts (.static arraycopyName) (by decide +kernel)) (hts (.initialized "java/lang/System") (by decide +kernel)) hK hI hW hS 10 (i) 31 (i) (0) (0) (4) (by decide) (by decide) (show i < 33 by omega) (by decide) (by decide) (show i < 33 by omega) (by decide) (by decide) rfl rfl rfl (by decide) (by decide) dX6_all_20 (fun I2 H locs eI2 hW hS => ?_)
        refine lv_iinc (v := nI (i + 1)) (lv' := [(2, .int (nI (i + 1))), (0, .ref (ad 1 (3))), (1, .ref (ad 1 (8)))]) hx hb dX6_all_23 hl (k := 0) rfl (nI_inc i 1) (by decide) rfl (fun ls hl => ?_)
        refine lv_goto (tgt := 2) hx hb dX6_all_26 (by decide) ?_
        have e9 : I2 = alM J 10 31 (i + 1) := by
          subst eI2
          exact alM_s (by decide) _
        have hW9 := hW
        rw [e9] at hW9
        exact ih2 (i + 1) (by omega) (by omega) _ _ hW9 hS _ (lv_sub hl [0, 1, 2] rfl)
  have e9 : J = alM J 10 31 0 := by
    exact (alM_0 _ _ _).symm
  have hW9 := hW
  rw [e9] at hW9
  exact K2 (33 + 1) (0) (by omega) (by omega) _ _ hW9 hS _ (lv_sub hl [0, 1, 2] rfl)

set_option maxHeartbeats 4000000 in
set_option maxRecDepth 100000 in
theorem c_X6_all_4_9 (l : Launch) (D : va_G) (G : Nat → ClassId) (ad : Nat → Nat → Nat) (hI : wI LM ad) (J : St)  : Met l yX6_all wsX6_all ({ frames := 1, cells := 0, slots := 0, locals := 64 } : Room) (gPre D G LM ad [.ref (ad 1 (4)), .ref (ad 1 (9))] (wM G ad J)) (gQv D LM ad (wM G ad) (fun u => u = alM J 11 32 33)) 0 0 (wA LM ad) := by
  refine g_entry (C := RX6) (cc := cX6_all) (maxL := 3) (ret := none) rfl (by decide) rfl (Nat.le_of_ble_eq_true rfl) (fun p e s m args below meth c Q ls hQ hx hb hr hts hown hlocks hml hW hK hl => ?_)
  have hl : lv_has ls 3 [(0, .ref (ad 1 (4))), (1, .ref (ad 1 (9)))] := hl
  have hS := va_S.rf (A := wA LM ad) (H0 := s.heap)
  refine lv_iconst (v := nI 0) hx hb dX6_all_0 (by decide) ?_
  refine lv_istore_n (lv' := [(2, .int (nI (0))), (0, .ref (ad 1 (4))), (1, .ref (ad 1 (9)))]) hx hb dX6_all_1 rfl hl (by decide) rfl (fun ls hl => ?_)
  have K2 : ∀ (n : Nat) (i : Nat), (i ≤ 33) → 33 < i + n → ∀ (H : Heap) (locs : List Loc), va_P D vwCl (wS LM ad (wM G ad (alM J 11 32 i))) H → va_S (wA LM ad) s.heap H locs → ∀ (ls : Array Slot), lv_has ls 3 [(2, .int (nI (i))), (0, .ref (ad 1 (4))), (1, .ref (ad 1 (9)))] → W p l e ({ frames := 1, cells := 0, slots := 0, locals := 64 } : Room) s m args below meth c H locs 0 0 Q (F0 m 2 ls []) := by
    intro n2
    induction n2 with
    | zero => intro i hi hfu; exact absurd hfu (by omega)
    | succ n2 ih2 =>
      intro i hi hfu H locs hW hS ls hl
      refine lv_iload_n hx hb dX6_all_2 rfl (lv_at hl 0 rfl) ?_
      refine lv_aload_n hx hb dX6_all_3 rfl (lv_at hl 1 rfl) ?_
      refine r_alenI hx hb hK hW 1 4 (mM (by decide) (by decide)) rfl dX6_all_4 ?_
      refine lv_icmp_ge (tgt := 29) hx hb dX6_all_5 (by decide) (fun c5_0 => ?_) (fun c5_0 => ?_)
      · replace c5_0 : 33 ≤ i := (nI_leI (show 33 < 2147483648 by omega) (show i < 2147483648 by omega)).mp c5_0
        rw [hQ]
        exact g_vret (wd := wM G ad) hx hb hr hlocks hW hS (by have e4 : i = 33 := (by omega); subst e4; rfl) dX6_all_29
      · replace c5_0 : ¬ (33 ≤ i) := fun h => c5_0 ((nI_leI (show 33 < 2147483648 by omega) (show i < 2147483648 by omega)).mpr h)
        refine lv_aload_n hx hb dX6_all_8 rfl (lv_at hl 1 rfl) ?_
        refine lv_iload_n hx hb dX6_all_9 rfl (lv_at hl 0 rfl) ?_
        refine r_aaldI hx hb hK hW 1 4 (i) (mM (by decide) (by decide)) rfl (show i < 33 by omega) (by decide) rfl rfl dX6_all_10 ?_
        refine lv_iconst (v := nI 0) hx hb dX6_all_11 (by decide) ?_
        refine lv_aload_n hx hb dX6_all_12 rfl (lv_at hl 2 rfl) ?_
        refine lv_iload_n hx hb dX6_all_13 rfl (lv_at hl 0 rfl) ?_
        refine r_aaldI hx hb hK hW 1 9 (i) (mM (by decide) (by decide)) rfl (show i < 33 by omega) (by decide) rfl rfl dX6_all_14 ?_
        refine lv_iconst (v := nI 0) hx hb dX6_all_15 (by decide) ?_
        refine lv_aload_n hx hb dX6_all_16 rfl (lv_at hl 1 rfl) ?_
        refine lv_iload_n hx hb dX6_all_17 rfl (lv_at hl 0 rfl) ?_
        refine r_aaldI hx hb hK hW 1 4 (i) (mM (by decide) (by decide)) rfl (show i < 33 by omega) (by decide) rfl rfl dX6_all_18 ?_
        refine r_alen hx hb hK hW 11 (i) (mM (by decide) (show i < 33 by omega)) (wM_arr (by decide)) dX6_all_19 ?_
        refine rM_copy hx hb (hml.trans hl.1.symm) hown (hts (.methodLink RX6 98 arraycopyName) (by decide +kernel)) (hts (.native arraycopyName) (by decide +kernel)) (hts (.static arraycopyName) (by decide +kernel)) (hts (.initialized "java/lang/System") (by decide +kernel)) hK hI hW hS 11 (i) 32 (i) (0) (0) (4) (by decide) (by decide) (show i < 33 by omega) (by decide) (by decide) (show i < 33 by omega) (by decide) (by decide) rfl rfl rfl (by decide) (by decide) dX6_all_20 (fun I2 H locs eI2 hW hS => ?_)
        refine lv_iinc (v := nI (i + 1)) (lv' := [(2, .int (nI (i + 1))), (0, .ref (ad 1 (4))), (1, .ref (ad 1 (9)))]) hx hb dX6_all_23 hl (k := 0) rfl (nI_inc i 1) (by decide) rfl (fun ls hl => ?_)
        refine lv_goto (tgt := 2) hx hb dX6_all_26 (by decide) ?_
        have e9 : I2 = alM J 11 32 (i + 1) := by
          subst eI2
          exact alM_s (by decide) _
        have hW9 := hW
        rw [e9] at hW9
        exact ih2 (i + 1) (by omega) (by omega) _ _ hW9 hS _ (lv_sub hl [0, 1, 2] rfl)
  have e9 : J = alM J 11 32 0 := by
    exact (alM_0 _ _ _).symm
  have hW9 := hW
  rw [e9] at hW9
  exact K2 (33 + 1) (0) (by omega) (by omega) _ _ hW9 hS _ (lv_sub hl [0, 1, 2] rfl)

set_option maxHeartbeats 4000000 in
set_option maxRecDepth 100000 in
theorem c_X6_all_5_10 (l : Launch) (D : va_G) (G : Nat → ClassId) (ad : Nat → Nat → Nat) (hI : wI LM ad) (J : St)  : Met l yX6_all wsX6_all ({ frames := 1, cells := 0, slots := 0, locals := 64 } : Room) (gPre D G LM ad [.ref (ad 1 (5)), .ref (ad 1 (10))] (wM G ad J)) (gQv D LM ad (wM G ad) (fun u => u = alM J 17 33 16)) 0 0 (wA LM ad) := by
  refine g_entry (C := RX6) (cc := cX6_all) (maxL := 3) (ret := none) rfl (by decide) rfl (Nat.le_of_ble_eq_true rfl) (fun p e s m args below meth c Q ls hQ hx hb hr hts hown hlocks hml hW hK hl => ?_)
  have hl : lv_has ls 3 [(0, .ref (ad 1 (5))), (1, .ref (ad 1 (10)))] := hl
  have hS := va_S.rf (A := wA LM ad) (H0 := s.heap)
  refine lv_iconst (v := nI 0) hx hb dX6_all_0 (by decide) ?_
  refine lv_istore_n (lv' := [(2, .int (nI (0))), (0, .ref (ad 1 (5))), (1, .ref (ad 1 (10)))]) hx hb dX6_all_1 rfl hl (by decide) rfl (fun ls hl => ?_)
  have K2 : ∀ (n : Nat) (i : Nat), (i ≤ 16) → 16 < i + n → ∀ (H : Heap) (locs : List Loc), va_P D vwCl (wS LM ad (wM G ad (alM J 17 33 i))) H → va_S (wA LM ad) s.heap H locs → ∀ (ls : Array Slot), lv_has ls 3 [(2, .int (nI (i))), (0, .ref (ad 1 (5))), (1, .ref (ad 1 (10)))] → W p l e ({ frames := 1, cells := 0, slots := 0, locals := 64 } : Room) s m args below meth c H locs 0 0 Q (F0 m 2 ls []) := by
    intro n2
    induction n2 with
    | zero => intro i hi hfu; exact absurd hfu (by omega)
    | succ n2 ih2 =>
      intro i hi hfu H locs hW hS ls hl
      refine lv_iload_n hx hb dX6_all_2 rfl (lv_at hl 0 rfl) ?_
      refine lv_aload_n hx hb dX6_all_3 rfl (lv_at hl 1 rfl) ?_
      refine r_alenI hx hb hK hW 1 5 (mM (by decide) (by decide)) rfl dX6_all_4 ?_
      refine lv_icmp_ge (tgt := 29) hx hb dX6_all_5 (by decide) (fun c5_0 => ?_) (fun c5_0 => ?_)
      · replace c5_0 : 16 ≤ i := (nI_leI (show 16 < 2147483648 by omega) (show i < 2147483648 by omega)).mp c5_0
        rw [hQ]
        exact g_vret (wd := wM G ad) hx hb hr hlocks hW hS (by have e4 : i = 16 := (by omega); subst e4; rfl) dX6_all_29
      · replace c5_0 : ¬ (16 ≤ i) := fun h => c5_0 ((nI_leI (show 16 < 2147483648 by omega) (show i < 2147483648 by omega)).mpr h)
        refine lv_aload_n hx hb dX6_all_8 rfl (lv_at hl 1 rfl) ?_
        refine lv_iload_n hx hb dX6_all_9 rfl (lv_at hl 0 rfl) ?_
        refine r_aaldI hx hb hK hW 1 5 (i) (mM (by decide) (by decide)) rfl (show i < 16 by omega) (by decide) rfl rfl dX6_all_10 ?_
        refine lv_iconst (v := nI 0) hx hb dX6_all_11 (by decide) ?_
        refine lv_aload_n hx hb dX6_all_12 rfl (lv_at hl 2 rfl) ?_
        refine lv_iload_n hx hb dX6_all_13 rfl (lv_at hl 0 rfl) ?_
        refine r_aaldI hx hb hK hW 1 10 (i) (mM (by decide) (by decide)) rfl (show i < 16 by omega) (by decide) rfl rfl dX6_all_14 ?_
        refine lv_iconst (v := nI 0) hx hb dX6_all_15 (by decide) ?_
        refine lv_aload_n hx hb dX6_all_16 rfl (lv_at hl 1 rfl) ?_
        refine lv_iload_n hx hb dX6_all_17 rfl (lv_at hl 0 rfl) ?_
        refine r_aaldI hx hb hK hW 1 5 (i) (mM (by decide) (by decide)) rfl (show i < 16 by omega) (by decide) rfl rfl dX6_all_18 ?_
        refine r_alen hx hb hK hW 17 (i) (mM (by decide) (show i < 16 by omega)) (wM_arr (by decide)) dX6_all_19 ?_
        refine rM_copy hx hb (hml.trans hl.1.symm) hown (hts (.methodLink RX6 98 arraycopyName) (by decide +kernel)) (hts (.native arraycopyName) (by decide +kernel)) (hts (.static arraycopyName) (by decide +kernel)) (hts (.initialized "java/lang/System") (by decide +kernel)) hK hI hW hS 17 (i) 33 (i) (0) (0) (4) (by decide) (by decide) (show i < 16 by omega) (by decide) (by decide) (show i < 16 by omega) (by decide) (by decide) rfl rfl rfl (by decide) (by decide) dX6_all_20 (fun I2 H locs eI2 hW hS => ?_)
        refine lv_iinc (v := nI (i + 1)) (lv' := [(2, .int (nI (i + 1))), (0, .ref (ad 1 (5))), (1, .ref (ad 1 (10)))]) hx hb dX6_all_23 hl (k := 0) rfl (nI_inc i 1) (by decide) rfl (fun ls hl => ?_)
        refine lv_goto (tgt := 2) hx hb dX6_all_26 (by decide) ?_
        have e9 : I2 = alM J 17 33 (i + 1) := by
          subst eI2
          exact alM_s (by decide) _
        have hW9 := hW
        rw [e9] at hW9
        exact ih2 (i + 1) (by omega) (by omega) _ _ hW9 hS _ (lv_sub hl [0, 1, 2] rfl)
  have e9 : J = alM J 17 33 0 := by
    exact (alM_0 _ _ _).symm
  have hW9 := hW
  rw [e9] at hW9
  exact K2 (16 + 1) (0) (by omega) (by omega) _ _ hW9 hS _ (lv_sub hl [0, 1, 2] rfl)

set_option maxHeartbeats 4000000 in
set_option maxRecDepth 100000 in
theorem c_X6_all_6_11 (l : Launch) (D : va_G) (G : Nat → ClassId) (ad : Nat → Nat → Nat) (hI : wI LM ad) (J : St)  : Met l yX6_all wsX6_all ({ frames := 1, cells := 0, slots := 0, locals := 64 } : Room) (gPre D G LM ad [.ref (ad 1 (6)), .ref (ad 1 (11))] (wM G ad J)) (gQv D LM ad (wM G ad) (fun u => u = alM J 18 34 6)) 0 0 (wA LM ad) := by
  refine g_entry (C := RX6) (cc := cX6_all) (maxL := 3) (ret := none) rfl (by decide) rfl (Nat.le_of_ble_eq_true rfl) (fun p e s m args below meth c Q ls hQ hx hb hr hts hown hlocks hml hW hK hl => ?_)
  have hl : lv_has ls 3 [(0, .ref (ad 1 (6))), (1, .ref (ad 1 (11)))] := hl
  have hS := va_S.rf (A := wA LM ad) (H0 := s.heap)
  refine lv_iconst (v := nI 0) hx hb dX6_all_0 (by decide) ?_
  refine lv_istore_n (lv' := [(2, .int (nI (0))), (0, .ref (ad 1 (6))), (1, .ref (ad 1 (11)))]) hx hb dX6_all_1 rfl hl (by decide) rfl (fun ls hl => ?_)
  have K2 : ∀ (n : Nat) (i : Nat), (i ≤ 6) → 6 < i + n → ∀ (H : Heap) (locs : List Loc), va_P D vwCl (wS LM ad (wM G ad (alM J 18 34 i))) H → va_S (wA LM ad) s.heap H locs → ∀ (ls : Array Slot), lv_has ls 3 [(2, .int (nI (i))), (0, .ref (ad 1 (6))), (1, .ref (ad 1 (11)))] → W p l e ({ frames := 1, cells := 0, slots := 0, locals := 64 } : Room) s m args below meth c H locs 0 0 Q (F0 m 2 ls []) := by
    intro n2
    induction n2 with
    | zero => intro i hi hfu; exact absurd hfu (by omega)
    | succ n2 ih2 =>
      intro i hi hfu H locs hW hS ls hl
      refine lv_iload_n hx hb dX6_all_2 rfl (lv_at hl 0 rfl) ?_
      refine lv_aload_n hx hb dX6_all_3 rfl (lv_at hl 1 rfl) ?_
      refine r_alenI hx hb hK hW 1 6 (mM (by decide) (by decide)) rfl dX6_all_4 ?_
      refine lv_icmp_ge (tgt := 29) hx hb dX6_all_5 (by decide) (fun c5_0 => ?_) (fun c5_0 => ?_)
      · replace c5_0 : 6 ≤ i := (nI_leI (show 6 < 2147483648 by omega) (show i < 2147483648 by omega)).mp c5_0
        rw [hQ]
        exact g_vret (wd := wM G ad) hx hb hr hlocks hW hS (by have e4 : i = 6 := (by omega); subst e4; rfl) dX6_all_29
      · replace c5_0 : ¬ (6 ≤ i) := fun h => c5_0 ((nI_leI (show 6 < 2147483648 by omega) (show i < 2147483648 by omega)).mpr h)
        refine lv_aload_n hx hb dX6_all_8 rfl (lv_at hl 1 rfl) ?_
        refine lv_iload_n hx hb dX6_all_9 rfl (lv_at hl 0 rfl) ?_
        refine r_aaldI hx hb hK hW 1 6 (i) (mM (by decide) (by decide)) rfl (show i < 6 by omega) (by decide) rfl rfl dX6_all_10 ?_
        refine lv_iconst (v := nI 0) hx hb dX6_all_11 (by decide) ?_
        refine lv_aload_n hx hb dX6_all_12 rfl (lv_at hl 2 rfl) ?_
        refine lv_iload_n hx hb dX6_all_13 rfl (lv_at hl 0 rfl) ?_
        refine r_aaldI hx hb hK hW 1 11 (i) (mM (by decide) (by decide)) rfl (show i < 6 by omega) (by decide) rfl rfl dX6_all_14 ?_
        refine lv_iconst (v := nI 0) hx hb dX6_all_15 (by decide) ?_
        refine lv_aload_n hx hb dX6_all_16 rfl (lv_at hl 1 rfl) ?_
        refine lv_iload_n hx hb dX6_all_17 rfl (lv_at hl 0 rfl) ?_
        refine r_aaldI hx hb hK hW 1 6 (i) (mM (by decide) (by decide)) rfl (show i < 6 by omega) (by decide) rfl rfl dX6_all_18 ?_
        refine r_alen hx hb hK hW 18 (i) (mM (by decide) (show i < 6 by omega)) (wM_arr (by decide)) dX6_all_19 ?_
        refine rM_copy hx hb (hml.trans hl.1.symm) hown (hts (.methodLink RX6 98 arraycopyName) (by decide +kernel)) (hts (.native arraycopyName) (by decide +kernel)) (hts (.static arraycopyName) (by decide +kernel)) (hts (.initialized "java/lang/System") (by decide +kernel)) hK hI hW hS 18 (i) 34 (i) (0) (0) (4) (by decide) (by decide) (show i < 6 by omega) (by decide) (by decide) (show i < 6 by omega) (by decide) (by decide) rfl rfl rfl (by decide) (by decide) dX6_all_20 (fun I2 H locs eI2 hW hS => ?_)
        refine lv_iinc (v := nI (i + 1)) (lv' := [(2, .int (nI (i + 1))), (0, .ref (ad 1 (6))), (1, .ref (ad 1 (11)))]) hx hb dX6_all_23 hl (k := 0) rfl (nI_inc i 1) (by decide) rfl (fun ls hl => ?_)
        refine lv_goto (tgt := 2) hx hb dX6_all_26 (by decide) ?_
        have e9 : I2 = alM J 18 34 (i + 1) := by
          subst eI2
          exact alM_s (by decide) _
        have hW9 := hW
        rw [e9] at hW9
        exact ih2 (i + 1) (by omega) (by omega) _ _ hW9 hS _ (lv_sub hl [0, 1, 2] rfl)
  have e9 : J = alM J 18 34 0 := by
    exact (alM_0 _ _ _).symm
  have hW9 := hW
  rw [e9] at hW9
  exact K2 (6 + 1) (0) (by omega) (by omega) _ _ hW9 hS _ (lv_sub hl [0, 1, 2] rfl)

set_option maxHeartbeats 4000000 in
set_option maxRecDepth 100000 in
theorem c_X6_all_8_3 (l : Launch) (D : va_G) (G : Nat → ClassId) (ad : Nat → Nat → Nat) (hI : wI LM ad) (J : St)  : Met l yX6_all wsX6_all ({ frames := 1, cells := 0, slots := 0, locals := 64 } : Room) (gPre D G LM ad [.ref (ad 1 (8)), .ref (ad 1 (3))] (wM G ad J)) (gQv D LM ad (wM G ad) (fun u => u = alM J 31 10 33)) 0 0 (wA LM ad) := by
  refine g_entry (C := RX6) (cc := cX6_all) (maxL := 3) (ret := none) rfl (by decide) rfl (Nat.le_of_ble_eq_true rfl) (fun p e s m args below meth c Q ls hQ hx hb hr hts hown hlocks hml hW hK hl => ?_)
  have hl : lv_has ls 3 [(0, .ref (ad 1 (8))), (1, .ref (ad 1 (3)))] := hl
  have hS := va_S.rf (A := wA LM ad) (H0 := s.heap)
  refine lv_iconst (v := nI 0) hx hb dX6_all_0 (by decide) ?_
  refine lv_istore_n (lv' := [(2, .int (nI (0))), (0, .ref (ad 1 (8))), (1, .ref (ad 1 (3)))]) hx hb dX6_all_1 rfl hl (by decide) rfl (fun ls hl => ?_)
  have K2 : ∀ (n : Nat) (i : Nat), (i ≤ 33) → 33 < i + n → ∀ (H : Heap) (locs : List Loc), va_P D vwCl (wS LM ad (wM G ad (alM J 31 10 i))) H → va_S (wA LM ad) s.heap H locs → ∀ (ls : Array Slot), lv_has ls 3 [(2, .int (nI (i))), (0, .ref (ad 1 (8))), (1, .ref (ad 1 (3)))] → W p l e ({ frames := 1, cells := 0, slots := 0, locals := 64 } : Room) s m args below meth c H locs 0 0 Q (F0 m 2 ls []) := by
    intro n2
    induction n2 with
    | zero => intro i hi hfu; exact absurd hfu (by omega)
    | succ n2 ih2 =>
      intro i hi hfu H locs hW hS ls hl
      refine lv_iload_n hx hb dX6_all_2 rfl (lv_at hl 0 rfl) ?_
      refine lv_aload_n hx hb dX6_all_3 rfl (lv_at hl 1 rfl) ?_
      refine r_alenI hx hb hK hW 1 8 (mM (by decide) (by decide)) rfl dX6_all_4 ?_
      refine lv_icmp_ge (tgt := 29) hx hb dX6_all_5 (by decide) (fun c5_0 => ?_) (fun c5_0 => ?_)
      · replace c5_0 : 33 ≤ i := (nI_leI (show 33 < 2147483648 by omega) (show i < 2147483648 by omega)).mp c5_0
        rw [hQ]
        exact g_vret (wd := wM G ad) hx hb hr hlocks hW hS (by have e4 : i = 33 := (by omega); subst e4; rfl) dX6_all_29
      · replace c5_0 : ¬ (33 ≤ i) := fun h => c5_0 ((nI_leI (show 33 < 2147483648 by omega) (show i < 2147483648 by omega)).mpr h)
        refine lv_aload_n hx hb dX6_all_8 rfl (lv_at hl 1 rfl) ?_
        refine lv_iload_n hx hb dX6_all_9 rfl (lv_at hl 0 rfl) ?_
        refine r_aaldI hx hb hK hW 1 8 (i) (mM (by decide) (by decide)) rfl (show i < 33 by omega) (by decide) rfl rfl dX6_all_10 ?_
        refine lv_iconst (v := nI 0) hx hb dX6_all_11 (by decide) ?_
        refine lv_aload_n hx hb dX6_all_12 rfl (lv_at hl 2 rfl) ?_
        refine lv_iload_n hx hb dX6_all_13 rfl (lv_at hl 0 rfl) ?_
        refine r_aaldI hx hb hK hW 1 3 (i) (mM (by decide) (by decide)) rfl (show i < 33 by omega) (by decide) rfl rfl dX6_all_14 ?_
        refine lv_iconst (v := nI 0) hx hb dX6_all_15 (by decide) ?_
        refine lv_aload_n hx hb dX6_all_16 rfl (lv_at hl 1 rfl) ?_
        refine lv_iload_n hx hb dX6_all_17 rfl (lv_at hl 0 rfl) ?_
        refine r_aaldI hx hb hK hW 1 8 (i) (mM (by decide) (by decide)) rfl (show i < 33 by omega) (by decide) rfl rfl dX6_all_18 ?_
        refine r_alen hx hb hK hW 31 (i) (mM (by decide) (show i < 33 by omega)) (wM_arr (by decide)) dX6_all_19 ?_
        refine rM_copy hx hb (hml.trans hl.1.symm) hown (hts (.methodLink RX6 98 arraycopyName) (by decide +kernel)) (hts (.native arraycopyName) (by decide +kernel)) (hts (.static arraycopyName) (by decide +kernel)) (hts (.initialized "java/lang/System") (by decide +kernel)) hK hI hW hS 31 (i) 10 (i) (0) (0) (4) (by decide) (by decide) (show i < 33 by omega) (by decide) (by decide) (show i < 33 by omega) (by decide) (by decide) rfl rfl rfl (by decide) (by decide) dX6_all_20 (fun I2 H locs eI2 hW hS => ?_)
        refine lv_iinc (v := nI (i + 1)) (lv' := [(2, .int (nI (i + 1))), (0, .ref (ad 1 (8))), (1, .ref (ad 1 (3)))]) hx hb dX6_all_23 hl (k := 0) rfl (nI_inc i 1) (by decide) rfl (fun ls hl => ?_)
        refine lv_goto (tgt := 2) hx hb dX6_all_26 (by decide) ?_
        have e9 : I2 = alM J 31 10 (i + 1) := by
          subst eI2
          exact alM_s (by decide) _
        have hW9 := hW
        rw [e9] at hW9
        exact ih2 (i + 1) (by omega) (by omega) _ _ hW9 hS _ (lv_sub hl [0, 1, 2] rfl)
  have e9 : J = alM J 31 10 0 := by
    exact (alM_0 _ _ _).symm
  have hW9 := hW
  rw [e9] at hW9
  exact K2 (33 + 1) (0) (by omega) (by omega) _ _ hW9 hS _ (lv_sub hl [0, 1, 2] rfl)

set_option maxHeartbeats 4000000 in
set_option maxRecDepth 100000 in
theorem c_X6_all_9_4 (l : Launch) (D : va_G) (G : Nat → ClassId) (ad : Nat → Nat → Nat) (hI : wI LM ad) (J : St)  : Met l yX6_all wsX6_all ({ frames := 1, cells := 0, slots := 0, locals := 64 } : Room) (gPre D G LM ad [.ref (ad 1 (9)), .ref (ad 1 (4))] (wM G ad J)) (gQv D LM ad (wM G ad) (fun u => u = alM J 32 11 33)) 0 0 (wA LM ad) := by
  refine g_entry (C := RX6) (cc := cX6_all) (maxL := 3) (ret := none) rfl (by decide) rfl (Nat.le_of_ble_eq_true rfl) (fun p e s m args below meth c Q ls hQ hx hb hr hts hown hlocks hml hW hK hl => ?_)
  have hl : lv_has ls 3 [(0, .ref (ad 1 (9))), (1, .ref (ad 1 (4)))] := hl
  have hS := va_S.rf (A := wA LM ad) (H0 := s.heap)
  refine lv_iconst (v := nI 0) hx hb dX6_all_0 (by decide) ?_
  refine lv_istore_n (lv' := [(2, .int (nI (0))), (0, .ref (ad 1 (9))), (1, .ref (ad 1 (4)))]) hx hb dX6_all_1 rfl hl (by decide) rfl (fun ls hl => ?_)
  have K2 : ∀ (n : Nat) (i : Nat), (i ≤ 33) → 33 < i + n → ∀ (H : Heap) (locs : List Loc), va_P D vwCl (wS LM ad (wM G ad (alM J 32 11 i))) H → va_S (wA LM ad) s.heap H locs → ∀ (ls : Array Slot), lv_has ls 3 [(2, .int (nI (i))), (0, .ref (ad 1 (9))), (1, .ref (ad 1 (4)))] → W p l e ({ frames := 1, cells := 0, slots := 0, locals := 64 } : Room) s m args below meth c H locs 0 0 Q (F0 m 2 ls []) := by
    intro n2
    induction n2 with
    | zero => intro i hi hfu; exact absurd hfu (by omega)
    | succ n2 ih2 =>
      intro i hi hfu H locs hW hS ls hl
      refine lv_iload_n hx hb dX6_all_2 rfl (lv_at hl 0 rfl) ?_
      refine lv_aload_n hx hb dX6_all_3 rfl (lv_at hl 1 rfl) ?_
      refine r_alenI hx hb hK hW 1 9 (mM (by decide) (by decide)) rfl dX6_all_4 ?_
      refine lv_icmp_ge (tgt := 29) hx hb dX6_all_5 (by decide) (fun c5_0 => ?_) (fun c5_0 => ?_)
      · replace c5_0 : 33 ≤ i := (nI_leI (show 33 < 2147483648 by omega) (show i < 2147483648 by omega)).mp c5_0
        rw [hQ]
        exact g_vret (wd := wM G ad) hx hb hr hlocks hW hS (by have e4 : i = 33 := (by omega); subst e4; rfl) dX6_all_29
      · replace c5_0 : ¬ (33 ≤ i) := fun h => c5_0 ((nI_leI (show 33 < 2147483648 by omega) (show i < 2147483648 by omega)).mpr h)
        refine lv_aload_n hx hb dX6_all_8 rfl (lv_at hl 1 rfl) ?_
        refine lv_iload_n hx hb dX6_all_9 rfl (lv_at hl 0 rfl) ?_
        refine r_aaldI hx hb hK hW 1 9 (i) (mM (by decide) (by decide)) rfl (show i < 33 by omega) (by decide) rfl rfl dX6_all_10 ?_
        refine lv_iconst (v := nI 0) hx hb dX6_all_11 (by decide) ?_
        refine lv_aload_n hx hb dX6_all_12 rfl (lv_at hl 2 rfl) ?_
        refine lv_iload_n hx hb dX6_all_13 rfl (lv_at hl 0 rfl) ?_
        refine r_aaldI hx hb hK hW 1 4 (i) (mM (by decide) (by decide)) rfl (show i < 33 by omega) (by decide) rfl rfl dX6_all_14 ?_
        refine lv_iconst (v := nI 0) hx hb dX6_all_15 (by decide) ?_
        refine lv_aload_n hx hb dX6_all_16 rfl (lv_at hl 1 rfl) ?_
        refine lv_iload_n hx hb dX6_all_17 rfl (lv_at hl 0 rfl) ?_
        refine r_aaldI hx hb hK hW 1 9 (i) (mM (by decide) (by decide)) rfl (show i < 33 by omega) (by decide) rfl rfl dX6_all_18 ?_
        refine r_alen hx hb hK hW 32 (i) (mM (by decide) (show i < 33 by omega)) (wM_arr (by decide)) dX6_all_19 ?_
        refine rM_copy hx hb (hml.trans hl.1.symm) hown (hts (.methodLink RX6 98 arraycopyName) (by decide +kernel)) (hts (.native arraycopyName) (by decide +kernel)) (hts (.static arraycopyName) (by decide +kernel)) (hts (.initialized "java/lang/System") (by decide +kernel)) hK hI hW hS 32 (i) 11 (i) (0) (0) (4) (by decide) (by decide) (show i < 33 by omega) (by decide) (by decide) (show i < 33 by omega) (by decide) (by decide) rfl rfl rfl (by decide) (by decide) dX6_all_20 (fun I2 H locs eI2 hW hS => ?_)
        refine lv_iinc (v := nI (i + 1)) (lv' := [(2, .int (nI (i + 1))), (0, .ref (ad 1 (9))), (1, .ref (ad 1 (4)))]) hx hb dX6_all_23 hl (k := 0) rfl (nI_inc i 1) (by decide) rfl (fun ls hl => ?_)
        refine lv_goto (tgt := 2) hx hb dX6_all_26 (by decide) ?_
        have e9 : I2 = alM J 32 11 (i + 1) := by
          subst eI2
          exact alM_s (by decide) _
        have hW9 := hW
        rw [e9] at hW9
        exact ih2 (i + 1) (by omega) (by omega) _ _ hW9 hS _ (lv_sub hl [0, 1, 2] rfl)
  have e9 : J = alM J 32 11 0 := by
    exact (alM_0 _ _ _).symm
  have hW9 := hW
  rw [e9] at hW9
  exact K2 (33 + 1) (0) (by omega) (by omega) _ _ hW9 hS _ (lv_sub hl [0, 1, 2] rfl)

set_option maxHeartbeats 4000000 in
set_option maxRecDepth 100000 in
theorem c_X6_all_10_5 (l : Launch) (D : va_G) (G : Nat → ClassId) (ad : Nat → Nat → Nat) (hI : wI LM ad) (J : St)  : Met l yX6_all wsX6_all ({ frames := 1, cells := 0, slots := 0, locals := 64 } : Room) (gPre D G LM ad [.ref (ad 1 (10)), .ref (ad 1 (5))] (wM G ad J)) (gQv D LM ad (wM G ad) (fun u => u = alM J 33 17 16)) 0 0 (wA LM ad) := by
  refine g_entry (C := RX6) (cc := cX6_all) (maxL := 3) (ret := none) rfl (by decide) rfl (Nat.le_of_ble_eq_true rfl) (fun p e s m args below meth c Q ls hQ hx hb hr hts hown hlocks hml hW hK hl => ?_)
  have hl : lv_has ls 3 [(0, .ref (ad 1 (10))), (1, .ref (ad 1 (5)))] := hl
  have hS := va_S.rf (A := wA LM ad) (H0 := s.heap)
  refine lv_iconst (v := nI 0) hx hb dX6_all_0 (by decide) ?_
  refine lv_istore_n (lv' := [(2, .int (nI (0))), (0, .ref (ad 1 (10))), (1, .ref (ad 1 (5)))]) hx hb dX6_all_1 rfl hl (by decide) rfl (fun ls hl => ?_)
  have K2 : ∀ (n : Nat) (i : Nat), (i ≤ 16) → 16 < i + n → ∀ (H : Heap) (locs : List Loc), va_P D vwCl (wS LM ad (wM G ad (alM J 33 17 i))) H → va_S (wA LM ad) s.heap H locs → ∀ (ls : Array Slot), lv_has ls 3 [(2, .int (nI (i))), (0, .ref (ad 1 (10))), (1, .ref (ad 1 (5)))] → W p l e ({ frames := 1, cells := 0, slots := 0, locals := 64 } : Room) s m args below meth c H locs 0 0 Q (F0 m 2 ls []) := by
    intro n2
    induction n2 with
    | zero => intro i hi hfu; exact absurd hfu (by omega)
    | succ n2 ih2 =>
      intro i hi hfu H locs hW hS ls hl
      refine lv_iload_n hx hb dX6_all_2 rfl (lv_at hl 0 rfl) ?_
      refine lv_aload_n hx hb dX6_all_3 rfl (lv_at hl 1 rfl) ?_
      refine r_alenI hx hb hK hW 1 10 (mM (by decide) (by decide)) rfl dX6_all_4 ?_
      refine lv_icmp_ge (tgt := 29) hx hb dX6_all_5 (by decide) (fun c5_0 => ?_) (fun c5_0 => ?_)
      · replace c5_0 : 16 ≤ i := (nI_leI (show 16 < 2147483648 by omega) (show i < 2147483648 by omega)).mp c5_0
        rw [hQ]
        exact g_vret (wd := wM G ad) hx hb hr hlocks hW hS (by have e4 : i = 16 := (by omega); subst e4; rfl) dX6_all_29
      · replace c5_0 : ¬ (16 ≤ i) := fun h => c5_0 ((nI_leI (show 16 < 2147483648 by omega) (show i < 2147483648 by omega)).mpr h)
        refine lv_aload_n hx hb dX6_all_8 rfl (lv_at hl 1 rfl) ?_
        refine lv_iload_n hx hb dX6_all_9 rfl (lv_at hl 0 rfl) ?_
        refine r_aaldI hx hb hK hW 1 10 (i) (mM (by decide) (by decide)) rfl (show i < 16 by omega) (by decide) rfl rfl dX6_all_10 ?_
        refine lv_iconst (v := nI 0) hx hb dX6_all_11 (by decide) ?_
        refine lv_aload_n hx hb dX6_all_12 rfl (lv_at hl 2 rfl) ?_
        refine lv_iload_n hx hb dX6_all_13 rfl (lv_at hl 0 rfl) ?_
        refine r_aaldI hx hb hK hW 1 5 (i) (mM (by decide) (by decide)) rfl (show i < 16 by omega) (by decide) rfl rfl dX6_all_14 ?_
        refine lv_iconst (v := nI 0) hx hb dX6_all_15 (by decide) ?_
        refine lv_aload_n hx hb dX6_all_16 rfl (lv_at hl 1 rfl) ?_
        refine lv_iload_n hx hb dX6_all_17 rfl (lv_at hl 0 rfl) ?_
        refine r_aaldI hx hb hK hW 1 10 (i) (mM (by decide) (by decide)) rfl (show i < 16 by omega) (by decide) rfl rfl dX6_all_18 ?_
        refine r_alen hx hb hK hW 33 (i) (mM (by decide) (show i < 16 by omega)) (wM_arr (by decide)) dX6_all_19 ?_
        refine rM_copy hx hb (hml.trans hl.1.symm) hown (hts (.methodLink RX6 98 arraycopyName) (by decide +kernel)) (hts (.native arraycopyName) (by decide +kernel)) (hts (.static arraycopyName) (by decide +kernel)) (hts (.initialized "java/lang/System") (by decide +kernel)) hK hI hW hS 33 (i) 17 (i) (0) (0) (4) (by decide) (by decide) (show i < 16 by omega) (by decide) (by decide) (show i < 16 by omega) (by decide) (by decide) rfl rfl rfl (by decide) (by decide) dX6_all_20 (fun I2 H locs eI2 hW hS => ?_)
        refine lv_iinc (v := nI (i + 1)) (lv' := [(2, .int (nI (i + 1))), (0, .ref (ad 1 (10))), (1, .ref (ad 1 (5)))]) hx hb dX6_all_23 hl (k := 0) rfl (nI_inc i 1) (by decide) rfl (fun ls hl => ?_)
        refine lv_goto (tgt := 2) hx hb dX6_all_26 (by decide) ?_
        have e9 : I2 = alM J 33 17 (i + 1) := by
          subst eI2
          exact alM_s (by decide) _
        have hW9 := hW
        rw [e9] at hW9
        exact ih2 (i + 1) (by omega) (by omega) _ _ hW9 hS _ (lv_sub hl [0, 1, 2] rfl)
  have e9 : J = alM J 33 17 0 := by
    exact (alM_0 _ _ _).symm
  have hW9 := hW
  rw [e9] at hW9
  exact K2 (16 + 1) (0) (by omega) (by omega) _ _ hW9 hS _ (lv_sub hl [0, 1, 2] rfl)

set_option maxHeartbeats 4000000 in
set_option maxRecDepth 100000 in
theorem c_X6_all_11_6 (l : Launch) (D : va_G) (G : Nat → ClassId) (ad : Nat → Nat → Nat) (hI : wI LM ad) (J : St)  : Met l yX6_all wsX6_all ({ frames := 1, cells := 0, slots := 0, locals := 64 } : Room) (gPre D G LM ad [.ref (ad 1 (11)), .ref (ad 1 (6))] (wM G ad J)) (gQv D LM ad (wM G ad) (fun u => u = alM J 34 18 6)) 0 0 (wA LM ad) := by
  refine g_entry (C := RX6) (cc := cX6_all) (maxL := 3) (ret := none) rfl (by decide) rfl (Nat.le_of_ble_eq_true rfl) (fun p e s m args below meth c Q ls hQ hx hb hr hts hown hlocks hml hW hK hl => ?_)
  have hl : lv_has ls 3 [(0, .ref (ad 1 (11))), (1, .ref (ad 1 (6)))] := hl
  have hS := va_S.rf (A := wA LM ad) (H0 := s.heap)
  refine lv_iconst (v := nI 0) hx hb dX6_all_0 (by decide) ?_
  refine lv_istore_n (lv' := [(2, .int (nI (0))), (0, .ref (ad 1 (11))), (1, .ref (ad 1 (6)))]) hx hb dX6_all_1 rfl hl (by decide) rfl (fun ls hl => ?_)
  have K2 : ∀ (n : Nat) (i : Nat), (i ≤ 6) → 6 < i + n → ∀ (H : Heap) (locs : List Loc), va_P D vwCl (wS LM ad (wM G ad (alM J 34 18 i))) H → va_S (wA LM ad) s.heap H locs → ∀ (ls : Array Slot), lv_has ls 3 [(2, .int (nI (i))), (0, .ref (ad 1 (11))), (1, .ref (ad 1 (6)))] → W p l e ({ frames := 1, cells := 0, slots := 0, locals := 64 } : Room) s m args below meth c H locs 0 0 Q (F0 m 2 ls []) := by
    intro n2
    induction n2 with
    | zero => intro i hi hfu; exact absurd hfu (by omega)
    | succ n2 ih2 =>
      intro i hi hfu H locs hW hS ls hl
      refine lv_iload_n hx hb dX6_all_2 rfl (lv_at hl 0 rfl) ?_
      refine lv_aload_n hx hb dX6_all_3 rfl (lv_at hl 1 rfl) ?_
      refine r_alenI hx hb hK hW 1 11 (mM (by decide) (by decide)) rfl dX6_all_4 ?_
      refine lv_icmp_ge (tgt := 29) hx hb dX6_all_5 (by decide) (fun c5_0 => ?_) (fun c5_0 => ?_)
      · replace c5_0 : 6 ≤ i := (nI_leI (show 6 < 2147483648 by omega) (show i < 2147483648 by omega)).mp c5_0
        rw [hQ]
        exact g_vret (wd := wM G ad) hx hb hr hlocks hW hS (by have e4 : i = 6 := (by omega); subst e4; rfl) dX6_all_29
      · replace c5_0 : ¬ (6 ≤ i) := fun h => c5_0 ((nI_leI (show 6 < 2147483648 by omega) (show i < 2147483648 by omega)).mpr h)
        refine lv_aload_n hx hb dX6_all_8 rfl (lv_at hl 1 rfl) ?_
        refine lv_iload_n hx hb dX6_all_9 rfl (lv_at hl 0 rfl) ?_
        refine r_aaldI hx hb hK hW 1 11 (i) (mM (by decide) (by decide)) rfl (show i < 6 by omega) (by decide) rfl rfl dX6_all_10 ?_
        refine lv_iconst (v := nI 0) hx hb dX6_all_11 (by decide) ?_
        refine lv_aload_n hx hb dX6_all_12 rfl (lv_at hl 2 rfl) ?_
        refine lv_iload_n hx hb dX6_all_13 rfl (lv_at hl 0 rfl) ?_
        refine r_aaldI hx hb hK hW 1 6 (i) (mM (by decide) (by decide)) rfl (show i < 6 by omega) (by decide) rfl rfl dX6_all_14 ?_
        refine lv_iconst (v := nI 0) hx hb dX6_all_15 (by decide) ?_
        refine lv_aload_n hx hb dX6_all_16 rfl (lv_at hl 1 rfl) ?_
        refine lv_iload_n hx hb dX6_all_17 rfl (lv_at hl 0 rfl) ?_
        refine r_aaldI hx hb hK hW 1 11 (i) (mM (by decide) (by decide)) rfl (show i < 6 by omega) (by decide) rfl rfl dX6_all_18 ?_
        refine r_alen hx hb hK hW 34 (i) (mM (by decide) (show i < 6 by omega)) (wM_arr (by decide)) dX6_all_19 ?_
        refine rM_copy hx hb (hml.trans hl.1.symm) hown (hts (.methodLink RX6 98 arraycopyName) (by decide +kernel)) (hts (.native arraycopyName) (by decide +kernel)) (hts (.static arraycopyName) (by decide +kernel)) (hts (.initialized "java/lang/System") (by decide +kernel)) hK hI hW hS 34 (i) 18 (i) (0) (0) (4) (by decide) (by decide) (show i < 6 by omega) (by decide) (by decide) (show i < 6 by omega) (by decide) (by decide) rfl rfl rfl (by decide) (by decide) dX6_all_20 (fun I2 H locs eI2 hW hS => ?_)
        refine lv_iinc (v := nI (i + 1)) (lv' := [(2, .int (nI (i + 1))), (0, .ref (ad 1 (11))), (1, .ref (ad 1 (6)))]) hx hb dX6_all_23 hl (k := 0) rfl (nI_inc i 1) (by decide) rfl (fun ls hl => ?_)
        refine lv_goto (tgt := 2) hx hb dX6_all_26 (by decide) ?_
        have e9 : I2 = alM J 34 18 (i + 1) := by
          subst eI2
          exact alM_s (by decide) _
        have hW9 := hW
        rw [e9] at hW9
        exact ih2 (i + 1) (by omega) (by omega) _ _ hW9 hS _ (lv_sub hl [0, 1, 2] rfl)
  have e9 : J = alM J 34 18 0 := by
    exact (alM_0 _ _ _).symm
  have hW9 := hW
  rw [e9] at hW9
  exact K2 (6 + 1) (0) (by omega) (by omega) _ _ hW9 hS _ (lv_sub hl [0, 1, 2] rfl)

set_option maxHeartbeats 4000000 in
set_option maxRecDepth 100000 in
theorem c_X6_image (l : Launch) (D : va_G) (G : Nat → ClassId) (ad : Nat → Nat → Nat) (hI : wI LM ad) (J : St) (hT : okT (V J)) : Met l yX6_image wsX6_image ({ frames := 2, cells := 0, slots := 0, locals := 86 } : Room) (gPre D G LM ad [.ref (ad 0 (0))] (wM G ad J)) (gQi D LM ad (wM G ad) (fun r9 u => r9 = J 0 0 8 ∧ u = imM J)) 0 0 (wA LM ad) := by
  refine g_entry (C := RX6) (cc := cX6_image) (maxL := 2) (ret := (some .int)) rfl (by decide) rfl (Nat.le_of_ble_eq_true rfl) (fun p e s m args below meth c Q ls hQ hx hb hr hts hown hlocks hml hW hK hl => ?_)
  have hl : lv_has ls 2 [(0, .ref (ad 0 (0)))] := hl
  have hS := va_S.rf (A := wA LM ad) (H0 := s.heap)
  have hinX6 : ∀ w ∈ wsX60, w ∈ wsX6_image := by decide +kernel
  have hf9 := hts (.fieldLink RX6 9 "JoinedStoresModel" "made" "[I") (by decide +kernel)
  have hf15 := hts (.fieldLink RX6 15 "JoinedStoresModel" "values" "[[I") (by decide +kernel)
  have hf18 := hts (.fieldLink RX6 18 "JoinedStoresModel" "stamps" "[[I") (by decide +kernel)
  have hf21 := hts (.fieldLink RX6 21 "JoinedStoresModel" "objects" "[[I") (by decide +kernel)
  have hf24 := hts (.fieldLink RX6 24 "JoinedStoresModel" "kinds" "[I") (by decide +kernel)
  have hf27 := hts (.fieldLink RX6 27 "JoinedStoresModel" "heard" "[[I") (by decide +kernel)
  have hf30 := hts (.fieldLink RX6 30 "JoinedStoresModel" "alive" "[[I") (by decide +kernel)
  have hf33 := hts (.fieldLink RX6 33 "JoinedStoresModel" "known" "[[I") (by decide +kernel)
  have hf36 := hts (.fieldLink RX6 36 "JoinedStoresModel" "senders" "[I") (by decide +kernel)
  have hf39 := hts (.fieldLink RX6 39 "JoinedStoresModel" "receivers" "[I") (by decide +kernel)
  have hf42 := hts (.fieldLink RX6 42 "JoinedStoresModel" "had" "[[I") (by decide +kernel)
  have hf45 := hts (.fieldLink RX6 45 "JoinedStoresModel" "imageMade" "[I") (by decide +kernel)
  have hf48 := hts (.fieldLink RX6 48 "JoinedStoresModel" "imageKinds" "[I") (by decide +kernel)
  have hf51 := hts (.fieldLink RX6 51 "JoinedStoresModel" "imageSenders" "[I") (by decide +kernel)
  have hf54 := hts (.fieldLink RX6 54 "JoinedStoresModel" "imageReceivers" "[I") (by decide +kernel)
  have hf57 := hts (.fieldLink RX6 57 "JoinedStoresModel" "imageDots" "[[I") (by decide +kernel)
  have hf60 := hts (.fieldLink RX6 60 "JoinedStoresModel" "imageHeard" "[[I") (by decide +kernel)
  have hf63 := hts (.fieldLink RX6 63 "JoinedStoresModel" "imageAlive" "[[I") (by decide +kernel)
  have hf66 := hts (.fieldLink RX6 66 "JoinedStoresModel" "imageKnown" "[[I") (by decide +kernel)
  have hf69 := hts (.fieldLink RX6 69 "JoinedStoresModel" "imageHad" "[[I") (by decide +kernel)
  have hf92 := hts (.fieldLink RX6 92 "JoinedStoresModel" "letters" "I") (by decide +kernel)
  have hf235 := hts (.fieldLink RX6 235 "JoinedStoresModel" "hasImage" "Z") (by decide +kernel)
  have hf239 := hts (.fieldLink RX6 239 "JoinedStoresModel" "imageLetters" "I") (by decide +kernel)
  refine lv_aload_n hx hb dX6_image_0 rfl (lv_at hl 0 rfl) ?_
  refine lv_iconst (v := nI 1) hx hb dX6_image_1 (by decide) ?_
  refine r_puti (wd := wM G ad) (ty := .boolean) hx hb hts hown hK hI hW hS 0 (0) 12 (mM (by decide) (by decide)) rfl rfl hinX6 (by decide) hf235 rfl tyX6 tyX6_ok nmX6 rfl (by decide +kernel) (by decide) (by decide) (Nat.le_of_ble_eq_true rfl) (by simp [wM, up3]) (fun f' i' hn => wM_up f' i' hn) dX6_image_2 (fun I1 H locs eI1 hW hS => ?_)
  refine lv_aload_n hx hb dX6_image_5 rfl (lv_at hl 0 rfl) ?_
  refine lv_aload_n hx hb dX6_image_6 rfl (lv_at hl 0 rfl) ?_
  refine r_get hx hb hts hown hK hW 0 (0) 8 (mM (by decide) (by decide)) rfl rfl hinX6 (by decide) hf92 rfl rfl dX6_image_7 (lv_topi (fun x2 ex2 => ?_))
  refine r_puti (wd := wM G ad) (ty := .int) hx hb hts hown hK hI hW hS 0 (0) 13 (mM (by decide) (by decide)) rfl rfl hinX6 (by decide) hf239 rfl tyX6 tyX6_ok nmX6 rfl (by decide +kernel) rfl rfl (Nat.le_of_ble_eq_true rfl) (by simp [wM, up3]) (fun f' i' hn => wM_up f' i' hn) dX6_image_10 (fun I3 H locs eI3 hW hS => ?_)
  refine lv_aload_n hx hb dX6_image_13 rfl (lv_at hl 0 rfl) ?_
  refine r_get hx hb hts hown hK hW 0 (0) 0 (mM (by decide) (by decide)) rfl rfl hinX6 (by decide) hf9 rfl rfl dX6_image_14 ?_
  refine lv_iconst (v := nI 0) hx hb dX6_image_17 (by decide) ?_
  refine lv_aload_n hx hb dX6_image_18 rfl (lv_at hl 0 rfl) ?_
  refine r_get hx hb hts hown hK hW 0 (0) 14 (mM (by decide) (by decide)) rfl rfl hinX6 (by decide) hf45 rfl rfl dX6_image_19 ?_
  refine lv_iconst (v := nI 0) hx hb dX6_image_22 (by decide) ?_
  refine lv_iconst (v := nI 4) hx hb dX6_image_23 (by decide) ?_
  refine rM_copy hx hb (hml.trans hl.1.symm) hown (hts (.methodLink RX6 98 arraycopyName) (by decide +kernel)) (hts (.native arraycopyName) (by decide +kernel)) (hts (.static arraycopyName) (by decide +kernel)) (hts (.initialized "java/lang/System") (by decide +kernel)) hK hI hW hS 12 (0) 26 (0) (0) (0) (4) (by decide) (by decide) (by decide) (by decide) (by decide) (by decide) (by decide) (by decide) rfl rfl rfl (by decide) (by decide) dX6_image_24 (fun I4 H locs eI4 hW hS => ?_)
  refine lv_aload_n hx hb dX6_image_27 rfl (lv_at hl 0 rfl) ?_
  refine r_get hx hb hts hown hK hW 0 (0) 4 (mM (by decide) (by decide)) rfl rfl hinX6 (by decide) hf24 rfl rfl dX6_image_28 ?_
  refine lv_iconst (v := nI 0) hx hb dX6_image_31 (by decide) ?_
  refine lv_aload_n hx hb dX6_image_32 rfl (lv_at hl 0 rfl) ?_
  refine r_get hx hb hts hown hK hW 0 (0) 15 (mM (by decide) (by decide)) rfl rfl hinX6 (by decide) hf48 rfl rfl dX6_image_33 ?_
  refine lv_iconst (v := nI 0) hx hb dX6_image_36 (by decide) ?_
  refine lv_bipush (v := nI 12) hx hb dX6_image_37 (by decide) ?_
  refine rM_copy hx hb (hml.trans hl.1.symm) hown (hts (.methodLink RX6 98 arraycopyName) (by decide +kernel)) (hts (.native arraycopyName) (by decide +kernel)) (hts (.static arraycopyName) (by decide +kernel)) (hts (.initialized "java/lang/System") (by decide +kernel)) hK hI hW hS 16 (0) 27 (0) (0) (0) (12) (by decide) (by decide) (by decide) (by decide) (by decide) (by decide) (by decide) (by decide) rfl rfl rfl (by decide) (by decide) dX6_image_39 (fun I5 H locs eI5 hW hS => ?_)
  refine lv_aload_n hx hb dX6_image_42 rfl (lv_at hl 0 rfl) ?_
  refine r_get hx hb hts hown hK hW 0 (0) 9 (mM (by decide) (by decide)) rfl rfl hinX6 (by decide) hf36 rfl rfl dX6_image_43 ?_
  refine lv_iconst (v := nI 0) hx hb dX6_image_46 (by decide) ?_
  refine lv_aload_n hx hb dX6_image_47 rfl (lv_at hl 0 rfl) ?_
  refine r_get hx hb hts hown hK hW 0 (0) 16 (mM (by decide) (by decide)) rfl rfl hinX6 (by decide) hf51 rfl rfl dX6_image_48 ?_
  refine lv_iconst (v := nI 0) hx hb dX6_image_51 (by decide) ?_
  refine lv_bipush (v := nI 6) hx hb dX6_image_52 (by decide) ?_
  refine rM_copy hx hb (hml.trans hl.1.symm) hown (hts (.methodLink RX6 98 arraycopyName) (by decide +kernel)) (hts (.native arraycopyName) (by decide +kernel)) (hts (.static arraycopyName) (by decide +kernel)) (hts (.initialized "java/lang/System") (by decide +kernel)) hK hI hW hS 21 (0) 28 (0) (0) (0) (6) (by decide) (by decide) (by decide) (by decide) (by decide) (by decide) (by decide) (by decide) rfl rfl rfl (by decide) (by decide) dX6_image_54 (fun I6 H locs eI6 hW hS => ?_)
  refine lv_aload_n hx hb dX6_image_57 rfl (lv_at hl 0 rfl) ?_
  refine r_get hx hb hts hown hK hW 0 (0) 10 (mM (by decide) (by decide)) rfl rfl hinX6 (by decide) hf39 rfl rfl dX6_image_58 ?_
  refine lv_iconst (v := nI 0) hx hb dX6_image_61 (by decide) ?_
  refine lv_aload_n hx hb dX6_image_62 rfl (lv_at hl 0 rfl) ?_
  refine r_get hx hb hts hown hK hW 0 (0) 17 (mM (by decide) (by decide)) rfl rfl hinX6 (by decide) hf54 rfl rfl dX6_image_63 ?_
  refine lv_iconst (v := nI 0) hx hb dX6_image_66 (by decide) ?_
  refine lv_bipush (v := nI 6) hx hb dX6_image_67 (by decide) ?_
  refine rM_copy hx hb (hml.trans hl.1.symm) hown (hts (.methodLink RX6 98 arraycopyName) (by decide +kernel)) (hts (.native arraycopyName) (by decide +kernel)) (hts (.static arraycopyName) (by decide +kernel)) (hts (.initialized "java/lang/System") (by decide +kernel)) hK hI hW hS 22 (0) 29 (0) (0) (0) (6) (by decide) (by decide) (by decide) (by decide) (by decide) (by decide) (by decide) (by decide) rfl rfl rfl (by decide) (by decide) dX6_image_69 (fun I7 H locs eI7 hW hS => ?_)
  refine lv_iconst (v := nI 0) hx hb dX6_image_72 (by decide) ?_
  refine lv_istore_n (lv' := [(1, .int (nI (0))), (0, .ref (ad 0 (0)))]) hx hb dX6_image_73 rfl hl (by decide) rfl (fun ls hl => ?_)
  have K74 : ∀ (n : Nat) (i : Nat), (i ≤ 4) → 4 < i + n → ∀ (H : Heap) (locs : List Loc), va_P D vwCl (wS LM ad (wM G ad (imD (im1 J) i))) H → va_S (wA LM ad) s.heap H locs → ∀ (ls : Array Slot), lv_has ls 2 [(1, .int (nI (i))), (0, .ref (ad 0 (0)))] → W p l e ({ frames := 2, cells := 0, slots := 0, locals := 86 } : Room) s m args below meth c H locs 0 0 Q (F0 m 74 ls []) := by
    intro n74
    induction n74 with
    | zero => intro i hi hfu; exact absurd hfu (by omega)
    | succ n74 ih74 =>
      intro i hi hfu H locs hW hS ls hl
      refine lv_iload_n hx hb dX6_image_74 rfl (lv_at hl 0 rfl) ?_
      refine lv_iconst (v := nI 4) hx hb dX6_image_75 (by decide) ?_
      refine lv_icmp_ge (tgt := 147) hx hb dX6_image_76 (by decide) (fun c76_7 => ?_) (fun c76_7 => ?_)
      · replace c76_7 : 4 ≤ i := (nI_leI (show 4 < 2147483648 by omega) (show i < 2147483648 by omega)).mp c76_7
        refine lv_aload_n hx hb dX6_image_147 rfl (lv_at hl 1 rfl) ?_
        refine r_get hx hb hts hown hK hW 0 (0) 5 (mM (by decide) (by decide)) rfl rfl hinX6 (by decide) hf27 rfl rfl dX6_image_148 ?_
        refine lv_aload_n hx hb dX6_image_151 rfl (lv_at hl 1 rfl) ?_
        refine r_get hx hb hts hown hK hW 0 (0) 19 (mM (by decide) (by decide)) rfl rfl hinX6 (by decide) hf60 rfl rfl dX6_image_152 ?_
        refine g_cv (va_runS (As := [.ref (ad 1 (3)), .ref (ad 1 (8))]) (rest := []) ⟨hx, hb, hml, hown, hts⟩ (c_X6_all_3_8 l D G ad hI (imD (im1 J) i)  ) (va_cwS 2 hts gX6_image_X6_all rfl rfl rfl (by decide +kernel) ⟨Nat.le_of_ble_eq_true rfl, Nat.le_of_ble_eq_true rfl⟩) (g_preS hK hW) rfl rfl hl.1 rfl (lv_room (Nat.le_of_ble_eq_true rfl)) dX6_image_155 ⟨Nat.le_refl _, Nat.le_refl _⟩) hS (fun I9 H locs hp hW hS => ?_)
        have eI9 : I9 = alM (imD (im1 J) i) 10 31 33 := hp
        refine lv_aload_n hx hb dX6_image_158 rfl (lv_at hl 1 rfl) ?_
        refine r_get hx hb hts hown hK hW 0 (0) 6 (mM (by decide) (by decide)) rfl rfl hinX6 (by decide) hf30 rfl rfl dX6_image_159 ?_
        refine lv_aload_n hx hb dX6_image_162 rfl (lv_at hl 1 rfl) ?_
        refine r_get hx hb hts hown hK hW 0 (0) 20 (mM (by decide) (by decide)) rfl rfl hinX6 (by decide) hf63 rfl rfl dX6_image_163 ?_
        refine g_cv (va_runS (As := [.ref (ad 1 (4)), .ref (ad 1 (9))]) (rest := []) ⟨hx, hb, hml, hown, hts⟩ (c_X6_all_4_9 l D G ad hI I9  ) (va_cwS 2 hts gX6_image_X6_all rfl rfl rfl (by decide +kernel) ⟨Nat.le_of_ble_eq_true rfl, Nat.le_of_ble_eq_true rfl⟩) (g_preS hK hW) rfl rfl hl.1 rfl (lv_room (Nat.le_of_ble_eq_true rfl)) dX6_image_166 ⟨Nat.le_refl _, Nat.le_refl _⟩) hS (fun I10 H locs hp hW hS => ?_)
        have eI10 : I10 = alM I9 11 32 33 := hp
        refine lv_aload_n hx hb dX6_image_169 rfl (lv_at hl 1 rfl) ?_
        refine r_get hx hb hts hown hK hW 0 (0) 7 (mM (by decide) (by decide)) rfl rfl hinX6 (by decide) hf33 rfl rfl dX6_image_170 ?_
        refine lv_aload_n hx hb dX6_image_173 rfl (lv_at hl 1 rfl) ?_
        refine r_get hx hb hts hown hK hW 0 (0) 21 (mM (by decide) (by decide)) rfl rfl hinX6 (by decide) hf66 rfl rfl dX6_image_174 ?_
        refine g_cv (va_runS (As := [.ref (ad 1 (5)), .ref (ad 1 (10))]) (rest := []) ⟨hx, hb, hml, hown, hts⟩ (c_X6_all_5_10 l D G ad hI I10  ) (va_cwS 2 hts gX6_image_X6_all rfl rfl rfl (by decide +kernel) ⟨Nat.le_of_ble_eq_true rfl, Nat.le_of_ble_eq_true rfl⟩) (g_preS hK hW) rfl rfl hl.1 rfl (lv_room (Nat.le_of_ble_eq_true rfl)) dX6_image_177 ⟨Nat.le_refl _, Nat.le_refl _⟩) hS (fun I11 H locs hp hW hS => ?_)
        have eI11 : I11 = alM I10 17 33 16 := hp
        refine lv_aload_n hx hb dX6_image_180 rfl (lv_at hl 1 rfl) ?_
        refine r_get hx hb hts hown hK hW 0 (0) 11 (mM (by decide) (by decide)) rfl rfl hinX6 (by decide) hf42 rfl rfl dX6_image_181 ?_
        refine lv_aload_n hx hb dX6_image_184 rfl (lv_at hl 1 rfl) ?_
        refine r_get hx hb hts hown hK hW 0 (0) 22 (mM (by decide) (by decide)) rfl rfl hinX6 (by decide) hf69 rfl rfl dX6_image_185 ?_
        refine g_cv (va_runS (As := [.ref (ad 1 (6)), .ref (ad 1 (11))]) (rest := []) ⟨hx, hb, hml, hown, hts⟩ (c_X6_all_6_11 l D G ad hI I11  ) (va_cwS 2 hts gX6_image_X6_all rfl rfl rfl (by decide +kernel) ⟨Nat.le_of_ble_eq_true rfl, Nat.le_of_ble_eq_true rfl⟩) (g_preS hK hW) rfl rfl hl.1 rfl (lv_room (Nat.le_of_ble_eq_true rfl)) dX6_image_188 ⟨Nat.le_refl _, Nat.le_refl _⟩) hS (fun I12 H locs hp hW hS => ?_)
        have eI12 : I12 = alM I11 18 34 6 := hp
        refine lv_aload_n hx hb dX6_image_191 rfl (lv_at hl 1 rfl) ?_
        refine r_get hx hb hts hown hK hW 0 (0) 8 (mM (by decide) (by decide)) rfl rfl hinX6 (by decide) hf92 rfl rfl dX6_image_192 (lv_topi (fun x13 ex13 => ?_))
        rw [hQ]
        exact g_iret (wd := wM G ad) hx hb hr rfl hlocks hW hS (by have e4 : i = 4 := (by omega); subst e4; subst ex13 eI12 eI11 eI10 eI9; refine ⟨?_, rfl⟩; exact imM_8 J) dX6_image_195
      · replace c76_7 : ¬ (4 ≤ i) := fun h => c76_7 ((nI_leI (show 4 < 2147483648 by omega) (show i < 2147483648 by omega)).mpr h)
        refine lv_aload_n hx hb dX6_image_79 rfl (lv_at hl 1 rfl) ?_
        refine r_get hx hb hts hown hK hW 0 (0) 1 (mM (by decide) (by decide)) rfl rfl hinX6 (by decide) hf15 rfl rfl dX6_image_80 ?_
        refine lv_iload_n hx hb dX6_image_83 rfl (lv_at hl 0 rfl) ?_
        refine r_aaldI hx hb hK hW 1 0 (i) (mM (by decide) (by decide)) rfl (show i < 4 by omega) (by decide) rfl rfl dX6_image_84 ?_
        refine lv_iconst (v := nI 0) hx hb dX6_image_85 (by decide) ?_
        refine lv_aload_n hx hb dX6_image_86 rfl (lv_at hl 1 rfl) ?_
        refine r_get hx hb hts hown hK hW 0 (0) 18 (mM (by decide) (by decide)) rfl rfl hinX6 (by decide) hf57 rfl rfl dX6_image_87 ?_
        refine lv_iload_n hx hb dX6_image_90 rfl (lv_at hl 0 rfl) ?_
        refine r_aaldI hx hb hK hW 1 7 (i) (mM (by decide) (by decide)) rfl (show i < 12 by omega) (by decide) rfl rfl dX6_image_91 ?_
        refine lv_iconst (v := nI 0) hx hb dX6_image_92 (by decide) ?_
        refine lv_bipush (v := nI 31) hx hb dX6_image_93 (by decide) ?_
        refine rM_copy hx hb (hml.trans hl.1.symm) hown (hts (.methodLink RX6 98 arraycopyName) (by decide +kernel)) (hts (.native arraycopyName) (by decide +kernel)) (hts (.static arraycopyName) (by decide +kernel)) (hts (.initialized "java/lang/System") (by decide +kernel)) hK hI hW hS 13 (i) 30 (i) (0) (0) (31) (by decide) (by decide) (show i < 4 by omega) (by decide) (by decide) (show i < 12 by omega) (by decide) (by decide) rfl rfl rfl (by decide) (by decide) dX6_image_95 (fun I14 H locs eI14 hW hS => ?_)
        refine lv_aload_n hx hb dX6_image_98 rfl (lv_at hl 1 rfl) ?_
        refine r_get hx hb hts hown hK hW 0 (0) 2 (mM (by decide) (by decide)) rfl rfl hinX6 (by decide) hf18 rfl rfl dX6_image_99 ?_
        refine lv_iload_n hx hb dX6_image_102 rfl (lv_at hl 0 rfl) ?_
        refine r_aaldI hx hb hK hW 1 1 (i) (mM (by decide) (by decide)) rfl (show i < 4 by omega) (by decide) rfl rfl dX6_image_103 ?_
        refine lv_iconst (v := nI 0) hx hb dX6_image_104 (by decide) ?_
        refine lv_aload_n hx hb dX6_image_105 rfl (lv_at hl 1 rfl) ?_
        refine r_get hx hb hts hown hK hW 0 (0) 18 (mM (by decide) (by decide)) rfl rfl hinX6 (by decide) hf57 rfl rfl dX6_image_106 ?_
        refine lv_iconst (v := nI 4) hx hb dX6_image_109 (by decide) ?_
        refine lv_iload_n hx hb dX6_image_110 rfl (lv_at hl 0 rfl) ?_
        refine lv_iadd hx hb dX6_image_111 (r_top (nI_add _ _) ?_)
        refine r_aaldI hx hb hK hW 1 7 (4 + i) (mM (by decide) (by decide)) rfl (show 4 + i < 12 by omega) (by decide) rfl rfl dX6_image_112 ?_
        refine lv_iconst (v := nI 0) hx hb dX6_image_113 (by decide) ?_
        refine lv_bipush (v := nI 31) hx hb dX6_image_114 (by decide) ?_
        refine rM_copy hx hb (hml.trans hl.1.symm) hown (hts (.methodLink RX6 98 arraycopyName) (by decide +kernel)) (hts (.native arraycopyName) (by decide +kernel)) (hts (.static arraycopyName) (by decide +kernel)) (hts (.initialized "java/lang/System") (by decide +kernel)) hK hI hW hS 14 (i) 30 (4 + i) (0) (0) (31) (by decide) (by decide) (show i < 4 by omega) (by decide) (by decide) (show 4 + i < 12 by omega) (by decide) (by decide) rfl rfl rfl (by decide) (by decide) dX6_image_116 (fun I15 H locs eI15 hW hS => ?_)
        refine lv_aload_n hx hb dX6_image_119 rfl (lv_at hl 1 rfl) ?_
        refine r_get hx hb hts hown hK hW 0 (0) 3 (mM (by decide) (by decide)) rfl rfl hinX6 (by decide) hf21 rfl rfl dX6_image_120 ?_
        refine lv_iload_n hx hb dX6_image_123 rfl (lv_at hl 0 rfl) ?_
        refine r_aaldI hx hb hK hW 1 2 (i) (mM (by decide) (by decide)) rfl (show i < 4 by omega) (by decide) rfl rfl dX6_image_124 ?_
        refine lv_iconst (v := nI 0) hx hb dX6_image_125 (by decide) ?_
        refine lv_aload_n hx hb dX6_image_126 rfl (lv_at hl 1 rfl) ?_
        refine r_get hx hb hts hown hK hW 0 (0) 18 (mM (by decide) (by decide)) rfl rfl hinX6 (by decide) hf57 rfl rfl dX6_image_127 ?_
        refine lv_bipush (v := nI 8) hx hb dX6_image_130 (by decide) ?_
        refine lv_iload_n hx hb dX6_image_132 rfl (lv_at hl 0 rfl) ?_
        refine lv_iadd hx hb dX6_image_133 (r_top (nI_add _ _) ?_)
        refine r_aaldI hx hb hK hW 1 7 (8 + i) (mM (by decide) (by decide)) rfl (show 8 + i < 12 by omega) (by decide) rfl rfl dX6_image_134 ?_
        refine lv_iconst (v := nI 0) hx hb dX6_image_135 (by decide) ?_
        refine lv_bipush (v := nI 31) hx hb dX6_image_136 (by decide) ?_
        refine rM_copy hx hb (hml.trans hl.1.symm) hown (hts (.methodLink RX6 98 arraycopyName) (by decide +kernel)) (hts (.native arraycopyName) (by decide +kernel)) (hts (.static arraycopyName) (by decide +kernel)) (hts (.initialized "java/lang/System") (by decide +kernel)) hK hI hW hS 15 (i) 30 (8 + i) (0) (0) (31) (by decide) (by decide) (show i < 4 by omega) (by decide) (by decide) (show 8 + i < 12 by omega) (by decide) (by decide) rfl rfl rfl (by decide) (by decide) dX6_image_138 (fun I16 H locs eI16 hW hS => ?_)
        refine lv_iinc (v := nI (i + 1)) (lv' := [(1, .int (nI (i + 1))), (0, .ref (ad 0 (0)))]) hx hb dX6_image_141 hl (k := 0) rfl (nI_inc i 1) (by decide) rfl (fun ls hl => ?_)
        refine lv_goto (tgt := 74) hx hb dX6_image_144 (by decide) ?_
        have e9 : I16 = imD (im1 J) (i + 1) := by
          subst eI16 eI15 eI14
          rfl
        have hW9 := hW
        rw [e9] at hW9
        exact ih74 (i + 1) (by omega) (by omega) _ _ hW9 hS _ (lv_sub hl [0, 1] rfl)
  have e9 : I7 = imD (im1 J) 0 := by
    subst eI7 eI6 eI5 eI4 eI3 ex2 eI1
    rfl
  have hW9 := hW
  rw [e9] at hW9
  exact K74 (4 + 1) (0) (by omega) (by omega) _ _ hW9 hS _ (lv_sub hl [0, 1] rfl)

set_option maxHeartbeats 4000000 in
set_option maxRecDepth 100000 in
theorem c_X6_back (l : Launch) (D : va_G) (G : Nat → ClassId) (ad : Nat → Nat → Nat) (hI : wI LM ad) (J : St) (hT : okT (V J)) : Met l yX6_back wsX6_back ({ frames := 2, cells := 0, slots := 0, locals := 86 } : Room) (gPre D G LM ad [.ref (ad 0 (0))] (wM G ad J)) (gQi D LM ad (wM G ad) (fun r9 u => r9 = (if J 0 0 12 = 0 then -3 else J 0 0 13) ∧ u = (if J 0 0 12 = 0 then J else bkM J))) 0 0 (wA LM ad) := by
  refine g_entry (C := RX6) (cc := cX6_back) (maxL := 2) (ret := (some .int)) rfl (by decide) rfl (Nat.le_of_ble_eq_true rfl) (fun p e s m args below meth c Q ls hQ hx hb hr hts hown hlocks hml hW hK hl => ?_)
  have hl : lv_has ls 2 [(0, .ref (ad 0 (0)))] := hl
  have hS := va_S.rf (A := wA LM ad) (H0 := s.heap)
  have hinX6 : ∀ w ∈ wsX60, w ∈ wsX6_back := by decide +kernel
  have hf9 := hts (.fieldLink RX6 9 "JoinedStoresModel" "made" "[I") (by decide +kernel)
  have hf15 := hts (.fieldLink RX6 15 "JoinedStoresModel" "values" "[[I") (by decide +kernel)
  have hf18 := hts (.fieldLink RX6 18 "JoinedStoresModel" "stamps" "[[I") (by decide +kernel)
  have hf21 := hts (.fieldLink RX6 21 "JoinedStoresModel" "objects" "[[I") (by decide +kernel)
  have hf24 := hts (.fieldLink RX6 24 "JoinedStoresModel" "kinds" "[I") (by decide +kernel)
  have hf27 := hts (.fieldLink RX6 27 "JoinedStoresModel" "heard" "[[I") (by decide +kernel)
  have hf30 := hts (.fieldLink RX6 30 "JoinedStoresModel" "alive" "[[I") (by decide +kernel)
  have hf33 := hts (.fieldLink RX6 33 "JoinedStoresModel" "known" "[[I") (by decide +kernel)
  have hf36 := hts (.fieldLink RX6 36 "JoinedStoresModel" "senders" "[I") (by decide +kernel)
  have hf39 := hts (.fieldLink RX6 39 "JoinedStoresModel" "receivers" "[I") (by decide +kernel)
  have hf42 := hts (.fieldLink RX6 42 "JoinedStoresModel" "had" "[[I") (by decide +kernel)
  have hf45 := hts (.fieldLink RX6 45 "JoinedStoresModel" "imageMade" "[I") (by decide +kernel)
  have hf48 := hts (.fieldLink RX6 48 "JoinedStoresModel" "imageKinds" "[I") (by decide +kernel)
  have hf51 := hts (.fieldLink RX6 51 "JoinedStoresModel" "imageSenders" "[I") (by decide +kernel)
  have hf54 := hts (.fieldLink RX6 54 "JoinedStoresModel" "imageReceivers" "[I") (by decide +kernel)
  have hf57 := hts (.fieldLink RX6 57 "JoinedStoresModel" "imageDots" "[[I") (by decide +kernel)
  have hf60 := hts (.fieldLink RX6 60 "JoinedStoresModel" "imageHeard" "[[I") (by decide +kernel)
  have hf63 := hts (.fieldLink RX6 63 "JoinedStoresModel" "imageAlive" "[[I") (by decide +kernel)
  have hf66 := hts (.fieldLink RX6 66 "JoinedStoresModel" "imageKnown" "[[I") (by decide +kernel)
  have hf69 := hts (.fieldLink RX6 69 "JoinedStoresModel" "imageHad" "[[I") (by decide +kernel)
  have hf92 := hts (.fieldLink RX6 92 "JoinedStoresModel" "letters" "I") (by decide +kernel)
  have hf235 := hts (.fieldLink RX6 235 "JoinedStoresModel" "hasImage" "Z") (by decide +kernel)
  have hf239 := hts (.fieldLink RX6 239 "JoinedStoresModel" "imageLetters" "I") (by decide +kernel)
  refine lv_aload_n hx hb dX6_back_0 rfl (lv_at hl 0 rfl) ?_
  refine r_get hx hb hts hown hK hW 0 (0) 12 (mM (by decide) (by decide)) rfl rfl hinX6 (by decide) hf235 rfl rfl dX6_back_1 (lv_topi (fun x1 ex1 => ?_))
  refine lv_if_ne (tgt := 10) hx hb dX6_back_4 (by decide) (fun c4_1 => ?_) (fun c4_1 => ?_)
  · refine lv_aload_n hx hb dX6_back_10 rfl (lv_at hl 0 rfl) ?_
    refine lv_aload_n hx hb dX6_back_11 rfl (lv_at hl 0 rfl) ?_
    refine r_get hx hb hts hown hK hW 0 (0) 13 (mM (by decide) (by decide)) rfl rfl hinX6 (by decide) hf239 rfl rfl dX6_back_12 (lv_topi (fun x3 ex3 => ?_))
    refine r_puti (wd := wM G ad) (ty := .int) hx hb hts hown hK hI hW hS 0 (0) 8 (mM (by decide) (by decide)) rfl rfl hinX6 (by decide) hf92 rfl tyX6 tyX6_ok nmX6 rfl (by decide +kernel) rfl rfl (Nat.le_of_ble_eq_true rfl) (by simp [wM, up3]) (fun f' i' hn => wM_up f' i' hn) dX6_back_15 (fun I4 H locs eI4 hW hS => ?_)
    refine lv_aload_n hx hb dX6_back_18 rfl (lv_at hl 0 rfl) ?_
    refine r_get hx hb hts hown hK hW 0 (0) 14 (mM (by decide) (by decide)) rfl rfl hinX6 (by decide) hf45 rfl rfl dX6_back_19 ?_
    refine lv_iconst (v := nI 0) hx hb dX6_back_22 (by decide) ?_
    refine lv_aload_n hx hb dX6_back_23 rfl (lv_at hl 0 rfl) ?_
    refine r_get hx hb hts hown hK hW 0 (0) 0 (mM (by decide) (by decide)) rfl rfl hinX6 (by decide) hf9 rfl rfl dX6_back_24 ?_
    refine lv_iconst (v := nI 0) hx hb dX6_back_27 (by decide) ?_
    refine lv_iconst (v := nI 4) hx hb dX6_back_28 (by decide) ?_
    refine rM_copy hx hb (hml.trans hl.1.symm) hown (hts (.methodLink RX6 98 arraycopyName) (by decide +kernel)) (hts (.native arraycopyName) (by decide +kernel)) (hts (.static arraycopyName) (by decide +kernel)) (hts (.initialized "java/lang/System") (by decide +kernel)) hK hI hW hS 26 (0) 12 (0) (0) (0) (4) (by decide) (by decide) (by decide) (by decide) (by decide) (by decide) (by decide) (by decide) rfl rfl rfl (by decide) (by decide) dX6_back_29 (fun I5 H locs eI5 hW hS => ?_)
    refine lv_aload_n hx hb dX6_back_32 rfl (lv_at hl 0 rfl) ?_
    refine r_get hx hb hts hown hK hW 0 (0) 15 (mM (by decide) (by decide)) rfl rfl hinX6 (by decide) hf48 rfl rfl dX6_back_33 ?_
    refine lv_iconst (v := nI 0) hx hb dX6_back_36 (by decide) ?_
    refine lv_aload_n hx hb dX6_back_37 rfl (lv_at hl 0 rfl) ?_
    refine r_get hx hb hts hown hK hW 0 (0) 4 (mM (by decide) (by decide)) rfl rfl hinX6 (by decide) hf24 rfl rfl dX6_back_38 ?_
    refine lv_iconst (v := nI 0) hx hb dX6_back_41 (by decide) ?_
    refine lv_bipush (v := nI 12) hx hb dX6_back_42 (by decide) ?_
    refine rM_copy hx hb (hml.trans hl.1.symm) hown (hts (.methodLink RX6 98 arraycopyName) (by decide +kernel)) (hts (.native arraycopyName) (by decide +kernel)) (hts (.static arraycopyName) (by decide +kernel)) (hts (.initialized "java/lang/System") (by decide +kernel)) hK hI hW hS 27 (0) 16 (0) (0) (0) (12) (by decide) (by decide) (by decide) (by decide) (by decide) (by decide) (by decide) (by decide) rfl rfl rfl (by decide) (by decide) dX6_back_44 (fun I6 H locs eI6 hW hS => ?_)
    refine lv_aload_n hx hb dX6_back_47 rfl (lv_at hl 0 rfl) ?_
    refine r_get hx hb hts hown hK hW 0 (0) 16 (mM (by decide) (by decide)) rfl rfl hinX6 (by decide) hf51 rfl rfl dX6_back_48 ?_
    refine lv_iconst (v := nI 0) hx hb dX6_back_51 (by decide) ?_
    refine lv_aload_n hx hb dX6_back_52 rfl (lv_at hl 0 rfl) ?_
    refine r_get hx hb hts hown hK hW 0 (0) 9 (mM (by decide) (by decide)) rfl rfl hinX6 (by decide) hf36 rfl rfl dX6_back_53 ?_
    refine lv_iconst (v := nI 0) hx hb dX6_back_56 (by decide) ?_
    refine lv_bipush (v := nI 6) hx hb dX6_back_57 (by decide) ?_
    refine rM_copy hx hb (hml.trans hl.1.symm) hown (hts (.methodLink RX6 98 arraycopyName) (by decide +kernel)) (hts (.native arraycopyName) (by decide +kernel)) (hts (.static arraycopyName) (by decide +kernel)) (hts (.initialized "java/lang/System") (by decide +kernel)) hK hI hW hS 28 (0) 21 (0) (0) (0) (6) (by decide) (by decide) (by decide) (by decide) (by decide) (by decide) (by decide) (by decide) rfl rfl rfl (by decide) (by decide) dX6_back_59 (fun I7 H locs eI7 hW hS => ?_)
    refine lv_aload_n hx hb dX6_back_62 rfl (lv_at hl 0 rfl) ?_
    refine r_get hx hb hts hown hK hW 0 (0) 17 (mM (by decide) (by decide)) rfl rfl hinX6 (by decide) hf54 rfl rfl dX6_back_63 ?_
    refine lv_iconst (v := nI 0) hx hb dX6_back_66 (by decide) ?_
    refine lv_aload_n hx hb dX6_back_67 rfl (lv_at hl 0 rfl) ?_
    refine r_get hx hb hts hown hK hW 0 (0) 10 (mM (by decide) (by decide)) rfl rfl hinX6 (by decide) hf39 rfl rfl dX6_back_68 ?_
    refine lv_iconst (v := nI 0) hx hb dX6_back_71 (by decide) ?_
    refine lv_bipush (v := nI 6) hx hb dX6_back_72 (by decide) ?_
    refine rM_copy hx hb (hml.trans hl.1.symm) hown (hts (.methodLink RX6 98 arraycopyName) (by decide +kernel)) (hts (.native arraycopyName) (by decide +kernel)) (hts (.static arraycopyName) (by decide +kernel)) (hts (.initialized "java/lang/System") (by decide +kernel)) hK hI hW hS 29 (0) 22 (0) (0) (0) (6) (by decide) (by decide) (by decide) (by decide) (by decide) (by decide) (by decide) (by decide) rfl rfl rfl (by decide) (by decide) dX6_back_74 (fun I8 H locs eI8 hW hS => ?_)
    refine lv_iconst (v := nI 0) hx hb dX6_back_77 (by decide) ?_
    refine lv_istore_n (lv' := [(1, .int (nI (0))), (0, .ref (ad 0 (0)))]) hx hb dX6_back_78 rfl hl (by decide) rfl (fun ls hl => ?_)
    have K79 : ∀ (n : Nat) (i : Nat), (i ≤ 4) → 4 < i + n → ∀ (H : Heap) (locs : List Loc), va_P D vwCl (wS LM ad (wM G ad (bkD (bk1 J) i))) H → va_S (wA LM ad) s.heap H locs → ∀ (ls : Array Slot), lv_has ls 2 [(1, .int (nI (i))), (0, .ref (ad 0 (0)))] → W p l e ({ frames := 2, cells := 0, slots := 0, locals := 86 } : Room) s m args below meth c H locs 0 0 Q (F0 m 79 ls []) := by
      intro n79
      induction n79 with
      | zero => intro i hi hfu; exact absurd hfu (by omega)
      | succ n79 ih79 =>
        intro i hi hfu H locs hW hS ls hl
        refine lv_iload_n hx hb dX6_back_79 rfl (lv_at hl 0 rfl) ?_
        refine lv_iconst (v := nI 4) hx hb dX6_back_80 (by decide) ?_
        refine lv_icmp_ge (tgt := 152) hx hb dX6_back_81 (by decide) (fun c81_8 => ?_) (fun c81_8 => ?_)
        · replace c81_8 : 4 ≤ i := (nI_leI (show 4 < 2147483648 by omega) (show i < 2147483648 by omega)).mp c81_8
          refine lv_aload_n hx hb dX6_back_152 rfl (lv_at hl 1 rfl) ?_
          refine r_get hx hb hts hown hK hW 0 (0) 19 (mM (by decide) (by decide)) rfl rfl hinX6 (by decide) hf60 rfl rfl dX6_back_153 ?_
          refine lv_aload_n hx hb dX6_back_156 rfl (lv_at hl 1 rfl) ?_
          refine r_get hx hb hts hown hK hW 0 (0) 5 (mM (by decide) (by decide)) rfl rfl hinX6 (by decide) hf27 rfl rfl dX6_back_157 ?_
          refine g_cv (va_runS (As := [.ref (ad 1 (8)), .ref (ad 1 (3))]) (rest := []) ⟨hx, hb, hml, hown, hts⟩ (c_X6_all_8_3 l D G ad hI (bkD (bk1 J) i)  ) (va_cwS 2 hts gX6_back_X6_all rfl rfl rfl (by decide +kernel) ⟨Nat.le_of_ble_eq_true rfl, Nat.le_of_ble_eq_true rfl⟩) (g_preS hK hW) rfl rfl hl.1 rfl (lv_room (Nat.le_of_ble_eq_true rfl)) dX6_back_160 ⟨Nat.le_refl _, Nat.le_refl _⟩) hS (fun I10 H locs hp hW hS => ?_)
          have eI10 : I10 = alM (bkD (bk1 J) i) 31 10 33 := hp
          refine lv_aload_n hx hb dX6_back_163 rfl (lv_at hl 1 rfl) ?_
          refine r_get hx hb hts hown hK hW 0 (0) 20 (mM (by decide) (by decide)) rfl rfl hinX6 (by decide) hf63 rfl rfl dX6_back_164 ?_
          refine lv_aload_n hx hb dX6_back_167 rfl (lv_at hl 1 rfl) ?_
          refine r_get hx hb hts hown hK hW 0 (0) 6 (mM (by decide) (by decide)) rfl rfl hinX6 (by decide) hf30 rfl rfl dX6_back_168 ?_
          refine g_cv (va_runS (As := [.ref (ad 1 (9)), .ref (ad 1 (4))]) (rest := []) ⟨hx, hb, hml, hown, hts⟩ (c_X6_all_9_4 l D G ad hI I10  ) (va_cwS 2 hts gX6_back_X6_all rfl rfl rfl (by decide +kernel) ⟨Nat.le_of_ble_eq_true rfl, Nat.le_of_ble_eq_true rfl⟩) (g_preS hK hW) rfl rfl hl.1 rfl (lv_room (Nat.le_of_ble_eq_true rfl)) dX6_back_171 ⟨Nat.le_refl _, Nat.le_refl _⟩) hS (fun I11 H locs hp hW hS => ?_)
          have eI11 : I11 = alM I10 32 11 33 := hp
          refine lv_aload_n hx hb dX6_back_174 rfl (lv_at hl 1 rfl) ?_
          refine r_get hx hb hts hown hK hW 0 (0) 21 (mM (by decide) (by decide)) rfl rfl hinX6 (by decide) hf66 rfl rfl dX6_back_175 ?_
          refine lv_aload_n hx hb dX6_back_178 rfl (lv_at hl 1 rfl) ?_
          refine r_get hx hb hts hown hK hW 0 (0) 7 (mM (by decide) (by decide)) rfl rfl hinX6 (by decide) hf33 rfl rfl dX6_back_179 ?_
          refine g_cv (va_runS (As := [.ref (ad 1 (10)), .ref (ad 1 (5))]) (rest := []) ⟨hx, hb, hml, hown, hts⟩ (c_X6_all_10_5 l D G ad hI I11  ) (va_cwS 2 hts gX6_back_X6_all rfl rfl rfl (by decide +kernel) ⟨Nat.le_of_ble_eq_true rfl, Nat.le_of_ble_eq_true rfl⟩) (g_preS hK hW) rfl rfl hl.1 rfl (lv_room (Nat.le_of_ble_eq_true rfl)) dX6_back_182 ⟨Nat.le_refl _, Nat.le_refl _⟩) hS (fun I12 H locs hp hW hS => ?_)
          have eI12 : I12 = alM I11 33 17 16 := hp
          refine lv_aload_n hx hb dX6_back_185 rfl (lv_at hl 1 rfl) ?_
          refine r_get hx hb hts hown hK hW 0 (0) 22 (mM (by decide) (by decide)) rfl rfl hinX6 (by decide) hf69 rfl rfl dX6_back_186 ?_
          refine lv_aload_n hx hb dX6_back_189 rfl (lv_at hl 1 rfl) ?_
          refine r_get hx hb hts hown hK hW 0 (0) 11 (mM (by decide) (by decide)) rfl rfl hinX6 (by decide) hf42 rfl rfl dX6_back_190 ?_
          refine g_cv (va_runS (As := [.ref (ad 1 (11)), .ref (ad 1 (6))]) (rest := []) ⟨hx, hb, hml, hown, hts⟩ (c_X6_all_11_6 l D G ad hI I12  ) (va_cwS 2 hts gX6_back_X6_all rfl rfl rfl (by decide +kernel) ⟨Nat.le_of_ble_eq_true rfl, Nat.le_of_ble_eq_true rfl⟩) (g_preS hK hW) rfl rfl hl.1 rfl (lv_room (Nat.le_of_ble_eq_true rfl)) dX6_back_193 ⟨Nat.le_refl _, Nat.le_refl _⟩) hS (fun I13 H locs hp hW hS => ?_)
          have eI13 : I13 = alM I12 34 18 6 := hp
          refine lv_aload_n hx hb dX6_back_196 rfl (lv_at hl 1 rfl) ?_
          refine r_get hx hb hts hown hK hW 0 (0) 8 (mM (by decide) (by decide)) rfl rfl hinX6 (by decide) hf92 rfl rfl dX6_back_197 (lv_topi (fun x14 ex14 => ?_))
          rw [hQ]
          exact g_iret (wd := wM G ad) hx hb hr rfl hlocks hW hS (by have e4 : i = 4 := (by omega); subst e4; subst ex14 eI13 eI12 eI11 eI10; have hni : ¬ J 0 0 12 = 0 := (by rw [← ex1]; assumption); refine ⟨?_, ?_⟩ <;> rw [if_neg hni]; exact bkM_8 J; rfl) dX6_back_200
        · replace c81_8 : ¬ (4 ≤ i) := fun h => c81_8 ((nI_leI (show 4 < 2147483648 by omega) (show i < 2147483648 by omega)).mpr h)
          refine lv_aload_n hx hb dX6_back_84 rfl (lv_at hl 1 rfl) ?_
          refine r_get hx hb hts hown hK hW 0 (0) 18 (mM (by decide) (by decide)) rfl rfl hinX6 (by decide) hf57 rfl rfl dX6_back_85 ?_
          refine lv_iload_n hx hb dX6_back_88 rfl (lv_at hl 0 rfl) ?_
          refine r_aaldI hx hb hK hW 1 7 (i) (mM (by decide) (by decide)) rfl (show i < 12 by omega) (by decide) rfl rfl dX6_back_89 ?_
          refine lv_iconst (v := nI 0) hx hb dX6_back_90 (by decide) ?_
          refine lv_aload_n hx hb dX6_back_91 rfl (lv_at hl 1 rfl) ?_
          refine r_get hx hb hts hown hK hW 0 (0) 1 (mM (by decide) (by decide)) rfl rfl hinX6 (by decide) hf15 rfl rfl dX6_back_92 ?_
          refine lv_iload_n hx hb dX6_back_95 rfl (lv_at hl 0 rfl) ?_
          refine r_aaldI hx hb hK hW 1 0 (i) (mM (by decide) (by decide)) rfl (show i < 4 by omega) (by decide) rfl rfl dX6_back_96 ?_
          refine lv_iconst (v := nI 0) hx hb dX6_back_97 (by decide) ?_
          refine lv_bipush (v := nI 31) hx hb dX6_back_98 (by decide) ?_
          refine rM_copy hx hb (hml.trans hl.1.symm) hown (hts (.methodLink RX6 98 arraycopyName) (by decide +kernel)) (hts (.native arraycopyName) (by decide +kernel)) (hts (.static arraycopyName) (by decide +kernel)) (hts (.initialized "java/lang/System") (by decide +kernel)) hK hI hW hS 30 (i) 13 (i) (0) (0) (31) (by decide) (by decide) (show i < 12 by omega) (by decide) (by decide) (show i < 4 by omega) (by decide) (by decide) rfl rfl rfl (by decide) (by decide) dX6_back_100 (fun I15 H locs eI15 hW hS => ?_)
          refine lv_aload_n hx hb dX6_back_103 rfl (lv_at hl 1 rfl) ?_
          refine r_get hx hb hts hown hK hW 0 (0) 18 (mM (by decide) (by decide)) rfl rfl hinX6 (by decide) hf57 rfl rfl dX6_back_104 ?_
          refine lv_iconst (v := nI 4) hx hb dX6_back_107 (by decide) ?_
          refine lv_iload_n hx hb dX6_back_108 rfl (lv_at hl 0 rfl) ?_
          refine lv_iadd hx hb dX6_back_109 (r_top (nI_add _ _) ?_)
          refine r_aaldI hx hb hK hW 1 7 (4 + i) (mM (by decide) (by decide)) rfl (show 4 + i < 12 by omega) (by decide) rfl rfl dX6_back_110 ?_
          refine lv_iconst (v := nI 0) hx hb dX6_back_111 (by decide) ?_
          refine lv_aload_n hx hb dX6_back_112 rfl (lv_at hl 1 rfl) ?_
          refine r_get hx hb hts hown hK hW 0 (0) 2 (mM (by decide) (by decide)) rfl rfl hinX6 (by decide) hf18 rfl rfl dX6_back_113 ?_
          refine lv_iload_n hx hb dX6_back_116 rfl (lv_at hl 0 rfl) ?_
          refine r_aaldI hx hb hK hW 1 1 (i) (mM (by decide) (by decide)) rfl (show i < 4 by omega) (by decide) rfl rfl dX6_back_117 ?_
          refine lv_iconst (v := nI 0) hx hb dX6_back_118 (by decide) ?_
          refine lv_bipush (v := nI 31) hx hb dX6_back_119 (by decide) ?_
          refine rM_copy hx hb (hml.trans hl.1.symm) hown (hts (.methodLink RX6 98 arraycopyName) (by decide +kernel)) (hts (.native arraycopyName) (by decide +kernel)) (hts (.static arraycopyName) (by decide +kernel)) (hts (.initialized "java/lang/System") (by decide +kernel)) hK hI hW hS 30 (4 + i) 14 (i) (0) (0) (31) (by decide) (by decide) (show 4 + i < 12 by omega) (by decide) (by decide) (show i < 4 by omega) (by decide) (by decide) rfl rfl rfl (by decide) (by decide) dX6_back_121 (fun I16 H locs eI16 hW hS => ?_)
          refine lv_aload_n hx hb dX6_back_124 rfl (lv_at hl 1 rfl) ?_
          refine r_get hx hb hts hown hK hW 0 (0) 18 (mM (by decide) (by decide)) rfl rfl hinX6 (by decide) hf57 rfl rfl dX6_back_125 ?_
          refine lv_bipush (v := nI 8) hx hb dX6_back_128 (by decide) ?_
          refine lv_iload_n hx hb dX6_back_130 rfl (lv_at hl 0 rfl) ?_
          refine lv_iadd hx hb dX6_back_131 (r_top (nI_add _ _) ?_)
          refine r_aaldI hx hb hK hW 1 7 (8 + i) (mM (by decide) (by decide)) rfl (show 8 + i < 12 by omega) (by decide) rfl rfl dX6_back_132 ?_
          refine lv_iconst (v := nI 0) hx hb dX6_back_133 (by decide) ?_
          refine lv_aload_n hx hb dX6_back_134 rfl (lv_at hl 1 rfl) ?_
          refine r_get hx hb hts hown hK hW 0 (0) 3 (mM (by decide) (by decide)) rfl rfl hinX6 (by decide) hf21 rfl rfl dX6_back_135 ?_
          refine lv_iload_n hx hb dX6_back_138 rfl (lv_at hl 0 rfl) ?_
          refine r_aaldI hx hb hK hW 1 2 (i) (mM (by decide) (by decide)) rfl (show i < 4 by omega) (by decide) rfl rfl dX6_back_139 ?_
          refine lv_iconst (v := nI 0) hx hb dX6_back_140 (by decide) ?_
          refine lv_bipush (v := nI 31) hx hb dX6_back_141 (by decide) ?_
          refine rM_copy hx hb (hml.trans hl.1.symm) hown (hts (.methodLink RX6 98 arraycopyName) (by decide +kernel)) (hts (.native arraycopyName) (by decide +kernel)) (hts (.static arraycopyName) (by decide +kernel)) (hts (.initialized "java/lang/System") (by decide +kernel)) hK hI hW hS 30 (8 + i) 15 (i) (0) (0) (31) (by decide) (by decide) (show 8 + i < 12 by omega) (by decide) (by decide) (show i < 4 by omega) (by decide) (by decide) rfl rfl rfl (by decide) (by decide) dX6_back_143 (fun I17 H locs eI17 hW hS => ?_)
          refine lv_iinc (v := nI (i + 1)) (lv' := [(1, .int (nI (i + 1))), (0, .ref (ad 0 (0)))]) hx hb dX6_back_146 hl (k := 0) rfl (nI_inc i 1) (by decide) rfl (fun ls hl => ?_)
          refine lv_goto (tgt := 79) hx hb dX6_back_149 (by decide) ?_
          have e9 : I17 = bkD (bk1 J) (i + 1) := by
            subst eI17 eI16 eI15
            rfl
          have hW9 := hW
          rw [e9] at hW9
          exact ih79 (i + 1) (by omega) (by omega) _ _ hW9 hS _ (lv_sub hl [0, 1] rfl)
    have e9 : I8 = bkD (bk1 J) 0 := by
      subst eI8 eI7 eI6 eI5 eI4 ex3 ex1
      rfl
    have hW9 := hW
    rw [e9] at hW9
    exact K79 (4 + 1) (0) (by omega) (by omega) _ _ hW9 hS _ (lv_sub hl [0, 1] rfl)
  · refine lv_bipush (v := (-3)) hx hb dX6_back_7 (by decide) ?_
    rw [hQ]
    exact g_iret (wd := wM G ad) hx hb hr rfl hlocks hW hS (by subst ex1; refine ⟨?_, ?_⟩ <;> rw [if_pos (by assumption)]) dX6_back_9

set_option maxHeartbeats 4000000 in
set_option maxRecDepth 100000 in
theorem c_X6_tells (l : Launch) (D : va_G) (G : Nat → ClassId) (ad : Nat → Nat → Nat) (hI : wI LM ad) (J : St) (k r a w : Int32) (hM : okM J) (hKd : okK J) (hT : okT (V J)) (hSh : okS (V J)) : Met l yX6_tells wsX6_tells ({ frames := 7, cells := 0, slots := 0, locals := 185 } : Room) (gPre D G LM ad [.ref (ad 0 (0)), .int (k), .int (r), .int (a), .int (w)] (wM G ad J)) (gQi D LM ad (wM G ad) (fun r9 u => r9 = (if (((okN (nI 4) k && okN (nI 4) r) && (okN (nI 3) a && okN (nI 4) (nI 0))) && okN (nI 4) w) = true then (if J 23 0 (tn k) < 0 then -11 else tlM J (tn k) (tn r) (tn a) (tn w)) else -2) ∧ Sm gM J u)) 0 0 (wA LM ad) := by
  refine g_entry (C := RX6) (cc := cX6_tells) (maxL := 7) (ret := (some .int)) rfl (by decide) rfl (Nat.le_of_ble_eq_true rfl) (fun p e s m args below meth c Q ls hQ hx hb hr hts hown hlocks hml hW hK hl => ?_)
  have hl : lv_has ls 7 [(0, .ref (ad 0 (0))), (1, .int (k)), (2, .int (r)), (3, .int (a)), (4, .int (w))] := hl
  have hS := va_S.rf (A := wA LM ad) (H0 := s.heap)
  have hinX6 : ∀ w ∈ wsX60, w ∈ wsX6_tells := by decide +kernel
  have hf39 := hts (.fieldLink RX6 39 "JoinedStoresModel" "receivers" "[I") (by decide +kernel)
  have hf72 := hts (.fieldLink RX6 72 "JoinedStoresModel" "sorts" "[I") (by decide +kernel)
  have hf75 := hts (.fieldLink RX6 75 "JoinedStoresModel" "lengths" "[I") (by decide +kernel)
  have hf92 := hts (.fieldLink RX6 92 "JoinedStoresModel" "letters" "I") (by decide +kernel)
  have hw6 := hT.2
  refine lv_iload_n hx hb dX6_tells_0 rfl (lv_at hl 1 rfl) ?_
  refine g_pi (va_runS (As := [.int (k)]) (rest := []) ⟨hx, hb, hml, hown, hts⟩ (c_X6_isSheet l k) (va_cwS 1 hts gX6_tells_X6_isSheet rfl rfl rfl (by decide +kernel) ⟨Nat.le_of_ble_eq_true rfl, Nat.le_of_ble_eq_true rfl⟩) p_preS rfl rfl hl.1 rfl (lv_room (Nat.le_of_ble_eq_true rfl)) dX6_tells_1 ⟨Nat.le_refl _, Nat.le_refl _⟩) hW hS (fun H locs hW hS => ?_)
  refine lv_if_eq (tgt := 35) hx hb dX6_tells_4 (by decide) (fun c4_0 => ?_) (fun c4_0 => ?_)
  · replace c4_0 := bI_0.mp c4_0
    try simp only [decide_eq_true_eq, decide_eq_false_iff_not] at c4_0
    refine lv_bipush (v := (-2)) hx hb dX6_tells_35 (by decide) ?_
    rw [hQ]
    exact g_iret (wd := wM G ad) hx hb hr rfl hlocks hW hS (by refine ⟨?_, Sm.rf⟩; simp [c4_0]) dX6_tells_37
  · replace c4_0 := bI_1.mp c4_0
    obtain ⟨kN, hkN, ekN⟩ := okN_nI (k := 4) (by decide) c4_0
    subst ekN
    have t_kN : tn (nI kN) = kN := tn_nI (by omega)
    have k_kN : okN (nI 4) (nI kN) = true := okN_of (by decide) hkN
    refine lv_iload_n hx hb dX6_tells_7 rfl (lv_at hl 2 rfl) ?_
    refine g_pi (va_runS (As := [.int (r)]) (rest := []) ⟨hx, hb, hml, hown, hts⟩ (c_X6_isReplica l r) (va_cwS 1 hts gX6_tells_X6_isReplica rfl rfl rfl (by decide +kernel) ⟨Nat.le_of_ble_eq_true rfl, Nat.le_of_ble_eq_true rfl⟩) p_preS rfl rfl hl.1 rfl (lv_room (Nat.le_of_ble_eq_true rfl)) dX6_tells_8 ⟨Nat.le_refl _, Nat.le_refl _⟩) hW hS (fun H locs hW hS => ?_)
    refine lv_if_eq (tgt := 35) hx hb dX6_tells_11 (by decide) (fun c11_1 => ?_) (fun c11_1 => ?_)
    · replace c11_1 := bI_0.mp c11_1
      try simp only [decide_eq_true_eq, decide_eq_false_iff_not] at c11_1
      refine lv_bipush (v := (-2)) hx hb dX6_tells_35 (by decide) ?_
      rw [hQ]
      exact g_iret (wd := wM G ad) hx hb hr rfl hlocks hW hS (by refine ⟨?_, Sm.rf⟩; simp [k_kN, c11_1]) dX6_tells_37
    · replace c11_1 := bI_1.mp c11_1
      obtain ⟨rN, hrN, erN⟩ := okN_nI (k := 4) (by decide) c11_1
      subst erN
      have t_rN : tn (nI rN) = rN := tn_nI (by omega)
      have k_rN : okN (nI 4) (nI rN) = true := okN_of (by decide) hrN
      refine lv_iload_n hx hb dX6_tells_14 rfl (lv_at hl 3 rfl) ?_
      refine lv_iconst (v := nI 0) hx hb dX6_tells_15 (by decide) ?_
      refine g_pi (va_runS (As := [.int (a), .int (nI (0))]) (rest := []) ⟨hx, hb, hml, hown, hts⟩ (c_X6_isObject l a (nI (0))) (va_cwS 2 hts gX6_tells_X6_isObject rfl rfl rfl (by decide +kernel) ⟨Nat.le_of_ble_eq_true rfl, Nat.le_of_ble_eq_true rfl⟩) p_preS rfl rfl hl.1 rfl (lv_room (Nat.le_of_ble_eq_true rfl)) dX6_tells_16 ⟨Nat.le_refl _, Nat.le_refl _⟩) hW hS (fun H locs hW hS => ?_)
      refine lv_if_eq (tgt := 35) hx hb dX6_tells_19 (by decide) (fun c19_2 => ?_) (fun c19_2 => ?_)
      · replace c19_2 := bI_0.mp c19_2
        try simp only [decide_eq_true_eq, decide_eq_false_iff_not] at c19_2
        refine lv_bipush (v := (-2)) hx hb dX6_tells_35 (by decide) ?_
        rw [hQ]
        exact g_iret (wd := wM G ad) hx hb hr rfl hlocks hW hS (by refine ⟨?_, Sm.rf⟩; simp [k_kN, k_rN, c19_2]) dX6_tells_37
      · replace c19_2 := bI_1.mp c19_2
        obtain ⟨aN, haN, eaN⟩ := okN_nI (k := 3) (by decide) (okAnd c19_2).1
        subst eaN
        have t_aN : tn (nI aN) = aN := tn_nI (by omega)
        have k_aN : okN (nI 3) (nI aN) = true := okN_of (by decide) haN
        refine lv_iload hx hb dX6_tells_22 (lv_at hl 4 rfl) ?_
        refine lv_i2l hx hb dX6_tells_24 rfl ?_
        refine lv_lconst (v := lN 0) hx hb dX6_tells_25 (by decide) ?_
        refine lv_ldc2 (v := (3)) hx hb hown (hts (.constantLong RX6 84 (3)) (by decide +kernel)) dX6_tells_26 ?_
        refine g_pi (va_runS (As := [.long (w.toInt64), .long (lN 0), .long ((3))]) (rest := []) ⟨hx, hb, hml, hown, hts⟩ (c_X6_inB l w.toInt64 (lN 0) ((3)) (okN (nI 4) w) (inL_N (k := 4) (by decide) (by decide) _)) (va_cwS 3 hts gX6_tells_X6_in rfl rfl rfl (by decide +kernel) ⟨Nat.le_of_ble_eq_true rfl, Nat.le_of_ble_eq_true rfl⟩) p_preS rfl rfl hl.1 rfl (lv_room (Nat.le_of_ble_eq_true rfl)) dX6_tells_29 ⟨Nat.le_refl _, Nat.le_refl _⟩) hW hS (fun H locs hW hS => ?_)
        refine lv_if_ne (tgt := 38) hx hb dX6_tells_32 (by decide) (fun c32_3 => ?_) (fun c32_3 => ?_)
        · replace c32_3 := bI_1.mp c32_3
          obtain ⟨wN, hwN, ewN⟩ := okN_nI (k := 4) (by decide) c32_3
          subst ewN
          have t_wN : tn (nI wN) = wN := tn_nI (by omega)
          have k_wN : okN (nI 4) (nI wN) = true := okN_of (by decide) hwN
          refine lv_aload_n hx hb dX6_tells_38 rfl (lv_at hl 0 rfl) ?_
          refine r_get hx hb hts hown hK hW 0 (0) 23 (mM (by decide) (by decide)) rfl rfl hinX6 (by decide) hf72 rfl rfl dX6_tells_39 ?_
          refine lv_iload_n hx hb dX6_tells_42 rfl (lv_at hl 1 rfl) ?_
          refine rM_iald hx hb hK hW 23 (0) (kN) (by decide) (by decide) (by decide) (show kN < 4 by omega) rfl dX6_tells_43 (fun x5 ex5 => ?_)
          refine lv_if_ge (tgt := 50) hx hb dX6_tells_44 (by decide) (fun c44_5 => ?_) (fun c44_5 => ?_)
          · refine lv_aload_n hx hb dX6_tells_50 rfl (lv_at hl 0 rfl) ?_
            refine r_get hx hb hts hown hK hW 0 (0) 24 (mM (by decide) (by decide)) rfl rfl hinX6 (by decide) hf75 rfl rfl dX6_tells_51 ?_
            refine lv_iload_n hx hb dX6_tells_54 rfl (lv_at hl 1 rfl) ?_
            refine rM_iald hx hb hK hW 24 (0) (kN) (by decide) (by decide) (by decide) (show kN < 4 by omega) rfl dX6_tells_55 (fun x7 ex7 => ?_)
            have hs40 := (hSh kN (by omega)).2
            refine r_top (show x7 = nI (sl (V J) kN) from (ex7.trans (hSh kN (by omega)).1)) ?_
            refine lv_iconst (v := nI 4) hx hb dX6_tells_56 (by decide) ?_
            refine lv_icmp_gt (tgt := 75) hx hb dX6_tells_57 (by decide) (fun c57_7 => ?_) (fun c57_7 => ?_)
            · replace c57_7 : 4 < sl (V J) kN := (nI_ltI (show 4 < 2147483648 by omega) (show sl (V J) kN < 2147483648 by omega)).mp c57_7
              refine lv_bipush (v := (-2)) hx hb dX6_tells_75 (by decide) ?_
              rw [hQ]
              exact g_iret (wd := wM G ad) hx hb hr rfl hlocks hW hS (by subst ex7 ex5; refine ⟨?_, Sm.rf⟩; rw [if_pos (by simp [k_kN, k_rN, k_aN, k_wN, show okN (nI 4) (nI 0) = true by decide +kernel])]; simp only [t_kN, t_rN, t_aN, t_wN]; rw [if_neg (Int32.not_lt.mpr (by assumption)), tlM]; rw [if_pos (by omega)]) dX6_tells_77
            · replace c57_7 : ¬ (4 < sl (V J) kN) := fun h => c57_7 ((nI_ltI (show 4 < 2147483648 by omega) (show sl (V J) kN < 2147483648 by omega)).mpr h)
              have hLe9 : J 24 0 kN = nI (sl (V J) kN) := (hSh kN (by omega)).1
              have hL4 : (sl (V J) kN) ≤ 4 := by omega
              refine lv_iload hx hb dX6_tells_60 (lv_at hl 4 rfl) ?_
              refine lv_iconst (v := nI 2) hx hb dX6_tells_62 (by decide) ?_
              refine lv_icmp_ne (tgt := 78) hx hb dX6_tells_63 (by decide) (fun c63_8 => ?_) (fun c63_8 => ?_)
              · replace c63_8 : ¬ wN = 2 := fun h => c63_8 ((nI_eq (show wN < 2147483648 by omega) (show 2 < 2147483648 by omega)).mpr h)
                refine lv_iload hx hb dX6_tells_78 (lv_at hl 4 rfl) ?_
                refine lv_if_ne (tgt := 91) hx hb dX6_tells_80 (by decide) (fun c80_9 => ?_) (fun c80_9 => ?_)
                · replace c80_9 : ¬ wN = 0 := fun h => c80_9 ((nI_eq (show wN < 2147483648 by omega) (show 0 < 2147483648 by omega)).mpr h)
                  refine lv_iload hx hb dX6_tells_91 (lv_at hl 4 rfl) ?_
                  refine lv_iconst (v := nI 2) hx hb dX6_tells_93 (by decide) ?_
                  refine lv_icmp_ne (tgt := 105) hx hb dX6_tells_94 (by decide) (fun c94_10 => ?_) (fun c94_10 => ?_)
                  · replace c94_10 : ¬ wN = 2 := fun h => c94_10 ((nI_eq (show wN < 2147483648 by omega) (show 2 < 2147483648 by omega)).mpr h)
                    refine lv_iconst (v := nI 0) hx hb dX6_tells_105 (by decide) ?_
                    refine lv_istore (lv' := [(5, .int (nI (0))), (0, .ref (ad 0 (0))), (1, .int (nI (kN))), (2, .int (nI (rN))), (3, .int (nI (aN))), (4, .int (nI (wN)))]) hx hb dX6_tells_106 hl (by decide) rfl (fun ls hl => ?_)
                    refine lv_iconst (v := nI 0) hx hb dX6_tells_108 (by decide) ?_
                    refine lv_istore (lv' := [(6, .int (nI (0))), (5, .int (nI (0))), (0, .ref (ad 0 (0))), (1, .int (nI (kN))), (2, .int (nI (rN))), (3, .int (nI (aN))), (4, .int (nI (wN)))]) hx hb dX6_tells_109 hl (by decide) rfl (fun ls hl => ?_)
                    have K111 : ∀ (n : Nat) (i : Nat) (d : Int32), (i ≤ 4) → (wN = 1 → d = bits (tlP1 J kN aN (sl (V J) kN)) i) → (¬ wN = 1 → d = nI 0) → 4 < i + n → ∀ (H : Heap) (locs : List Loc), va_P D vwCl (wS LM ad (wM G ad J)) H → va_S (wA LM ad) s.heap H locs → ∀ (ls : Array Slot), lv_has ls 7 [(6, .int (nI (i))), (5, .int (d)), (0, .ref (ad 0 (0))), (1, .int (nI (kN))), (2, .int (nI (rN))), (3, .int (nI (aN))), (4, .int (nI (wN)))] → W p l e ({ frames := 7, cells := 0, slots := 0, locals := 185 } : Room) s m args below meth c H locs 0 0 Q (F0 m 111 ls []) := by
                      intro n111
                      induction n111 with
                      | zero => intro i d hi hd hd0 hfu; exact absurd hfu (by omega)
                      | succ n111 ih111 =>
                        intro i d hi hd hd0 hfu H locs hW hS ls hl
                        refine lv_iload hx hb dX6_tells_111 (lv_at hl 6 rfl) ?_
                        refine lv_iconst (v := nI 1) hx hb dX6_tells_113 (by decide) ?_
                        refine lv_icmp_ne (tgt := 150) hx hb dX6_tells_114 (by decide) (fun c114_11 => ?_) (fun c114_11 => ?_)
                        · replace c114_11 : ¬ wN = 1 := fun h => c114_11 ((nI_eq (show wN < 2147483648 by omega) (show 1 < 2147483648 by omega)).mpr h)
                          refine lv_iconst (v := nI 0) hx hb dX6_tells_150 (by decide) ?_
                          refine lv_istore (lv' := [(6, .int (nI (0))), (5, .int (d)), (0, .ref (ad 0 (0))), (1, .int (nI (kN))), (2, .int (nI (rN))), (3, .int (nI (aN))), (4, .int (nI (wN)))]) hx hb dX6_tells_151 hl (by decide) rfl (fun ls hl => ?_)
                          have K153 : ∀ (n : Nat) (i2 : Nat) (d2 : Int32) (v : St), (i2 ≤ wt (V J)) → (wN = 1 → d2 = bits (tlP1 J kN aN (sl (V J) kN)) 4) → (wN = 3 → d2 = bits (tlP3 J kN rN aN (sl (V J) kN)) i2) → (Sm gM J v) → (wt (V J)) < i2 + n → ∀ (H : Heap) (locs : List Loc), va_P D vwCl (wS LM ad (wM G ad v)) H → va_S (wA LM ad) s.heap H locs → ∀ (ls : Array Slot), lv_has ls 7 [(6, .int (nI (i2))), (5, .int (d2)), (0, .ref (ad 0 (0))), (1, .int (nI (kN))), (2, .int (nI (rN))), (3, .int (nI (aN))), (4, .int (nI (wN)))] → W p l e ({ frames := 7, cells := 0, slots := 0, locals := 185 } : Room) s m args below meth c H locs 0 0 Q (F0 m 153 ls []) := by
                            intro n153
                            induction n153 with
                            | zero => intro i2 d2 v hi2 hd1 hd3 hu hfu; exact absurd hfu (by omega)
                            | succ n153 ih153 =>
                              intro i2 d2 v hi2 hd1 hd3 hu hfu H locs hW hS ls hl
                              refine lv_iload hx hb dX6_tells_153 (lv_at hl 6 rfl) ?_
                              refine lv_iconst (v := nI 3) hx hb dX6_tells_155 (by decide) ?_
                              refine lv_icmp_ne (tgt := 227) hx hb dX6_tells_156 (by decide) (fun c156_12 => ?_) (fun c156_12 => ?_)
                              · replace c156_12 : ¬ wN = 3 := fun h => c156_12 ((nI_eq (show wN < 2147483648 by omega) (show 3 < 2147483648 by omega)).mpr h)
                                refine lv_iload hx hb dX6_tells_227 (lv_at hl 1 rfl) ?_
                                rw [hQ]
                                exact g_iret (wd := wM G ad) hx hb hr rfl hlocks hW hS (by refine ⟨?_, hu⟩; rw [if_pos (by simp [k_kN, k_rN, k_aN, k_wN, show okN (nI 4) (nI 0) = true by decide +kernel])]; simp only [t_kN, t_rN, t_aN, t_wN]; rw [if_neg (Int32.not_lt.mpr (by rw [← ex5]; assumption)), tlM]; rw [if_neg (by omega)]; rw [if_neg (by omega)]; by_cases hw1 : wN = 1; rw [if_pos hw1]; exact hd1 hw1; rw [if_neg hw1, if_neg (by omega)]; have e4 : i2 = wt (V J) := (by omega); rw [hd3 (by omega), e4]) dX6_tells_229
                              · replace c156_12 : wN = 3 := (nI_eq (show wN < 2147483648 by omega) (show 3 < 2147483648 by omega)).mp c156_12
                                refine lv_iload hx hb dX6_tells_159 (lv_at hl 0 rfl) ?_
                                refine lv_aload_n hx hb dX6_tells_161 rfl (lv_at hl 2 rfl) ?_
                                refine r_get hx hb hts hown hK hW 0 (0) 8 (mM (by decide) (by decide)) rfl rfl hinX6 (by decide) hf92 rfl rfl dX6_tells_162 (lv_topi (fun x14 ex14 => ?_))
                                refine r_top (show x14 = nI (wt (V J)) from (ex14.trans ((sq_e hu (by decide) (by decide)).trans hT.1))) ?_
                                refine lv_icmp_ge (tgt := 227) hx hb dX6_tells_165 (by decide) (fun c165_14 => ?_) (fun c165_14 => ?_)
                                · replace c165_14 : wt (V J) ≤ i2 := (nI_leI (show wt (V J) < 2147483648 by omega) (show i2 < 2147483648 by omega)).mp c165_14
                                  refine lv_iload hx hb dX6_tells_227 (lv_at hl 1 rfl) ?_
                                  rw [hQ]
                                  exact g_iret (wd := wM G ad) hx hb hr rfl hlocks hW hS (by refine ⟨?_, hu⟩; rw [if_pos (by simp [k_kN, k_rN, k_aN, k_wN, show okN (nI 4) (nI 0) = true by decide +kernel])]; simp only [t_kN, t_rN, t_aN, t_wN]; rw [if_neg (Int32.not_lt.mpr (by rw [← ex5]; assumption)), tlM]; rw [if_neg (by omega)]; rw [if_neg (by omega)]; by_cases hw1 : wN = 1; rw [if_pos hw1]; exact hd1 hw1; rw [if_neg hw1, if_neg (by omega)]; have e4 : i2 = wt (V J) := (by omega); rw [hd3 (by omega), e4]) dX6_tells_229
                                · replace c165_14 : ¬ (wt (V J) ≤ i2) := fun h => c165_14 ((nI_leI (show wt (V J) < 2147483648 by omega) (show i2 < 2147483648 by omega)).mpr h)
                                  refine lv_aload_n hx hb dX6_tells_168 rfl (lv_at hl 2 rfl) ?_
                                  refine r_get hx hb hts hown hK hW 0 (0) 10 (mM (by decide) (by decide)) rfl rfl hinX6 (by decide) hf39 rfl rfl dX6_tells_169 ?_
                                  refine lv_iload hx hb dX6_tells_172 (lv_at hl 0 rfl) ?_
                                  refine rM_iald hx hb hK hW 22 (0) (i2) (by decide) (by decide) (by decide) (show i2 < 6 by omega) rfl dX6_tells_174 (fun x16 ex16 => ?_)
                                  have hrv : x16 = J 22 0 i2 := ex16.trans (sq_e hu (by decide) (by decide))
                                  refine lv_iload_n hx hb dX6_tells_175 rfl (lv_at hl 4 rfl) ?_
                                  refine lv_icmp_eq (tgt := 182) hx hb dX6_tells_176 (by decide) (fun c176_16 => ?_) (fun c176_16 => ?_)
                                  · refine lv_aload_n hx hb dX6_tells_182 rfl (lv_at hl 2 rfl) ?_
                                    refine lv_iload_n hx hb dX6_tells_183 rfl (lv_at hl 4 rfl) ?_
                                    refine lv_bipush (v := nI 28) hx hb dX6_tells_184 (by decide) ?_
                                    refine g_cv (va_runV (As := [.int (nI (rN)), .int (nI (28))]) (rest := []) ⟨hx, hb, hml, hown, hts⟩ (c_X6_again l D G ad hI v rN 28 (show rN < 33 by omega) (by decide)) (cwV 2 hts gX6_tells_X6_again rfl rfl rfl (by decide +kernel) ⟨Nat.le_of_ble_eq_true rfl, Nat.le_of_ble_eq_true rfl⟩) (g_preV hK hW 0 (0) (mM (by decide) (by decide)) rfl rfl) rfl rfl hl.1 rfl (lv_room (Nat.le_of_ble_eq_true rfl)) dX6_tells_186 ⟨Nat.le_refl _, Nat.le_refl _⟩) hS (fun I18 H locs hp hW hS => ?_)
                                    have eI18 : I18 = cpy v 28 rN := hp
                                    refine lv_aload_n hx hb dX6_tells_189 rfl (lv_at hl 2 rfl) ?_
                                    refine lv_bipush (v := nI 28) hx hb dX6_tells_190 (by decide) ?_
                                    refine lv_bipush (v := nI 20) hx hb dX6_tells_192 (by decide) ?_
                                    refine lv_iload hx hb dX6_tells_194 (lv_at hl 0 rfl) ?_
                                    refine lv_iadd hx hb dX6_tells_196 (r_top (nI_add _ _) ?_)
                                    refine g_cv (va_runV (As := [.int (nI (28)), .int (nI (20 + i2))]) (rest := []) ⟨hx, hb, hml, hown, hts⟩ (c_X6_join l D G ad hI I18 28 (20 + i2) (by decide) (show 20 + i2 < 33 by omega)) (cwV 2 hts gX6_tells_X6_join rfl rfl rfl (by decide +kernel) ⟨Nat.le_of_ble_eq_true rfl, Nat.le_of_ble_eq_true rfl⟩) (g_preV hK hW 0 (0) (mM (by decide) (by decide)) rfl rfl) rfl rfl hl.1 rfl (lv_room (Nat.le_of_ble_eq_true rfl)) dX6_tells_197 ⟨Nat.le_refl _, Nat.le_refl _⟩) hS (fun I19 H locs hp hW hS => ?_)
                                    have eI19 : I19 = jn I18 28 (20 + i2) := hp
                                    have hth : I19 = thM v rN i2 := by subst eI19 eI18; rfl
                                    have huI19 : Sm gM J I19 := by rw [hth]; exact sq_th hu _ _
                                    refine lv_aload_n hx hb dX6_tells_200 rfl (lv_at hl 2 rfl) ?_
                                    refine lv_iload_n hx hb dX6_tells_201 rfl (lv_at hl 3 rfl) ?_
                                    refine lv_bipush (v := nI 28) hx hb dX6_tells_202 (by decide) ?_
                                    refine lv_iload_n hx hb dX6_tells_204 rfl (lv_at hl 5 rfl) ?_
                                    refine g_ci (va_runV (As := [.int (nI (kN)), .int (nI (28)), .int (nI (aN))]) (rest := []) ⟨hx, hb, hml, hown, hts⟩ (c_X6_otherwise l D G ad hI I19 kN 28 aN (sl (V J) kN) (show kN < 4 by omega) (by decide) (show aN < 3 by omega) (show (sl (V J) kN) ≤ 4 by omega) ((sq_e huI19 (by decide) (by decide)).trans hLe9) (sq_M huI19 hM) (sq_K huI19 hKd)) (cwV 3 hts gX6_tells_X6_otherwise rfl rfl rfl (by decide +kernel) ⟨Nat.le_of_ble_eq_true rfl, Nat.le_of_ble_eq_true rfl⟩) (g_preV hK hW 0 (0) (mM (by decide) (by decide)) rfl rfl) rfl rfl hl.1 rfl (lv_room (Nat.le_of_ble_eq_true rfl)) dX6_tells_205 ⟨Nat.le_refl _, Nat.le_refl _⟩) hS (fun x20 I20 H locs hp hW hS => ?_)
                                    obtain ⟨ex20, eI20⟩ := hp
                                    rw [eI20] at hW
                                    clear eI20
                                    have hx9 : x20 = foM (thM J rN i2) kN 28 aN (sl (V J) kN) := by rw [ex20, hth]; exact th_foM hu hM (by omega) (by omega) _ _ _
                                    refine lv_iconst (v := (-1)) hx hb dX6_tells_208 (by decide) ?_
                                    refine lv_icmp_ne (tgt := 221) hx hb dX6_tells_209 (by decide) (fun c209_20 => ?_) (fun c209_20 => ?_)
                                    · refine lv_iinc (v := nI (i2 + 1)) (lv' := [(6, .int (nI (i2 + 1))), (5, .int (d2)), (0, .ref (ad 0 (0))), (1, .int (nI (kN))), (2, .int (nI (rN))), (3, .int (nI (aN))), (4, .int (nI (wN)))]) hx hb dX6_tells_221 hl (k := 0) rfl (nI_inc i2 1) (by decide) rfl (fun ls hl => ?_)
                                      refine lv_goto (tgt := 153) hx hb dX6_tells_224 (by decide) ?_
                                      exact ih153 (i2 + 1) (d2) (I19) (by omega) (fun q8 => absurd q8 (by omega)) (fun q8 => by rw [bits, if_neg (show ¬ tlP3 J kN rN aN (sl (V J) kN) i2 = true from fun q9 => c209_20 (hx9.trans (of_decide_eq_true (Bool.and_eq_true_iff.mp q9).2))), ← hd3 q8]) huI19 (by omega) _ _ hW hS _ (lv_sub hl [0, 1, 2, 3, 4, 5, 6] rfl)
                                    · refine lv_iload hx hb dX6_tells_212 (lv_at hl 1 rfl) ?_
                                      refine lv_iconst (v := nI 1) hx hb dX6_tells_214 (by decide) ?_
                                      refine lv_iload hx hb dX6_tells_215 (lv_at hl 0 rfl) ?_
                                      refine lv_ishl hx hb dX6_tells_217 (lv_topi (fun x22 ex22 => ?_))
                                      replace ex22 : x22 = b1 i2 := ex22
                                      refine lv_ior hx hb dX6_tells_218 (lv_topi (fun x23 ex23 => ?_))
                                      refine lv_istore (lv' := [(5, .int (x23)), (6, .int (nI (i2))), (0, .ref (ad 0 (0))), (1, .int (nI (kN))), (2, .int (nI (rN))), (3, .int (nI (aN))), (4, .int (nI (wN)))]) hx hb dX6_tells_219 hl (by decide) rfl (fun ls hl => ?_)
                                      refine lv_iinc (v := nI (i2 + 1)) (lv' := [(6, .int (nI (i2 + 1))), (5, .int (x23)), (0, .ref (ad 0 (0))), (1, .int (nI (kN))), (2, .int (nI (rN))), (3, .int (nI (aN))), (4, .int (nI (wN)))]) hx hb dX6_tells_221 hl (k := 1) rfl (nI_inc i2 1) (by decide) rfl (fun ls hl => ?_)
                                      refine lv_goto (tgt := 153) hx hb dX6_tells_224 (by decide) ?_
                                      exact ih153 (i2 + 1) (x23) (I19) (by omega) (fun q8 => absurd q8 (by omega)) (fun q8 => by subst ex23 ex22; rw [bits, if_pos (show tlP3 J kN rN aN (sl (V J) kN) i2 = true from Bool.and_eq_true_iff.mpr ⟨decide_eq_true (hrv.symm.trans c176_16), decide_eq_true (hx9.symm.trans c209_20)⟩), ← hd3 q8]) huI19 (by omega) _ _ hW hS _ (lv_sub hl [0, 1, 2, 3, 4, 5, 6] rfl)
                                  · refine lv_goto (tgt := 221) hx hb dX6_tells_179 (by decide) ?_
                                    refine lv_iinc (v := nI (i2 + 1)) (lv' := [(6, .int (nI (i2 + 1))), (5, .int (d2)), (0, .ref (ad 0 (0))), (1, .int (nI (kN))), (2, .int (nI (rN))), (3, .int (nI (aN))), (4, .int (nI (wN)))]) hx hb dX6_tells_221 hl (k := 0) rfl (nI_inc i2 1) (by decide) rfl (fun ls hl => ?_)
                                    refine lv_goto (tgt := 153) hx hb dX6_tells_224 (by decide) ?_
                                    exact ih153 (i2 + 1) (d2) (v) (by omega) (fun q8 => absurd q8 (by omega)) (fun q8 => by rw [bits, if_neg (show ¬ tlP3 J kN rN aN (sl (V J) kN) i2 = true from fun q9 => c176_16 (hrv.trans (of_decide_eq_true (Bool.and_eq_true_iff.mp q9).1))), ← hd3 q8]) hu (by omega) _ _ hW hS _ (lv_sub hl [0, 1, 2, 3, 4, 5, 6] rfl)
                          exact K153 ((wt (V J)) + 1) (0) (d) (J) (Nat.zero_le _) (fun q8 => absurd q8 c114_11) (fun q8 => hd0 (by omega)) Sm.rf (by omega) _ _ hW hS _ (lv_sub hl [0, 1, 2, 3, 4, 5, 6] rfl)
                        · replace c114_11 : wN = 1 := (nI_eq (show wN < 2147483648 by omega) (show 1 < 2147483648 by omega)).mp c114_11
                          have hw1 := c114_11
                          refine lv_iload hx hb dX6_tells_117 (lv_at hl 0 rfl) ?_
                          refine lv_iconst (v := nI 4) hx hb dX6_tells_119 (by decide) ?_
                          refine lv_icmp_ge (tgt := 150) hx hb dX6_tells_120 (by decide) (fun c120_23 => ?_) (fun c120_23 => ?_)
                          · replace c120_23 : 4 ≤ i := (nI_leI (show 4 < 2147483648 by omega) (show i < 2147483648 by omega)).mp c120_23
                            refine lv_iconst (v := nI 0) hx hb dX6_tells_150 (by decide) ?_
                            refine lv_istore (lv' := [(6, .int (nI (0))), (5, .int (d)), (0, .ref (ad 0 (0))), (1, .int (nI (kN))), (2, .int (nI (rN))), (3, .int (nI (aN))), (4, .int (nI (wN)))]) hx hb dX6_tells_151 hl (by decide) rfl (fun ls hl => ?_)
                            have K153 : ∀ (n : Nat) (i2 : Nat) (d2 : Int32) (v : St), (i2 ≤ wt (V J)) → (wN = 1 → d2 = bits (tlP1 J kN aN (sl (V J) kN)) 4) → (wN = 3 → d2 = bits (tlP3 J kN rN aN (sl (V J) kN)) i2) → (Sm gM J v) → (wt (V J)) < i2 + n → ∀ (H : Heap) (locs : List Loc), va_P D vwCl (wS LM ad (wM G ad v)) H → va_S (wA LM ad) s.heap H locs → ∀ (ls : Array Slot), lv_has ls 7 [(6, .int (nI (i2))), (5, .int (d2)), (0, .ref (ad 0 (0))), (1, .int (nI (kN))), (2, .int (nI (rN))), (3, .int (nI (aN))), (4, .int (nI (wN)))] → W p l e ({ frames := 7, cells := 0, slots := 0, locals := 185 } : Room) s m args below meth c H locs 0 0 Q (F0 m 153 ls []) := by
                              intro n153
                              induction n153 with
                              | zero => intro i2 d2 v hi2 hd1 hd3 hu hfu; exact absurd hfu (by omega)
                              | succ n153 ih153 =>
                                intro i2 d2 v hi2 hd1 hd3 hu hfu H locs hW hS ls hl
                                refine lv_iload hx hb dX6_tells_153 (lv_at hl 6 rfl) ?_
                                refine lv_iconst (v := nI 3) hx hb dX6_tells_155 (by decide) ?_
                                refine lv_icmp_ne (tgt := 227) hx hb dX6_tells_156 (by decide) (fun c156_24 => ?_) (fun c156_24 => ?_)
                                · replace c156_24 : ¬ wN = 3 := fun h => c156_24 ((nI_eq (show wN < 2147483648 by omega) (show 3 < 2147483648 by omega)).mpr h)
                                  refine lv_iload hx hb dX6_tells_227 (lv_at hl 1 rfl) ?_
                                  rw [hQ]
                                  exact g_iret (wd := wM G ad) hx hb hr rfl hlocks hW hS (by refine ⟨?_, hu⟩; rw [if_pos (by simp [k_kN, k_rN, k_aN, k_wN, show okN (nI 4) (nI 0) = true by decide +kernel])]; simp only [t_kN, t_rN, t_aN, t_wN]; rw [if_neg (Int32.not_lt.mpr (by rw [← ex5]; assumption)), tlM]; rw [if_neg (by omega)]; rw [if_neg (by omega)]; by_cases hw1 : wN = 1; rw [if_pos hw1]; exact hd1 hw1; rw [if_neg hw1, if_neg (by omega)]; have e4 : i2 = wt (V J) := (by omega); rw [hd3 (by omega), e4]) dX6_tells_229
                                · replace c156_24 : wN = 3 := (nI_eq (show wN < 2147483648 by omega) (show 3 < 2147483648 by omega)).mp c156_24
                                  refine lv_iload hx hb dX6_tells_159 (lv_at hl 0 rfl) ?_
                                  refine lv_aload_n hx hb dX6_tells_161 rfl (lv_at hl 2 rfl) ?_
                                  refine r_get hx hb hts hown hK hW 0 (0) 8 (mM (by decide) (by decide)) rfl rfl hinX6 (by decide) hf92 rfl rfl dX6_tells_162 (lv_topi (fun x26 ex26 => ?_))
                                  refine r_top (show x26 = nI (wt (V J)) from (ex26.trans ((sq_e hu (by decide) (by decide)).trans hT.1))) ?_
                                  refine lv_icmp_ge (tgt := 227) hx hb dX6_tells_165 (by decide) (fun c165_26 => ?_) (fun c165_26 => ?_)
                                  · replace c165_26 : wt (V J) ≤ i2 := (nI_leI (show wt (V J) < 2147483648 by omega) (show i2 < 2147483648 by omega)).mp c165_26
                                    refine lv_iload hx hb dX6_tells_227 (lv_at hl 1 rfl) ?_
                                    rw [hQ]
                                    exact g_iret (wd := wM G ad) hx hb hr rfl hlocks hW hS (by refine ⟨?_, hu⟩; rw [if_pos (by simp [k_kN, k_rN, k_aN, k_wN, show okN (nI 4) (nI 0) = true by decide +kernel])]; simp only [t_kN, t_rN, t_aN, t_wN]; rw [if_neg (Int32.not_lt.mpr (by rw [← ex5]; assumption)), tlM]; rw [if_neg (by omega)]; rw [if_neg (by omega)]; by_cases hw1 : wN = 1; rw [if_pos hw1]; exact hd1 hw1; rw [if_neg hw1, if_neg (by omega)]; have e4 : i2 = wt (V J) := (by omega); rw [hd3 (by omega), e4]) dX6_tells_229
                                  · replace c165_26 : ¬ (wt (V J) ≤ i2) := fun h => c165_26 ((nI_leI (show wt (V J) < 2147483648 by omega) (show i2 < 2147483648 by omega)).mpr h)
                                    refine lv_aload_n hx hb dX6_tells_168 rfl (lv_at hl 2 rfl) ?_
                                    refine r_get hx hb hts hown hK hW 0 (0) 10 (mM (by decide) (by decide)) rfl rfl hinX6 (by decide) hf39 rfl rfl dX6_tells_169 ?_
                                    refine lv_iload hx hb dX6_tells_172 (lv_at hl 0 rfl) ?_
                                    refine rM_iald hx hb hK hW 22 (0) (i2) (by decide) (by decide) (by decide) (show i2 < 6 by omega) rfl dX6_tells_174 (fun x28 ex28 => ?_)
                                    have hrv : x28 = J 22 0 i2 := ex28.trans (sq_e hu (by decide) (by decide))
                                    refine lv_iload_n hx hb dX6_tells_175 rfl (lv_at hl 4 rfl) ?_
                                    refine lv_icmp_eq (tgt := 182) hx hb dX6_tells_176 (by decide) (fun c176_28 => ?_) (fun c176_28 => ?_)
                                    · refine lv_aload_n hx hb dX6_tells_182 rfl (lv_at hl 2 rfl) ?_
                                      refine lv_iload_n hx hb dX6_tells_183 rfl (lv_at hl 4 rfl) ?_
                                      refine lv_bipush (v := nI 28) hx hb dX6_tells_184 (by decide) ?_
                                      refine g_cv (va_runV (As := [.int (nI (rN)), .int (nI (28))]) (rest := []) ⟨hx, hb, hml, hown, hts⟩ (c_X6_again l D G ad hI v rN 28 (show rN < 33 by omega) (by decide)) (cwV 2 hts gX6_tells_X6_again rfl rfl rfl (by decide +kernel) ⟨Nat.le_of_ble_eq_true rfl, Nat.le_of_ble_eq_true rfl⟩) (g_preV hK hW 0 (0) (mM (by decide) (by decide)) rfl rfl) rfl rfl hl.1 rfl (lv_room (Nat.le_of_ble_eq_true rfl)) dX6_tells_186 ⟨Nat.le_refl _, Nat.le_refl _⟩) hS (fun I30 H locs hp hW hS => ?_)
                                      have eI30 : I30 = cpy v 28 rN := hp
                                      refine lv_aload_n hx hb dX6_tells_189 rfl (lv_at hl 2 rfl) ?_
                                      refine lv_bipush (v := nI 28) hx hb dX6_tells_190 (by decide) ?_
                                      refine lv_bipush (v := nI 20) hx hb dX6_tells_192 (by decide) ?_
                                      refine lv_iload hx hb dX6_tells_194 (lv_at hl 0 rfl) ?_
                                      refine lv_iadd hx hb dX6_tells_196 (r_top (nI_add _ _) ?_)
                                      refine g_cv (va_runV (As := [.int (nI (28)), .int (nI (20 + i2))]) (rest := []) ⟨hx, hb, hml, hown, hts⟩ (c_X6_join l D G ad hI I30 28 (20 + i2) (by decide) (show 20 + i2 < 33 by omega)) (cwV 2 hts gX6_tells_X6_join rfl rfl rfl (by decide +kernel) ⟨Nat.le_of_ble_eq_true rfl, Nat.le_of_ble_eq_true rfl⟩) (g_preV hK hW 0 (0) (mM (by decide) (by decide)) rfl rfl) rfl rfl hl.1 rfl (lv_room (Nat.le_of_ble_eq_true rfl)) dX6_tells_197 ⟨Nat.le_refl _, Nat.le_refl _⟩) hS (fun I31 H locs hp hW hS => ?_)
                                      have eI31 : I31 = jn I30 28 (20 + i2) := hp
                                      have hth : I31 = thM v rN i2 := by subst eI31 eI30; rfl
                                      have huI31 : Sm gM J I31 := by rw [hth]; exact sq_th hu _ _
                                      refine lv_aload_n hx hb dX6_tells_200 rfl (lv_at hl 2 rfl) ?_
                                      refine lv_iload_n hx hb dX6_tells_201 rfl (lv_at hl 3 rfl) ?_
                                      refine lv_bipush (v := nI 28) hx hb dX6_tells_202 (by decide) ?_
                                      refine lv_iload_n hx hb dX6_tells_204 rfl (lv_at hl 5 rfl) ?_
                                      refine g_ci (va_runV (As := [.int (nI (kN)), .int (nI (28)), .int (nI (aN))]) (rest := []) ⟨hx, hb, hml, hown, hts⟩ (c_X6_otherwise l D G ad hI I31 kN 28 aN (sl (V J) kN) (show kN < 4 by omega) (by decide) (show aN < 3 by omega) (show (sl (V J) kN) ≤ 4 by omega) ((sq_e huI31 (by decide) (by decide)).trans hLe9) (sq_M huI31 hM) (sq_K huI31 hKd)) (cwV 3 hts gX6_tells_X6_otherwise rfl rfl rfl (by decide +kernel) ⟨Nat.le_of_ble_eq_true rfl, Nat.le_of_ble_eq_true rfl⟩) (g_preV hK hW 0 (0) (mM (by decide) (by decide)) rfl rfl) rfl rfl hl.1 rfl (lv_room (Nat.le_of_ble_eq_true rfl)) dX6_tells_205 ⟨Nat.le_refl _, Nat.le_refl _⟩) hS (fun x32 I32 H locs hp hW hS => ?_)
                                      obtain ⟨ex32, eI32⟩ := hp
                                      rw [eI32] at hW
                                      clear eI32
                                      have hx9 : x32 = foM (thM J rN i2) kN 28 aN (sl (V J) kN) := by rw [ex32, hth]; exact th_foM hu hM (by omega) (by omega) _ _ _
                                      refine lv_iconst (v := (-1)) hx hb dX6_tells_208 (by decide) ?_
                                      refine lv_icmp_ne (tgt := 221) hx hb dX6_tells_209 (by decide) (fun c209_32 => ?_) (fun c209_32 => ?_)
                                      · refine lv_iinc (v := nI (i2 + 1)) (lv' := [(6, .int (nI (i2 + 1))), (5, .int (d2)), (0, .ref (ad 0 (0))), (1, .int (nI (kN))), (2, .int (nI (rN))), (3, .int (nI (aN))), (4, .int (nI (wN)))]) hx hb dX6_tells_221 hl (k := 0) rfl (nI_inc i2 1) (by decide) rfl (fun ls hl => ?_)
                                        refine lv_goto (tgt := 153) hx hb dX6_tells_224 (by decide) ?_
                                        exact ih153 (i2 + 1) (d2) (I31) (by omega) (fun q8 => absurd q8 (by omega)) (fun q8 => by rw [bits, if_neg (show ¬ tlP3 J kN rN aN (sl (V J) kN) i2 = true from fun q9 => c209_32 (hx9.trans (of_decide_eq_true (Bool.and_eq_true_iff.mp q9).2))), ← hd3 q8]) huI31 (by omega) _ _ hW hS _ (lv_sub hl [0, 1, 2, 3, 4, 5, 6] rfl)
                                      · refine lv_iload hx hb dX6_tells_212 (lv_at hl 1 rfl) ?_
                                        refine lv_iconst (v := nI 1) hx hb dX6_tells_214 (by decide) ?_
                                        refine lv_iload hx hb dX6_tells_215 (lv_at hl 0 rfl) ?_
                                        refine lv_ishl hx hb dX6_tells_217 (lv_topi (fun x34 ex34 => ?_))
                                        replace ex34 : x34 = b1 i2 := ex34
                                        refine lv_ior hx hb dX6_tells_218 (lv_topi (fun x35 ex35 => ?_))
                                        refine lv_istore (lv' := [(5, .int (x35)), (6, .int (nI (i2))), (0, .ref (ad 0 (0))), (1, .int (nI (kN))), (2, .int (nI (rN))), (3, .int (nI (aN))), (4, .int (nI (wN)))]) hx hb dX6_tells_219 hl (by decide) rfl (fun ls hl => ?_)
                                        refine lv_iinc (v := nI (i2 + 1)) (lv' := [(6, .int (nI (i2 + 1))), (5, .int (x35)), (0, .ref (ad 0 (0))), (1, .int (nI (kN))), (2, .int (nI (rN))), (3, .int (nI (aN))), (4, .int (nI (wN)))]) hx hb dX6_tells_221 hl (k := 1) rfl (nI_inc i2 1) (by decide) rfl (fun ls hl => ?_)
                                        refine lv_goto (tgt := 153) hx hb dX6_tells_224 (by decide) ?_
                                        exact ih153 (i2 + 1) (x35) (I31) (by omega) (fun q8 => absurd q8 (by omega)) (fun q8 => by subst ex35 ex34; rw [bits, if_pos (show tlP3 J kN rN aN (sl (V J) kN) i2 = true from Bool.and_eq_true_iff.mpr ⟨decide_eq_true (hrv.symm.trans c176_28), decide_eq_true (hx9.symm.trans c209_32)⟩), ← hd3 q8]) huI31 (by omega) _ _ hW hS _ (lv_sub hl [0, 1, 2, 3, 4, 5, 6] rfl)
                                    · refine lv_goto (tgt := 221) hx hb dX6_tells_179 (by decide) ?_
                                      refine lv_iinc (v := nI (i2 + 1)) (lv' := [(6, .int (nI (i2 + 1))), (5, .int (d2)), (0, .ref (ad 0 (0))), (1, .int (nI (kN))), (2, .int (nI (rN))), (3, .int (nI (aN))), (4, .int (nI (wN)))]) hx hb dX6_tells_221 hl (k := 0) rfl (nI_inc i2 1) (by decide) rfl (fun ls hl => ?_)
                                      refine lv_goto (tgt := 153) hx hb dX6_tells_224 (by decide) ?_
                                      exact ih153 (i2 + 1) (d2) (v) (by omega) (fun q8 => absurd q8 (by omega)) (fun q8 => by rw [bits, if_neg (show ¬ tlP3 J kN rN aN (sl (V J) kN) i2 = true from fun q9 => c176_28 (hrv.trans (of_decide_eq_true (Bool.and_eq_true_iff.mp q9).1))), ← hd3 q8]) hu (by omega) _ _ hW hS _ (lv_sub hl [0, 1, 2, 3, 4, 5, 6] rfl)
                            exact K153 ((wt (V J)) + 1) (0) (d) (J) (Nat.zero_le _) (fun q8 => by have e4 : i = 4 := (by omega); subst e4; exact hd q8) (fun q8 => absurd q8 (by omega)) Sm.rf (by omega) _ _ hW hS _ (lv_sub hl [0, 1, 2, 3, 4, 5, 6] rfl)
                          · replace c120_23 : ¬ (4 ≤ i) := fun h => c120_23 ((nI_leI (show 4 < 2147483648 by omega) (show i < 2147483648 by omega)).mpr h)
                            refine lv_aload_n hx hb dX6_tells_123 rfl (lv_at hl 2 rfl) ?_
                            refine lv_iload_n hx hb dX6_tells_124 rfl (lv_at hl 3 rfl) ?_
                            refine lv_iload hx hb dX6_tells_125 (lv_at hl 0 rfl) ?_
                            refine lv_iload_n hx hb dX6_tells_127 rfl (lv_at hl 5 rfl) ?_
                            refine g_ci (va_runV (As := [.int (nI (kN)), .int (nI (i)), .int (nI (aN))]) (rest := []) ⟨hx, hb, hml, hown, hts⟩ (c_X6_otherwise l D G ad hI J kN i aN (sl (V J) kN) (show kN < 4 by omega) (show i < 33 by omega) (show aN < 3 by omega) (show (sl (V J) kN) ≤ 4 by omega) hLe9 hM hKd) (cwV 3 hts gX6_tells_X6_otherwise rfl rfl rfl (by decide +kernel) ⟨Nat.le_of_ble_eq_true rfl, Nat.le_of_ble_eq_true rfl⟩) (g_preV hK hW 0 (0) (mM (by decide) (by decide)) rfl rfl) rfl rfl hl.1 rfl (lv_room (Nat.le_of_ble_eq_true rfl)) dX6_tells_128 ⟨Nat.le_refl _, Nat.le_refl _⟩) hS (fun x36 I36 H locs hp hW hS => ?_)
                            obtain ⟨ex36, eI36⟩ := hp
                            rw [eI36] at hW
                            clear eI36
                            refine lv_iconst (v := (-1)) hx hb dX6_tells_131 (by decide) ?_
                            refine lv_icmp_ne (tgt := 144) hx hb dX6_tells_132 (by decide) (fun c132_36 => ?_) (fun c132_36 => ?_)
                            · refine lv_iinc (v := nI (i + 1)) (lv' := [(6, .int (nI (i + 1))), (5, .int (d)), (0, .ref (ad 0 (0))), (1, .int (nI (kN))), (2, .int (nI (rN))), (3, .int (nI (aN))), (4, .int (nI (wN)))]) hx hb dX6_tells_144 hl (k := 0) rfl (nI_inc i 1) (by decide) rfl (fun ls hl => ?_)
                              refine lv_goto (tgt := 111) hx hb dX6_tells_147 (by decide) ?_
                              exact ih111 (i + 1) (d) (by omega) (fun q8 => by rw [bits, if_neg (show ¬ tlP1 J kN aN (sl (V J) kN) i = true from fun q9 => c132_36 (ex36.trans (of_decide_eq_true q9))), ← hd q8]) (fun q8 => absurd hw1 q8) (by omega) _ _ hW hS _ (lv_sub hl [0, 1, 2, 3, 4, 5, 6] rfl)
                            · refine lv_iload hx hb dX6_tells_135 (lv_at hl 1 rfl) ?_
                              refine lv_iconst (v := nI 1) hx hb dX6_tells_137 (by decide) ?_
                              refine lv_iload hx hb dX6_tells_138 (lv_at hl 0 rfl) ?_
                              refine lv_ishl hx hb dX6_tells_140 (lv_topi (fun x38 ex38 => ?_))
                              replace ex38 : x38 = b1 i := ex38
                              refine lv_ior hx hb dX6_tells_141 (lv_topi (fun x39 ex39 => ?_))
                              refine lv_istore (lv' := [(5, .int (x39)), (6, .int (nI (i))), (0, .ref (ad 0 (0))), (1, .int (nI (kN))), (2, .int (nI (rN))), (3, .int (nI (aN))), (4, .int (nI (wN)))]) hx hb dX6_tells_142 hl (by decide) rfl (fun ls hl => ?_)
                              refine lv_iinc (v := nI (i + 1)) (lv' := [(6, .int (nI (i + 1))), (5, .int (x39)), (0, .ref (ad 0 (0))), (1, .int (nI (kN))), (2, .int (nI (rN))), (3, .int (nI (aN))), (4, .int (nI (wN)))]) hx hb dX6_tells_144 hl (k := 1) rfl (nI_inc i 1) (by decide) rfl (fun ls hl => ?_)
                              refine lv_goto (tgt := 111) hx hb dX6_tells_147 (by decide) ?_
                              exact ih111 (i + 1) (x39) (by omega) (fun q8 => by subst ex39 ex38; rw [bits, if_pos (show tlP1 J kN aN (sl (V J) kN) i = true from decide_eq_true (ex36.symm.trans c132_36)), ← hd q8]) (fun q8 => absurd hw1 q8) (by omega) _ _ hW hS _ (lv_sub hl [0, 1, 2, 3, 4, 5, 6] rfl)
                    exact K111 (4 + 1) (0) (nI (0)) (by decide) (fun _ => rfl) (fun _ => rfl) (by omega) _ _ hW hS _ (lv_sub hl [0, 1, 2, 3, 4, 5, 6] rfl)
                  · replace c94_10 : wN = 2 := (nI_eq (show wN < 2147483648 by omega) (show 2 < 2147483648 by omega)).mp c94_10
                    refine lv_aload_n hx hb dX6_tells_97 rfl (lv_at hl 0 rfl) ?_
                    refine lv_iload_n hx hb dX6_tells_98 rfl (lv_at hl 1 rfl) ?_
                    refine lv_iload_n hx hb dX6_tells_99 rfl (lv_at hl 2 rfl) ?_
                    refine lv_iload_n hx hb dX6_tells_100 rfl (lv_at hl 3 rfl) ?_
                    refine g_ci (va_runV (As := [.int (nI (kN)), .int (nI (rN)), .int (nI (aN))]) (rest := []) ⟨hx, hb, hml, hown, hts⟩ (c_X6_kindsBy l D G ad hI J kN rN aN (sl (V J) kN) (show kN < 4 by omega) (show rN < 33 by omega) (show aN < 3 by omega) (show (sl (V J) kN) ≤ 4 by omega) hLe9 hM hKd) (cwV 3 hts gX6_tells_X6_kindsBy rfl rfl rfl (by decide +kernel) ⟨Nat.le_of_ble_eq_true rfl, Nat.le_of_ble_eq_true rfl⟩) (g_preV hK hW 0 (0) (mM (by decide) (by decide)) rfl rfl) rfl rfl hl.1 rfl (lv_room (Nat.le_of_ble_eq_true rfl)) dX6_tells_101 ⟨Nat.le_refl _, Nat.le_refl _⟩) hS (fun x40 I40 H locs hp hW hS => ?_)
                    obtain ⟨ex40, eI40⟩ := hp
                    rw [eI40] at hW
                    clear eI40
                    rw [hQ]
                    exact g_iret (wd := wM G ad) hx hb hr rfl hlocks hW hS (by subst ex40 ex7 ex5; refine ⟨?_, Sm.rf⟩; rw [if_pos (by simp [k_kN, k_rN, k_aN, k_wN, show okN (nI 4) (nI 0) = true by decide +kernel])]; simp only [t_kN, t_rN, t_aN, t_wN]; rw [if_neg (Int32.not_lt.mpr (by assumption)), tlM]; rw [if_neg (by omega)]; rw [if_neg (by omega), if_neg (by omega), if_pos (by omega)]) dX6_tells_104
                · replace c80_9 : wN = 0 := (nI_eq (show wN < 2147483648 by omega) (show 0 < 2147483648 by omega)).mp c80_9
                  refine lv_aload_n hx hb dX6_tells_83 rfl (lv_at hl 0 rfl) ?_
                  refine lv_iload_n hx hb dX6_tells_84 rfl (lv_at hl 1 rfl) ?_
                  refine lv_iload_n hx hb dX6_tells_85 rfl (lv_at hl 2 rfl) ?_
                  refine lv_iload_n hx hb dX6_tells_86 rfl (lv_at hl 3 rfl) ?_
                  refine g_ci (va_runV (As := [.int (nI (kN)), .int (nI (rN)), .int (nI (aN))]) (rest := []) ⟨hx, hb, hml, hown, hts⟩ (c_X6_otherwise l D G ad hI J kN rN aN (sl (V J) kN) (show kN < 4 by omega) (show rN < 33 by omega) (show aN < 3 by omega) (show (sl (V J) kN) ≤ 4 by omega) hLe9 hM hKd) (cwV 3 hts gX6_tells_X6_otherwise rfl rfl rfl (by decide +kernel) ⟨Nat.le_of_ble_eq_true rfl, Nat.le_of_ble_eq_true rfl⟩) (g_preV hK hW 0 (0) (mM (by decide) (by decide)) rfl rfl) rfl rfl hl.1 rfl (lv_room (Nat.le_of_ble_eq_true rfl)) dX6_tells_87 ⟨Nat.le_refl _, Nat.le_refl _⟩) hS (fun x41 I41 H locs hp hW hS => ?_)
                  obtain ⟨ex41, eI41⟩ := hp
                  rw [eI41] at hW
                  clear eI41
                  rw [hQ]
                  exact g_iret (wd := wM G ad) hx hb hr rfl hlocks hW hS (by subst ex41 ex7 ex5; refine ⟨?_, Sm.rf⟩; rw [if_pos (by simp [k_kN, k_rN, k_aN, k_wN, show okN (nI 4) (nI 0) = true by decide +kernel])]; simp only [t_kN, t_rN, t_aN, t_wN]; rw [if_neg (Int32.not_lt.mpr (by assumption)), tlM]; rw [if_neg (by omega)]; rw [if_pos (by omega)]) dX6_tells_90
              · replace c63_8 : wN = 2 := (nI_eq (show wN < 2147483648 by omega) (show 2 < 2147483648 by omega)).mp c63_8
                refine lv_aload_n hx hb dX6_tells_66 rfl (lv_at hl 0 rfl) ?_
                refine r_get hx hb hts hown hK hW 0 (0) 24 (mM (by decide) (by decide)) rfl rfl hinX6 (by decide) hf75 rfl rfl dX6_tells_67 ?_
                refine lv_iload_n hx hb dX6_tells_70 rfl (lv_at hl 1 rfl) ?_
                refine rM_iald hx hb hK hW 24 (0) (kN) (by decide) (by decide) (by decide) (show kN < 4 by omega) rfl dX6_tells_71 (fun x42 ex42 => ?_)
                have hs40 := (hSh kN (by omega)).2
                refine r_top (show x42 = nI (sl (V J) kN) from (ex42.trans (hSh kN (by omega)).1)) ?_
                refine lv_if_ne (tgt := 78) hx hb dX6_tells_72 (by decide) (fun c72_42 => ?_) (fun c72_42 => ?_)
                · replace c72_42 : ¬ sl (V J) kN = 0 := fun h => c72_42 ((nI_eq (show sl (V J) kN < 2147483648 by omega) (show 0 < 2147483648 by omega)).mpr h)
                  refine lv_iload hx hb dX6_tells_78 (lv_at hl 4 rfl) ?_
                  refine lv_if_ne (tgt := 91) hx hb dX6_tells_80 (by decide) (fun c80_43 => ?_) (fun c80_43 => ?_)
                  · replace c80_43 : ¬ wN = 0 := fun h => c80_43 ((nI_eq (show wN < 2147483648 by omega) (show 0 < 2147483648 by omega)).mpr h)
                    refine lv_iload hx hb dX6_tells_91 (lv_at hl 4 rfl) ?_
                    refine lv_iconst (v := nI 2) hx hb dX6_tells_93 (by decide) ?_
                    refine lv_icmp_ne (tgt := 105) hx hb dX6_tells_94 (by decide) (fun c94_44 => ?_) (fun c94_44 => ?_)
                    · replace c94_44 : ¬ wN = 2 := fun h => c94_44 ((nI_eq (show wN < 2147483648 by omega) (show 2 < 2147483648 by omega)).mpr h)
                      refine lv_iconst (v := nI 0) hx hb dX6_tells_105 (by decide) ?_
                      refine lv_istore (lv' := [(5, .int (nI (0))), (0, .ref (ad 0 (0))), (1, .int (nI (kN))), (2, .int (nI (rN))), (3, .int (nI (aN))), (4, .int (nI (wN)))]) hx hb dX6_tells_106 hl (by decide) rfl (fun ls hl => ?_)
                      refine lv_iconst (v := nI 0) hx hb dX6_tells_108 (by decide) ?_
                      refine lv_istore (lv' := [(6, .int (nI (0))), (5, .int (nI (0))), (0, .ref (ad 0 (0))), (1, .int (nI (kN))), (2, .int (nI (rN))), (3, .int (nI (aN))), (4, .int (nI (wN)))]) hx hb dX6_tells_109 hl (by decide) rfl (fun ls hl => ?_)
                      have K111 : ∀ (n : Nat) (i : Nat) (d : Int32), (i ≤ 4) → (wN = 1 → d = bits (tlP1 J kN aN (sl (V J) kN)) i) → (¬ wN = 1 → d = nI 0) → 4 < i + n → ∀ (H : Heap) (locs : List Loc), va_P D vwCl (wS LM ad (wM G ad J)) H → va_S (wA LM ad) s.heap H locs → ∀ (ls : Array Slot), lv_has ls 7 [(6, .int (nI (i))), (5, .int (d)), (0, .ref (ad 0 (0))), (1, .int (nI (kN))), (2, .int (nI (rN))), (3, .int (nI (aN))), (4, .int (nI (wN)))] → W p l e ({ frames := 7, cells := 0, slots := 0, locals := 185 } : Room) s m args below meth c H locs 0 0 Q (F0 m 111 ls []) := by
                        intro n111
                        induction n111 with
                        | zero => intro i d hi hd hd0 hfu; exact absurd hfu (by omega)
                        | succ n111 ih111 =>
                          intro i d hi hd hd0 hfu H locs hW hS ls hl
                          refine lv_iload hx hb dX6_tells_111 (lv_at hl 6 rfl) ?_
                          refine lv_iconst (v := nI 1) hx hb dX6_tells_113 (by decide) ?_
                          refine lv_icmp_ne (tgt := 150) hx hb dX6_tells_114 (by decide) (fun c114_45 => ?_) (fun c114_45 => ?_)
                          · replace c114_45 : ¬ wN = 1 := fun h => c114_45 ((nI_eq (show wN < 2147483648 by omega) (show 1 < 2147483648 by omega)).mpr h)
                            refine lv_iconst (v := nI 0) hx hb dX6_tells_150 (by decide) ?_
                            refine lv_istore (lv' := [(6, .int (nI (0))), (5, .int (d)), (0, .ref (ad 0 (0))), (1, .int (nI (kN))), (2, .int (nI (rN))), (3, .int (nI (aN))), (4, .int (nI (wN)))]) hx hb dX6_tells_151 hl (by decide) rfl (fun ls hl => ?_)
                            have K153 : ∀ (n : Nat) (i2 : Nat) (d2 : Int32) (v : St), (i2 ≤ wt (V J)) → (wN = 1 → d2 = bits (tlP1 J kN aN (sl (V J) kN)) 4) → (wN = 3 → d2 = bits (tlP3 J kN rN aN (sl (V J) kN)) i2) → (Sm gM J v) → (wt (V J)) < i2 + n → ∀ (H : Heap) (locs : List Loc), va_P D vwCl (wS LM ad (wM G ad v)) H → va_S (wA LM ad) s.heap H locs → ∀ (ls : Array Slot), lv_has ls 7 [(6, .int (nI (i2))), (5, .int (d2)), (0, .ref (ad 0 (0))), (1, .int (nI (kN))), (2, .int (nI (rN))), (3, .int (nI (aN))), (4, .int (nI (wN)))] → W p l e ({ frames := 7, cells := 0, slots := 0, locals := 185 } : Room) s m args below meth c H locs 0 0 Q (F0 m 153 ls []) := by
                              intro n153
                              induction n153 with
                              | zero => intro i2 d2 v hi2 hd1 hd3 hu hfu; exact absurd hfu (by omega)
                              | succ n153 ih153 =>
                                intro i2 d2 v hi2 hd1 hd3 hu hfu H locs hW hS ls hl
                                refine lv_iload hx hb dX6_tells_153 (lv_at hl 6 rfl) ?_
                                refine lv_iconst (v := nI 3) hx hb dX6_tells_155 (by decide) ?_
                                refine lv_icmp_ne (tgt := 227) hx hb dX6_tells_156 (by decide) (fun c156_46 => ?_) (fun c156_46 => ?_)
                                · replace c156_46 : ¬ wN = 3 := fun h => c156_46 ((nI_eq (show wN < 2147483648 by omega) (show 3 < 2147483648 by omega)).mpr h)
                                  refine lv_iload hx hb dX6_tells_227 (lv_at hl 1 rfl) ?_
                                  rw [hQ]
                                  exact g_iret (wd := wM G ad) hx hb hr rfl hlocks hW hS (by refine ⟨?_, hu⟩; rw [if_pos (by simp [k_kN, k_rN, k_aN, k_wN, show okN (nI 4) (nI 0) = true by decide +kernel])]; simp only [t_kN, t_rN, t_aN, t_wN]; rw [if_neg (Int32.not_lt.mpr (by rw [← ex5]; assumption)), tlM]; rw [if_neg (by omega)]; rw [if_neg (by omega)]; by_cases hw1 : wN = 1; rw [if_pos hw1]; exact hd1 hw1; rw [if_neg hw1, if_neg (by omega)]; have e4 : i2 = wt (V J) := (by omega); rw [hd3 (by omega), e4]) dX6_tells_229
                                · replace c156_46 : wN = 3 := (nI_eq (show wN < 2147483648 by omega) (show 3 < 2147483648 by omega)).mp c156_46
                                  refine lv_iload hx hb dX6_tells_159 (lv_at hl 0 rfl) ?_
                                  refine lv_aload_n hx hb dX6_tells_161 rfl (lv_at hl 2 rfl) ?_
                                  refine r_get hx hb hts hown hK hW 0 (0) 8 (mM (by decide) (by decide)) rfl rfl hinX6 (by decide) hf92 rfl rfl dX6_tells_162 (lv_topi (fun x48 ex48 => ?_))
                                  refine r_top (show x48 = nI (wt (V J)) from (ex48.trans ((sq_e hu (by decide) (by decide)).trans hT.1))) ?_
                                  refine lv_icmp_ge (tgt := 227) hx hb dX6_tells_165 (by decide) (fun c165_48 => ?_) (fun c165_48 => ?_)
                                  · replace c165_48 : wt (V J) ≤ i2 := (nI_leI (show wt (V J) < 2147483648 by omega) (show i2 < 2147483648 by omega)).mp c165_48
                                    refine lv_iload hx hb dX6_tells_227 (lv_at hl 1 rfl) ?_
                                    rw [hQ]
                                    exact g_iret (wd := wM G ad) hx hb hr rfl hlocks hW hS (by refine ⟨?_, hu⟩; rw [if_pos (by simp [k_kN, k_rN, k_aN, k_wN, show okN (nI 4) (nI 0) = true by decide +kernel])]; simp only [t_kN, t_rN, t_aN, t_wN]; rw [if_neg (Int32.not_lt.mpr (by rw [← ex5]; assumption)), tlM]; rw [if_neg (by omega)]; rw [if_neg (by omega)]; by_cases hw1 : wN = 1; rw [if_pos hw1]; exact hd1 hw1; rw [if_neg hw1, if_neg (by omega)]; have e4 : i2 = wt (V J) := (by omega); rw [hd3 (by omega), e4]) dX6_tells_229
                                  · replace c165_48 : ¬ (wt (V J) ≤ i2) := fun h => c165_48 ((nI_leI (show wt (V J) < 2147483648 by omega) (show i2 < 2147483648 by omega)).mpr h)
                                    refine lv_aload_n hx hb dX6_tells_168 rfl (lv_at hl 2 rfl) ?_
                                    refine r_get hx hb hts hown hK hW 0 (0) 10 (mM (by decide) (by decide)) rfl rfl hinX6 (by decide) hf39 rfl rfl dX6_tells_169 ?_
                                    refine lv_iload hx hb dX6_tells_172 (lv_at hl 0 rfl) ?_
                                    refine rM_iald hx hb hK hW 22 (0) (i2) (by decide) (by decide) (by decide) (show i2 < 6 by omega) rfl dX6_tells_174 (fun x50 ex50 => ?_)
                                    have hrv : x50 = J 22 0 i2 := ex50.trans (sq_e hu (by decide) (by decide))
                                    refine lv_iload_n hx hb dX6_tells_175 rfl (lv_at hl 4 rfl) ?_
                                    refine lv_icmp_eq (tgt := 182) hx hb dX6_tells_176 (by decide) (fun c176_50 => ?_) (fun c176_50 => ?_)
                                    · refine lv_aload_n hx hb dX6_tells_182 rfl (lv_at hl 2 rfl) ?_
                                      refine lv_iload_n hx hb dX6_tells_183 rfl (lv_at hl 4 rfl) ?_
                                      refine lv_bipush (v := nI 28) hx hb dX6_tells_184 (by decide) ?_
                                      refine g_cv (va_runV (As := [.int (nI (rN)), .int (nI (28))]) (rest := []) ⟨hx, hb, hml, hown, hts⟩ (c_X6_again l D G ad hI v rN 28 (show rN < 33 by omega) (by decide)) (cwV 2 hts gX6_tells_X6_again rfl rfl rfl (by decide +kernel) ⟨Nat.le_of_ble_eq_true rfl, Nat.le_of_ble_eq_true rfl⟩) (g_preV hK hW 0 (0) (mM (by decide) (by decide)) rfl rfl) rfl rfl hl.1 rfl (lv_room (Nat.le_of_ble_eq_true rfl)) dX6_tells_186 ⟨Nat.le_refl _, Nat.le_refl _⟩) hS (fun I52 H locs hp hW hS => ?_)
                                      have eI52 : I52 = cpy v 28 rN := hp
                                      refine lv_aload_n hx hb dX6_tells_189 rfl (lv_at hl 2 rfl) ?_
                                      refine lv_bipush (v := nI 28) hx hb dX6_tells_190 (by decide) ?_
                                      refine lv_bipush (v := nI 20) hx hb dX6_tells_192 (by decide) ?_
                                      refine lv_iload hx hb dX6_tells_194 (lv_at hl 0 rfl) ?_
                                      refine lv_iadd hx hb dX6_tells_196 (r_top (nI_add _ _) ?_)
                                      refine g_cv (va_runV (As := [.int (nI (28)), .int (nI (20 + i2))]) (rest := []) ⟨hx, hb, hml, hown, hts⟩ (c_X6_join l D G ad hI I52 28 (20 + i2) (by decide) (show 20 + i2 < 33 by omega)) (cwV 2 hts gX6_tells_X6_join rfl rfl rfl (by decide +kernel) ⟨Nat.le_of_ble_eq_true rfl, Nat.le_of_ble_eq_true rfl⟩) (g_preV hK hW 0 (0) (mM (by decide) (by decide)) rfl rfl) rfl rfl hl.1 rfl (lv_room (Nat.le_of_ble_eq_true rfl)) dX6_tells_197 ⟨Nat.le_refl _, Nat.le_refl _⟩) hS (fun I53 H locs hp hW hS => ?_)
                                      have eI53 : I53 = jn I52 28 (20 + i2) := hp
                                      have hth : I53 = thM v rN i2 := by subst eI53 eI52; rfl
                                      have huI53 : Sm gM J I53 := by rw [hth]; exact sq_th hu _ _
                                      refine lv_aload_n hx hb dX6_tells_200 rfl (lv_at hl 2 rfl) ?_
                                      refine lv_iload_n hx hb dX6_tells_201 rfl (lv_at hl 3 rfl) ?_
                                      refine lv_bipush (v := nI 28) hx hb dX6_tells_202 (by decide) ?_
                                      refine lv_iload_n hx hb dX6_tells_204 rfl (lv_at hl 5 rfl) ?_
                                      refine g_ci (va_runV (As := [.int (nI (kN)), .int (nI (28)), .int (nI (aN))]) (rest := []) ⟨hx, hb, hml, hown, hts⟩ (c_X6_otherwise l D G ad hI I53 kN 28 aN (sl (V J) kN) (show kN < 4 by omega) (by decide) (show aN < 3 by omega) (show (sl (V J) kN) ≤ 4 by omega) ((sq_e huI53 (by decide) (by decide)).trans hLe9) (sq_M huI53 hM) (sq_K huI53 hKd)) (cwV 3 hts gX6_tells_X6_otherwise rfl rfl rfl (by decide +kernel) ⟨Nat.le_of_ble_eq_true rfl, Nat.le_of_ble_eq_true rfl⟩) (g_preV hK hW 0 (0) (mM (by decide) (by decide)) rfl rfl) rfl rfl hl.1 rfl (lv_room (Nat.le_of_ble_eq_true rfl)) dX6_tells_205 ⟨Nat.le_refl _, Nat.le_refl _⟩) hS (fun x54 I54 H locs hp hW hS => ?_)
                                      obtain ⟨ex54, eI54⟩ := hp
                                      rw [eI54] at hW
                                      clear eI54
                                      have hx9 : x54 = foM (thM J rN i2) kN 28 aN (sl (V J) kN) := by rw [ex54, hth]; exact th_foM hu hM (by omega) (by omega) _ _ _
                                      refine lv_iconst (v := (-1)) hx hb dX6_tells_208 (by decide) ?_
                                      refine lv_icmp_ne (tgt := 221) hx hb dX6_tells_209 (by decide) (fun c209_54 => ?_) (fun c209_54 => ?_)
                                      · refine lv_iinc (v := nI (i2 + 1)) (lv' := [(6, .int (nI (i2 + 1))), (5, .int (d2)), (0, .ref (ad 0 (0))), (1, .int (nI (kN))), (2, .int (nI (rN))), (3, .int (nI (aN))), (4, .int (nI (wN)))]) hx hb dX6_tells_221 hl (k := 0) rfl (nI_inc i2 1) (by decide) rfl (fun ls hl => ?_)
                                        refine lv_goto (tgt := 153) hx hb dX6_tells_224 (by decide) ?_
                                        exact ih153 (i2 + 1) (d2) (I53) (by omega) (fun q8 => absurd q8 (by omega)) (fun q8 => by rw [bits, if_neg (show ¬ tlP3 J kN rN aN (sl (V J) kN) i2 = true from fun q9 => c209_54 (hx9.trans (of_decide_eq_true (Bool.and_eq_true_iff.mp q9).2))), ← hd3 q8]) huI53 (by omega) _ _ hW hS _ (lv_sub hl [0, 1, 2, 3, 4, 5, 6] rfl)
                                      · refine lv_iload hx hb dX6_tells_212 (lv_at hl 1 rfl) ?_
                                        refine lv_iconst (v := nI 1) hx hb dX6_tells_214 (by decide) ?_
                                        refine lv_iload hx hb dX6_tells_215 (lv_at hl 0 rfl) ?_
                                        refine lv_ishl hx hb dX6_tells_217 (lv_topi (fun x56 ex56 => ?_))
                                        replace ex56 : x56 = b1 i2 := ex56
                                        refine lv_ior hx hb dX6_tells_218 (lv_topi (fun x57 ex57 => ?_))
                                        refine lv_istore (lv' := [(5, .int (x57)), (6, .int (nI (i2))), (0, .ref (ad 0 (0))), (1, .int (nI (kN))), (2, .int (nI (rN))), (3, .int (nI (aN))), (4, .int (nI (wN)))]) hx hb dX6_tells_219 hl (by decide) rfl (fun ls hl => ?_)
                                        refine lv_iinc (v := nI (i2 + 1)) (lv' := [(6, .int (nI (i2 + 1))), (5, .int (x57)), (0, .ref (ad 0 (0))), (1, .int (nI (kN))), (2, .int (nI (rN))), (3, .int (nI (aN))), (4, .int (nI (wN)))]) hx hb dX6_tells_221 hl (k := 1) rfl (nI_inc i2 1) (by decide) rfl (fun ls hl => ?_)
                                        refine lv_goto (tgt := 153) hx hb dX6_tells_224 (by decide) ?_
                                        exact ih153 (i2 + 1) (x57) (I53) (by omega) (fun q8 => absurd q8 (by omega)) (fun q8 => by subst ex57 ex56; rw [bits, if_pos (show tlP3 J kN rN aN (sl (V J) kN) i2 = true from Bool.and_eq_true_iff.mpr ⟨decide_eq_true (hrv.symm.trans c176_50), decide_eq_true (hx9.symm.trans c209_54)⟩), ← hd3 q8]) huI53 (by omega) _ _ hW hS _ (lv_sub hl [0, 1, 2, 3, 4, 5, 6] rfl)
                                    · refine lv_goto (tgt := 221) hx hb dX6_tells_179 (by decide) ?_
                                      refine lv_iinc (v := nI (i2 + 1)) (lv' := [(6, .int (nI (i2 + 1))), (5, .int (d2)), (0, .ref (ad 0 (0))), (1, .int (nI (kN))), (2, .int (nI (rN))), (3, .int (nI (aN))), (4, .int (nI (wN)))]) hx hb dX6_tells_221 hl (k := 0) rfl (nI_inc i2 1) (by decide) rfl (fun ls hl => ?_)
                                      refine lv_goto (tgt := 153) hx hb dX6_tells_224 (by decide) ?_
                                      exact ih153 (i2 + 1) (d2) (v) (by omega) (fun q8 => absurd q8 (by omega)) (fun q8 => by rw [bits, if_neg (show ¬ tlP3 J kN rN aN (sl (V J) kN) i2 = true from fun q9 => c176_50 (hrv.trans (of_decide_eq_true (Bool.and_eq_true_iff.mp q9).1))), ← hd3 q8]) hu (by omega) _ _ hW hS _ (lv_sub hl [0, 1, 2, 3, 4, 5, 6] rfl)
                            exact K153 ((wt (V J)) + 1) (0) (d) (J) (Nat.zero_le _) (fun q8 => absurd q8 c114_45) (fun q8 => hd0 (by omega)) Sm.rf (by omega) _ _ hW hS _ (lv_sub hl [0, 1, 2, 3, 4, 5, 6] rfl)
                          · replace c114_45 : wN = 1 := (nI_eq (show wN < 2147483648 by omega) (show 1 < 2147483648 by omega)).mp c114_45
                            have hw1 := c114_45
                            refine lv_iload hx hb dX6_tells_117 (lv_at hl 0 rfl) ?_
                            refine lv_iconst (v := nI 4) hx hb dX6_tells_119 (by decide) ?_
                            refine lv_icmp_ge (tgt := 150) hx hb dX6_tells_120 (by decide) (fun c120_57 => ?_) (fun c120_57 => ?_)
                            · replace c120_57 : 4 ≤ i := (nI_leI (show 4 < 2147483648 by omega) (show i < 2147483648 by omega)).mp c120_57
                              refine lv_iconst (v := nI 0) hx hb dX6_tells_150 (by decide) ?_
                              refine lv_istore (lv' := [(6, .int (nI (0))), (5, .int (d)), (0, .ref (ad 0 (0))), (1, .int (nI (kN))), (2, .int (nI (rN))), (3, .int (nI (aN))), (4, .int (nI (wN)))]) hx hb dX6_tells_151 hl (by decide) rfl (fun ls hl => ?_)
                              have K153 : ∀ (n : Nat) (i2 : Nat) (d2 : Int32) (v : St), (i2 ≤ wt (V J)) → (wN = 1 → d2 = bits (tlP1 J kN aN (sl (V J) kN)) 4) → (wN = 3 → d2 = bits (tlP3 J kN rN aN (sl (V J) kN)) i2) → (Sm gM J v) → (wt (V J)) < i2 + n → ∀ (H : Heap) (locs : List Loc), va_P D vwCl (wS LM ad (wM G ad v)) H → va_S (wA LM ad) s.heap H locs → ∀ (ls : Array Slot), lv_has ls 7 [(6, .int (nI (i2))), (5, .int (d2)), (0, .ref (ad 0 (0))), (1, .int (nI (kN))), (2, .int (nI (rN))), (3, .int (nI (aN))), (4, .int (nI (wN)))] → W p l e ({ frames := 7, cells := 0, slots := 0, locals := 185 } : Room) s m args below meth c H locs 0 0 Q (F0 m 153 ls []) := by
                                intro n153
                                induction n153 with
                                | zero => intro i2 d2 v hi2 hd1 hd3 hu hfu; exact absurd hfu (by omega)
                                | succ n153 ih153 =>
                                  intro i2 d2 v hi2 hd1 hd3 hu hfu H locs hW hS ls hl
                                  refine lv_iload hx hb dX6_tells_153 (lv_at hl 6 rfl) ?_
                                  refine lv_iconst (v := nI 3) hx hb dX6_tells_155 (by decide) ?_
                                  refine lv_icmp_ne (tgt := 227) hx hb dX6_tells_156 (by decide) (fun c156_58 => ?_) (fun c156_58 => ?_)
                                  · replace c156_58 : ¬ wN = 3 := fun h => c156_58 ((nI_eq (show wN < 2147483648 by omega) (show 3 < 2147483648 by omega)).mpr h)
                                    refine lv_iload hx hb dX6_tells_227 (lv_at hl 1 rfl) ?_
                                    rw [hQ]
                                    exact g_iret (wd := wM G ad) hx hb hr rfl hlocks hW hS (by refine ⟨?_, hu⟩; rw [if_pos (by simp [k_kN, k_rN, k_aN, k_wN, show okN (nI 4) (nI 0) = true by decide +kernel])]; simp only [t_kN, t_rN, t_aN, t_wN]; rw [if_neg (Int32.not_lt.mpr (by rw [← ex5]; assumption)), tlM]; rw [if_neg (by omega)]; rw [if_neg (by omega)]; by_cases hw1 : wN = 1; rw [if_pos hw1]; exact hd1 hw1; rw [if_neg hw1, if_neg (by omega)]; have e4 : i2 = wt (V J) := (by omega); rw [hd3 (by omega), e4]) dX6_tells_229
                                  · replace c156_58 : wN = 3 := (nI_eq (show wN < 2147483648 by omega) (show 3 < 2147483648 by omega)).mp c156_58
                                    refine lv_iload hx hb dX6_tells_159 (lv_at hl 0 rfl) ?_
                                    refine lv_aload_n hx hb dX6_tells_161 rfl (lv_at hl 2 rfl) ?_
                                    refine r_get hx hb hts hown hK hW 0 (0) 8 (mM (by decide) (by decide)) rfl rfl hinX6 (by decide) hf92 rfl rfl dX6_tells_162 (lv_topi (fun x60 ex60 => ?_))
                                    refine r_top (show x60 = nI (wt (V J)) from (ex60.trans ((sq_e hu (by decide) (by decide)).trans hT.1))) ?_
                                    refine lv_icmp_ge (tgt := 227) hx hb dX6_tells_165 (by decide) (fun c165_60 => ?_) (fun c165_60 => ?_)
                                    · replace c165_60 : wt (V J) ≤ i2 := (nI_leI (show wt (V J) < 2147483648 by omega) (show i2 < 2147483648 by omega)).mp c165_60
                                      refine lv_iload hx hb dX6_tells_227 (lv_at hl 1 rfl) ?_
                                      rw [hQ]
                                      exact g_iret (wd := wM G ad) hx hb hr rfl hlocks hW hS (by refine ⟨?_, hu⟩; rw [if_pos (by simp [k_kN, k_rN, k_aN, k_wN, show okN (nI 4) (nI 0) = true by decide +kernel])]; simp only [t_kN, t_rN, t_aN, t_wN]; rw [if_neg (Int32.not_lt.mpr (by rw [← ex5]; assumption)), tlM]; rw [if_neg (by omega)]; rw [if_neg (by omega)]; by_cases hw1 : wN = 1; rw [if_pos hw1]; exact hd1 hw1; rw [if_neg hw1, if_neg (by omega)]; have e4 : i2 = wt (V J) := (by omega); rw [hd3 (by omega), e4]) dX6_tells_229
                                    · replace c165_60 : ¬ (wt (V J) ≤ i2) := fun h => c165_60 ((nI_leI (show wt (V J) < 2147483648 by omega) (show i2 < 2147483648 by omega)).mpr h)
                                      refine lv_aload_n hx hb dX6_tells_168 rfl (lv_at hl 2 rfl) ?_
                                      refine r_get hx hb hts hown hK hW 0 (0) 10 (mM (by decide) (by decide)) rfl rfl hinX6 (by decide) hf39 rfl rfl dX6_tells_169 ?_
                                      refine lv_iload hx hb dX6_tells_172 (lv_at hl 0 rfl) ?_
                                      refine rM_iald hx hb hK hW 22 (0) (i2) (by decide) (by decide) (by decide) (show i2 < 6 by omega) rfl dX6_tells_174 (fun x62 ex62 => ?_)
                                      have hrv : x62 = J 22 0 i2 := ex62.trans (sq_e hu (by decide) (by decide))
                                      refine lv_iload_n hx hb dX6_tells_175 rfl (lv_at hl 4 rfl) ?_
                                      refine lv_icmp_eq (tgt := 182) hx hb dX6_tells_176 (by decide) (fun c176_62 => ?_) (fun c176_62 => ?_)
                                      · refine lv_aload_n hx hb dX6_tells_182 rfl (lv_at hl 2 rfl) ?_
                                        refine lv_iload_n hx hb dX6_tells_183 rfl (lv_at hl 4 rfl) ?_
                                        refine lv_bipush (v := nI 28) hx hb dX6_tells_184 (by decide) ?_
                                        refine g_cv (va_runV (As := [.int (nI (rN)), .int (nI (28))]) (rest := []) ⟨hx, hb, hml, hown, hts⟩ (c_X6_again l D G ad hI v rN 28 (show rN < 33 by omega) (by decide)) (cwV 2 hts gX6_tells_X6_again rfl rfl rfl (by decide +kernel) ⟨Nat.le_of_ble_eq_true rfl, Nat.le_of_ble_eq_true rfl⟩) (g_preV hK hW 0 (0) (mM (by decide) (by decide)) rfl rfl) rfl rfl hl.1 rfl (lv_room (Nat.le_of_ble_eq_true rfl)) dX6_tells_186 ⟨Nat.le_refl _, Nat.le_refl _⟩) hS (fun I64 H locs hp hW hS => ?_)
                                        have eI64 : I64 = cpy v 28 rN := hp
                                        refine lv_aload_n hx hb dX6_tells_189 rfl (lv_at hl 2 rfl) ?_
                                        refine lv_bipush (v := nI 28) hx hb dX6_tells_190 (by decide) ?_
                                        refine lv_bipush (v := nI 20) hx hb dX6_tells_192 (by decide) ?_
                                        refine lv_iload hx hb dX6_tells_194 (lv_at hl 0 rfl) ?_
                                        refine lv_iadd hx hb dX6_tells_196 (r_top (nI_add _ _) ?_)
                                        refine g_cv (va_runV (As := [.int (nI (28)), .int (nI (20 + i2))]) (rest := []) ⟨hx, hb, hml, hown, hts⟩ (c_X6_join l D G ad hI I64 28 (20 + i2) (by decide) (show 20 + i2 < 33 by omega)) (cwV 2 hts gX6_tells_X6_join rfl rfl rfl (by decide +kernel) ⟨Nat.le_of_ble_eq_true rfl, Nat.le_of_ble_eq_true rfl⟩) (g_preV hK hW 0 (0) (mM (by decide) (by decide)) rfl rfl) rfl rfl hl.1 rfl (lv_room (Nat.le_of_ble_eq_true rfl)) dX6_tells_197 ⟨Nat.le_refl _, Nat.le_refl _⟩) hS (fun I65 H locs hp hW hS => ?_)
                                        have eI65 : I65 = jn I64 28 (20 + i2) := hp
                                        have hth : I65 = thM v rN i2 := by subst eI65 eI64; rfl
                                        have huI65 : Sm gM J I65 := by rw [hth]; exact sq_th hu _ _
                                        refine lv_aload_n hx hb dX6_tells_200 rfl (lv_at hl 2 rfl) ?_
                                        refine lv_iload_n hx hb dX6_tells_201 rfl (lv_at hl 3 rfl) ?_
                                        refine lv_bipush (v := nI 28) hx hb dX6_tells_202 (by decide) ?_
                                        refine lv_iload_n hx hb dX6_tells_204 rfl (lv_at hl 5 rfl) ?_
                                        refine g_ci (va_runV (As := [.int (nI (kN)), .int (nI (28)), .int (nI (aN))]) (rest := []) ⟨hx, hb, hml, hown, hts⟩ (c_X6_otherwise l D G ad hI I65 kN 28 aN (sl (V J) kN) (show kN < 4 by omega) (by decide) (show aN < 3 by omega) (show (sl (V J) kN) ≤ 4 by omega) ((sq_e huI65 (by decide) (by decide)).trans hLe9) (sq_M huI65 hM) (sq_K huI65 hKd)) (cwV 3 hts gX6_tells_X6_otherwise rfl rfl rfl (by decide +kernel) ⟨Nat.le_of_ble_eq_true rfl, Nat.le_of_ble_eq_true rfl⟩) (g_preV hK hW 0 (0) (mM (by decide) (by decide)) rfl rfl) rfl rfl hl.1 rfl (lv_room (Nat.le_of_ble_eq_true rfl)) dX6_tells_205 ⟨Nat.le_refl _, Nat.le_refl _⟩) hS (fun x66 I66 H locs hp hW hS => ?_)
                                        obtain ⟨ex66, eI66⟩ := hp
                                        rw [eI66] at hW
                                        clear eI66
                                        have hx9 : x66 = foM (thM J rN i2) kN 28 aN (sl (V J) kN) := by rw [ex66, hth]; exact th_foM hu hM (by omega) (by omega) _ _ _
                                        refine lv_iconst (v := (-1)) hx hb dX6_tells_208 (by decide) ?_
                                        refine lv_icmp_ne (tgt := 221) hx hb dX6_tells_209 (by decide) (fun c209_66 => ?_) (fun c209_66 => ?_)
                                        · refine lv_iinc (v := nI (i2 + 1)) (lv' := [(6, .int (nI (i2 + 1))), (5, .int (d2)), (0, .ref (ad 0 (0))), (1, .int (nI (kN))), (2, .int (nI (rN))), (3, .int (nI (aN))), (4, .int (nI (wN)))]) hx hb dX6_tells_221 hl (k := 0) rfl (nI_inc i2 1) (by decide) rfl (fun ls hl => ?_)
                                          refine lv_goto (tgt := 153) hx hb dX6_tells_224 (by decide) ?_
                                          exact ih153 (i2 + 1) (d2) (I65) (by omega) (fun q8 => absurd q8 (by omega)) (fun q8 => by rw [bits, if_neg (show ¬ tlP3 J kN rN aN (sl (V J) kN) i2 = true from fun q9 => c209_66 (hx9.trans (of_decide_eq_true (Bool.and_eq_true_iff.mp q9).2))), ← hd3 q8]) huI65 (by omega) _ _ hW hS _ (lv_sub hl [0, 1, 2, 3, 4, 5, 6] rfl)
                                        · refine lv_iload hx hb dX6_tells_212 (lv_at hl 1 rfl) ?_
                                          refine lv_iconst (v := nI 1) hx hb dX6_tells_214 (by decide) ?_
                                          refine lv_iload hx hb dX6_tells_215 (lv_at hl 0 rfl) ?_
                                          refine lv_ishl hx hb dX6_tells_217 (lv_topi (fun x68 ex68 => ?_))
                                          replace ex68 : x68 = b1 i2 := ex68
                                          refine lv_ior hx hb dX6_tells_218 (lv_topi (fun x69 ex69 => ?_))
                                          refine lv_istore (lv' := [(5, .int (x69)), (6, .int (nI (i2))), (0, .ref (ad 0 (0))), (1, .int (nI (kN))), (2, .int (nI (rN))), (3, .int (nI (aN))), (4, .int (nI (wN)))]) hx hb dX6_tells_219 hl (by decide) rfl (fun ls hl => ?_)
                                          refine lv_iinc (v := nI (i2 + 1)) (lv' := [(6, .int (nI (i2 + 1))), (5, .int (x69)), (0, .ref (ad 0 (0))), (1, .int (nI (kN))), (2, .int (nI (rN))), (3, .int (nI (aN))), (4, .int (nI (wN)))]) hx hb dX6_tells_221 hl (k := 1) rfl (nI_inc i2 1) (by decide) rfl (fun ls hl => ?_)
                                          refine lv_goto (tgt := 153) hx hb dX6_tells_224 (by decide) ?_
                                          exact ih153 (i2 + 1) (x69) (I65) (by omega) (fun q8 => absurd q8 (by omega)) (fun q8 => by subst ex69 ex68; rw [bits, if_pos (show tlP3 J kN rN aN (sl (V J) kN) i2 = true from Bool.and_eq_true_iff.mpr ⟨decide_eq_true (hrv.symm.trans c176_62), decide_eq_true (hx9.symm.trans c209_66)⟩), ← hd3 q8]) huI65 (by omega) _ _ hW hS _ (lv_sub hl [0, 1, 2, 3, 4, 5, 6] rfl)
                                      · refine lv_goto (tgt := 221) hx hb dX6_tells_179 (by decide) ?_
                                        refine lv_iinc (v := nI (i2 + 1)) (lv' := [(6, .int (nI (i2 + 1))), (5, .int (d2)), (0, .ref (ad 0 (0))), (1, .int (nI (kN))), (2, .int (nI (rN))), (3, .int (nI (aN))), (4, .int (nI (wN)))]) hx hb dX6_tells_221 hl (k := 0) rfl (nI_inc i2 1) (by decide) rfl (fun ls hl => ?_)
                                        refine lv_goto (tgt := 153) hx hb dX6_tells_224 (by decide) ?_
                                        exact ih153 (i2 + 1) (d2) (v) (by omega) (fun q8 => absurd q8 (by omega)) (fun q8 => by rw [bits, if_neg (show ¬ tlP3 J kN rN aN (sl (V J) kN) i2 = true from fun q9 => c176_62 (hrv.trans (of_decide_eq_true (Bool.and_eq_true_iff.mp q9).1))), ← hd3 q8]) hu (by omega) _ _ hW hS _ (lv_sub hl [0, 1, 2, 3, 4, 5, 6] rfl)
                              exact K153 ((wt (V J)) + 1) (0) (d) (J) (Nat.zero_le _) (fun q8 => by have e4 : i = 4 := (by omega); subst e4; exact hd q8) (fun q8 => absurd q8 (by omega)) Sm.rf (by omega) _ _ hW hS _ (lv_sub hl [0, 1, 2, 3, 4, 5, 6] rfl)
                            · replace c120_57 : ¬ (4 ≤ i) := fun h => c120_57 ((nI_leI (show 4 < 2147483648 by omega) (show i < 2147483648 by omega)).mpr h)
                              refine lv_aload_n hx hb dX6_tells_123 rfl (lv_at hl 2 rfl) ?_
                              refine lv_iload_n hx hb dX6_tells_124 rfl (lv_at hl 3 rfl) ?_
                              refine lv_iload hx hb dX6_tells_125 (lv_at hl 0 rfl) ?_
                              refine lv_iload_n hx hb dX6_tells_127 rfl (lv_at hl 5 rfl) ?_
                              refine g_ci (va_runV (As := [.int (nI (kN)), .int (nI (i)), .int (nI (aN))]) (rest := []) ⟨hx, hb, hml, hown, hts⟩ (c_X6_otherwise l D G ad hI J kN i aN (sl (V J) kN) (show kN < 4 by omega) (show i < 33 by omega) (show aN < 3 by omega) (show (sl (V J) kN) ≤ 4 by omega) hLe9 hM hKd) (cwV 3 hts gX6_tells_X6_otherwise rfl rfl rfl (by decide +kernel) ⟨Nat.le_of_ble_eq_true rfl, Nat.le_of_ble_eq_true rfl⟩) (g_preV hK hW 0 (0) (mM (by decide) (by decide)) rfl rfl) rfl rfl hl.1 rfl (lv_room (Nat.le_of_ble_eq_true rfl)) dX6_tells_128 ⟨Nat.le_refl _, Nat.le_refl _⟩) hS (fun x70 I70 H locs hp hW hS => ?_)
                              obtain ⟨ex70, eI70⟩ := hp
                              rw [eI70] at hW
                              clear eI70
                              refine lv_iconst (v := (-1)) hx hb dX6_tells_131 (by decide) ?_
                              refine lv_icmp_ne (tgt := 144) hx hb dX6_tells_132 (by decide) (fun c132_70 => ?_) (fun c132_70 => ?_)
                              · refine lv_iinc (v := nI (i + 1)) (lv' := [(6, .int (nI (i + 1))), (5, .int (d)), (0, .ref (ad 0 (0))), (1, .int (nI (kN))), (2, .int (nI (rN))), (3, .int (nI (aN))), (4, .int (nI (wN)))]) hx hb dX6_tells_144 hl (k := 0) rfl (nI_inc i 1) (by decide) rfl (fun ls hl => ?_)
                                refine lv_goto (tgt := 111) hx hb dX6_tells_147 (by decide) ?_
                                exact ih111 (i + 1) (d) (by omega) (fun q8 => by rw [bits, if_neg (show ¬ tlP1 J kN aN (sl (V J) kN) i = true from fun q9 => c132_70 (ex70.trans (of_decide_eq_true q9))), ← hd q8]) (fun q8 => absurd hw1 q8) (by omega) _ _ hW hS _ (lv_sub hl [0, 1, 2, 3, 4, 5, 6] rfl)
                              · refine lv_iload hx hb dX6_tells_135 (lv_at hl 1 rfl) ?_
                                refine lv_iconst (v := nI 1) hx hb dX6_tells_137 (by decide) ?_
                                refine lv_iload hx hb dX6_tells_138 (lv_at hl 0 rfl) ?_
                                refine lv_ishl hx hb dX6_tells_140 (lv_topi (fun x72 ex72 => ?_))
                                replace ex72 : x72 = b1 i := ex72
                                refine lv_ior hx hb dX6_tells_141 (lv_topi (fun x73 ex73 => ?_))
                                refine lv_istore (lv' := [(5, .int (x73)), (6, .int (nI (i))), (0, .ref (ad 0 (0))), (1, .int (nI (kN))), (2, .int (nI (rN))), (3, .int (nI (aN))), (4, .int (nI (wN)))]) hx hb dX6_tells_142 hl (by decide) rfl (fun ls hl => ?_)
                                refine lv_iinc (v := nI (i + 1)) (lv' := [(6, .int (nI (i + 1))), (5, .int (x73)), (0, .ref (ad 0 (0))), (1, .int (nI (kN))), (2, .int (nI (rN))), (3, .int (nI (aN))), (4, .int (nI (wN)))]) hx hb dX6_tells_144 hl (k := 1) rfl (nI_inc i 1) (by decide) rfl (fun ls hl => ?_)
                                refine lv_goto (tgt := 111) hx hb dX6_tells_147 (by decide) ?_
                                exact ih111 (i + 1) (x73) (by omega) (fun q8 => by subst ex73 ex72; rw [bits, if_pos (show tlP1 J kN aN (sl (V J) kN) i = true from decide_eq_true (ex70.symm.trans c132_70)), ← hd q8]) (fun q8 => absurd hw1 q8) (by omega) _ _ hW hS _ (lv_sub hl [0, 1, 2, 3, 4, 5, 6] rfl)
                      exact K111 (4 + 1) (0) (nI (0)) (by decide) (fun _ => rfl) (fun _ => rfl) (by omega) _ _ hW hS _ (lv_sub hl [0, 1, 2, 3, 4, 5, 6] rfl)
                    · replace c94_44 : wN = 2 := (nI_eq (show wN < 2147483648 by omega) (show 2 < 2147483648 by omega)).mp c94_44
                      refine lv_aload_n hx hb dX6_tells_97 rfl (lv_at hl 0 rfl) ?_
                      refine lv_iload_n hx hb dX6_tells_98 rfl (lv_at hl 1 rfl) ?_
                      refine lv_iload_n hx hb dX6_tells_99 rfl (lv_at hl 2 rfl) ?_
                      refine lv_iload_n hx hb dX6_tells_100 rfl (lv_at hl 3 rfl) ?_
                      refine g_ci (va_runV (As := [.int (nI (kN)), .int (nI (rN)), .int (nI (aN))]) (rest := []) ⟨hx, hb, hml, hown, hts⟩ (c_X6_kindsBy l D G ad hI J kN rN aN (sl (V J) kN) (show kN < 4 by omega) (show rN < 33 by omega) (show aN < 3 by omega) (show (sl (V J) kN) ≤ 4 by omega) hLe9 hM hKd) (cwV 3 hts gX6_tells_X6_kindsBy rfl rfl rfl (by decide +kernel) ⟨Nat.le_of_ble_eq_true rfl, Nat.le_of_ble_eq_true rfl⟩) (g_preV hK hW 0 (0) (mM (by decide) (by decide)) rfl rfl) rfl rfl hl.1 rfl (lv_room (Nat.le_of_ble_eq_true rfl)) dX6_tells_101 ⟨Nat.le_refl _, Nat.le_refl _⟩) hS (fun x74 I74 H locs hp hW hS => ?_)
                      obtain ⟨ex74, eI74⟩ := hp
                      rw [eI74] at hW
                      clear eI74
                      rw [hQ]
                      exact g_iret (wd := wM G ad) hx hb hr rfl hlocks hW hS (by subst ex74 ex42 ex7 ex5; refine ⟨?_, Sm.rf⟩; rw [if_pos (by simp [k_kN, k_rN, k_aN, k_wN, show okN (nI 4) (nI 0) = true by decide +kernel])]; simp only [t_kN, t_rN, t_aN, t_wN]; rw [if_neg (Int32.not_lt.mpr (by assumption)), tlM]; rw [if_neg (by omega)]; rw [if_neg (by omega), if_neg (by omega), if_pos (by omega)]) dX6_tells_104
                  · replace c80_43 : wN = 0 := (nI_eq (show wN < 2147483648 by omega) (show 0 < 2147483648 by omega)).mp c80_43
                    refine lv_aload_n hx hb dX6_tells_83 rfl (lv_at hl 0 rfl) ?_
                    refine lv_iload_n hx hb dX6_tells_84 rfl (lv_at hl 1 rfl) ?_
                    refine lv_iload_n hx hb dX6_tells_85 rfl (lv_at hl 2 rfl) ?_
                    refine lv_iload_n hx hb dX6_tells_86 rfl (lv_at hl 3 rfl) ?_
                    refine g_ci (va_runV (As := [.int (nI (kN)), .int (nI (rN)), .int (nI (aN))]) (rest := []) ⟨hx, hb, hml, hown, hts⟩ (c_X6_otherwise l D G ad hI J kN rN aN (sl (V J) kN) (show kN < 4 by omega) (show rN < 33 by omega) (show aN < 3 by omega) (show (sl (V J) kN) ≤ 4 by omega) hLe9 hM hKd) (cwV 3 hts gX6_tells_X6_otherwise rfl rfl rfl (by decide +kernel) ⟨Nat.le_of_ble_eq_true rfl, Nat.le_of_ble_eq_true rfl⟩) (g_preV hK hW 0 (0) (mM (by decide) (by decide)) rfl rfl) rfl rfl hl.1 rfl (lv_room (Nat.le_of_ble_eq_true rfl)) dX6_tells_87 ⟨Nat.le_refl _, Nat.le_refl _⟩) hS (fun x75 I75 H locs hp hW hS => ?_)
                    obtain ⟨ex75, eI75⟩ := hp
                    rw [eI75] at hW
                    clear eI75
                    rw [hQ]
                    exact g_iret (wd := wM G ad) hx hb hr rfl hlocks hW hS (by subst ex75 ex42 ex7 ex5; refine ⟨?_, Sm.rf⟩; rw [if_pos (by simp [k_kN, k_rN, k_aN, k_wN, show okN (nI 4) (nI 0) = true by decide +kernel])]; simp only [t_kN, t_rN, t_aN, t_wN]; rw [if_neg (Int32.not_lt.mpr (by assumption)), tlM]; rw [if_neg (by omega)]; rw [if_pos (by omega)]) dX6_tells_90
                · replace c72_42 : sl (V J) kN = 0 := (nI_eq (show sl (V J) kN < 2147483648 by omega) (show 0 < 2147483648 by omega)).mp c72_42
                  refine lv_bipush (v := (-2)) hx hb dX6_tells_75 (by decide) ?_
                  rw [hQ]
                  exact g_iret (wd := wM G ad) hx hb hr rfl hlocks hW hS (by subst ex42 ex7 ex5; refine ⟨?_, Sm.rf⟩; rw [if_pos (by simp [k_kN, k_rN, k_aN, k_wN, show okN (nI 4) (nI 0) = true by decide +kernel])]; simp only [t_kN, t_rN, t_aN, t_wN]; rw [if_neg (Int32.not_lt.mpr (by assumption)), tlM]; rw [if_pos (by omega)]) dX6_tells_77
          · refine lv_bipush (v := (-11)) hx hb dX6_tells_47 (by decide) ?_
            rw [hQ]
            exact g_iret (wd := wM G ad) hx hb hr rfl hlocks hW hS (by subst ex5; refine ⟨?_, Sm.rf⟩; rw [if_pos (by simp [k_kN, k_rN, k_aN, k_wN, show okN (nI 4) (nI 0) = true by decide +kernel])]; simp only [t_kN, t_rN, t_aN, t_wN]; rw [if_pos (Int32.not_le.mp (by assumption))]) dX6_tells_49
        · replace c32_3 := bI_0.mp c32_3
          try simp only [decide_eq_true_eq, decide_eq_false_iff_not] at c32_3
          refine lv_bipush (v := (-2)) hx hb dX6_tells_35 (by decide) ?_
          rw [hQ]
          exact g_iret (wd := wM G ad) hx hb hr rfl hlocks hW hS (by refine ⟨?_, Sm.rf⟩; simp [k_kN, k_rN, k_aN, c32_3]) dX6_tells_37
