/-! ===== the model, one ===== -/
set_option maxHeartbeats 4000000 in
set_option maxRecDepth 100000 in
theorem c_X6_in (l : Launch) (v lo hi : Int64) : Met l yX6_in wsX6_in ({ frames := 0, cells := 0, slots := 0, locals := 0 } : Room) (pPre [.long (v), .long (lo), .long (hi)]) (pQi (bI (inL v lo hi))) 0 0 (fun _ => False) := by
  refine p_entry (C := RX6) (cc := cX6_in) (maxL := 6) (ret := (some .boolean)) rfl (by decide) rfl (Nat.le_of_ble_eq_true rfl) (fun p e s m args below meth c Q ls hQ hx hb hr hts hown hlocks hml hl => ?_)
  have hl : lv_has ls 6 [(0, .long (v)), (2, .long (lo)), (4, .long (hi))] := hl
  have hS := va_S.rf (A := fun _ => False) (H0 := s.heap)
  refine lv_lload_n hx hb dX6_in_0 rfl (lv_at hl 0 rfl) ?_
  refine lv_lload_n hx hb dX6_in_1 rfl (lv_at hl 1 rfl) ?_
  refine W.lcmp hx hb dX6_in_2 ?_
  refine lv_if_lt (tgt := 17) hx hb dX6_in_3 (by decide) (fun c3_0 => ?_) (fun c3_0 => ?_)
  · replace c3_0 := (lg_cmp_lt _ _).mp c3_0
    refine lv_iconst (v := nI 0) hx hb dX6_in_17 (by decide) ?_
    rw [hQ]
    exact p_iret hx hb hr (by decide) hlocks hS (by simp [inL, bI, nI_0, nI_one, c3_0]) dX6_in_18
  · replace c3_0 := Int64.not_lt.mp (fun q9 => c3_0 ((lg_cmp_lt _ _).mpr q9))
    refine lv_lload_n hx hb dX6_in_6 rfl (lv_at hl 0 rfl) ?_
    refine lv_lload hx hb dX6_in_7 (lv_at hl 2 rfl) ?_
    refine W.lcmp hx hb dX6_in_9 ?_
    refine lv_if_gt (tgt := 17) hx hb dX6_in_10 (by decide) (fun c10_1 => ?_) (fun c10_1 => ?_)
    · replace c10_1 := (lg_cmp_gt _ _).mp c10_1
      refine lv_iconst (v := nI 0) hx hb dX6_in_17 (by decide) ?_
      rw [hQ]
      exact p_iret hx hb hr (by decide) hlocks hS (by simp [inL, bI, nI_0, nI_one, c3_0, c10_1]) dX6_in_18
    · replace c10_1 := Int64.not_lt.mp (fun q9 => c10_1 ((lg_cmp_gt _ _).mpr q9))
      refine lv_iconst (v := nI 1) hx hb dX6_in_13 (by decide) ?_
      refine lv_goto (tgt := 18) hx hb dX6_in_14 (by decide) ?_
      rw [hQ]
      exact p_iret hx hb hr (by decide) hlocks hS (by simp [inL, bI, nI_0, nI_one, c3_0, c10_1]) dX6_in_18

theorem c_X6_inB (l : Launch) (v lo hi : Int64) (b : Bool) (h : inL v lo hi = b) : Met l yX6_in wsX6_in ({ frames := 0, cells := 0, slots := 0, locals := 0 } : Room) (pPre [.long (v), .long (lo), .long (hi)]) (pQi (bI (b))) 0 0 (fun _ => False) := by
  subst h
  exact c_X6_in l v lo hi

set_option maxHeartbeats 4000000 in
set_option maxRecDepth 100000 in
theorem c_X6_isReplica (l : Launch) (a : Int32) : Met l yX6_isReplica wsX6_isReplica ({ frames := 1, cells := 0, slots := 0, locals := 25 } : Room) (pPre [.int (a)]) (pQi (bI (okN (nI 4) a))) 0 0 (fun _ => False) := by
  refine p_entry (C := RX6) (cc := cX6_isReplica) (maxL := 1) (ret := (some .boolean)) rfl (by decide) rfl (Nat.le_of_ble_eq_true rfl) (fun p e s m args below meth c Q ls hQ hx hb hr hts hown hlocks hml hl => ?_)
  have hl : lv_has ls 1 [(0, .int (a))] := hl
  have hS := va_S.rf (A := fun _ => False) (H0 := s.heap)
  refine lv_iload_n hx hb dX6_isReplica_0 rfl (lv_at hl 0 rfl) ?_
  refine lv_i2l hx hb dX6_isReplica_1 rfl ?_
  refine lv_lconst (v := lN 0) hx hb dX6_isReplica_2 (by decide) ?_
  refine lv_ldc2 (v := (3)) hx hb hown (hts (.constantLong RX6 84 (3)) (by decide +kernel)) dX6_isReplica_3 ?_
  refine q_pi (va_runS (As := [.long (a.toInt64), .long (lN 0), .long ((3))]) (rest := []) ⟨hx, hb, hml, hown, hts⟩ (c_X6_inB l a.toInt64 (lN 0) ((3)) (okN (nI 4) a) (inL_N (k := 4) (by decide) (by decide) _)) (va_cwS 3 hts gX6_isReplica_X6_in rfl rfl rfl (by decide +kernel) ⟨Nat.le_of_ble_eq_true rfl, Nat.le_of_ble_eq_true rfl⟩) p_preS rfl rfl hl.1 rfl (lv_room (Nat.le_of_ble_eq_true rfl)) dX6_isReplica_6 ⟨Nat.le_refl _, Nat.le_refl _⟩) hS (fun H locs hS => ?_)
  rw [hQ]
  exact p_iret hx hb hr (narB rfl) hlocks hS (by rfl) dX6_isReplica_9

set_option maxHeartbeats 4000000 in
set_option maxRecDepth 100000 in
theorem c_X6_isSheet (l : Launch) (a : Int32) : Met l yX6_isSheet wsX6_isSheet ({ frames := 1, cells := 0, slots := 0, locals := 25 } : Room) (pPre [.int (a)]) (pQi (bI (okN (nI 4) a))) 0 0 (fun _ => False) := by
  refine p_entry (C := RX6) (cc := cX6_isSheet) (maxL := 1) (ret := (some .boolean)) rfl (by decide) rfl (Nat.le_of_ble_eq_true rfl) (fun p e s m args below meth c Q ls hQ hx hb hr hts hown hlocks hml hl => ?_)
  have hl : lv_has ls 1 [(0, .int (a))] := hl
  have hS := va_S.rf (A := fun _ => False) (H0 := s.heap)
  refine lv_iload_n hx hb dX6_isSheet_0 rfl (lv_at hl 0 rfl) ?_
  refine lv_i2l hx hb dX6_isSheet_1 rfl ?_
  refine lv_lconst (v := lN 0) hx hb dX6_isSheet_2 (by decide) ?_
  refine lv_ldc2 (v := (3)) hx hb hown (hts (.constantLong RX6 84 (3)) (by decide +kernel)) dX6_isSheet_3 ?_
  refine q_pi (va_runS (As := [.long (a.toInt64), .long (lN 0), .long ((3))]) (rest := []) ⟨hx, hb, hml, hown, hts⟩ (c_X6_inB l a.toInt64 (lN 0) ((3)) (okN (nI 4) a) (inL_N (k := 4) (by decide) (by decide) _)) (va_cwS 3 hts gX6_isSheet_X6_in rfl rfl rfl (by decide +kernel) ⟨Nat.le_of_ble_eq_true rfl, Nat.le_of_ble_eq_true rfl⟩) p_preS rfl rfl hl.1 rfl (lv_room (Nat.le_of_ble_eq_true rfl)) dX6_isSheet_6 ⟨Nat.le_refl _, Nat.le_refl _⟩) hS (fun H locs hS => ?_)
  rw [hQ]
  exact p_iret hx hb hr (narB rfl) hlocks hS (by rfl) dX6_isSheet_9

set_option maxHeartbeats 4000000 in
set_option maxRecDepth 100000 in
theorem c_X6_isObject (l : Launch) (a b : Int32) : Met l yX6_isObject wsX6_isObject ({ frames := 1, cells := 0, slots := 0, locals := 25 } : Room) (pPre [.int (a), .int (b)]) (pQi (bI (okN (nI 3) a && okN (nI 4) b))) 0 0 (fun _ => False) := by
  refine p_entry (C := RX6) (cc := cX6_isObject) (maxL := 2) (ret := (some .boolean)) rfl (by decide) rfl (Nat.le_of_ble_eq_true rfl) (fun p e s m args below meth c Q ls hQ hx hb hr hts hown hlocks hml hl => ?_)
  have hl : lv_has ls 2 [(0, .int (a)), (1, .int (b))] := hl
  have hS := va_S.rf (A := fun _ => False) (H0 := s.heap)
  refine lv_iload_n hx hb dX6_isObject_0 rfl (lv_at hl 0 rfl) ?_
  refine lv_i2l hx hb dX6_isObject_1 rfl ?_
  refine lv_lconst (v := lN 0) hx hb dX6_isObject_2 (by decide) ?_
  refine lv_ldc2 (v := (2)) hx hb hown (hts (.constantLong RX6 90 (2)) (by decide +kernel)) dX6_isObject_3 ?_
  refine q_pi (va_runS (As := [.long (a.toInt64), .long (lN 0), .long ((2))]) (rest := []) ⟨hx, hb, hml, hown, hts⟩ (c_X6_inB l a.toInt64 (lN 0) ((2)) (okN (nI 3) a) (inL_N (k := 3) (by decide) (by decide) _)) (va_cwS 3 hts gX6_isObject_X6_in rfl rfl rfl (by decide +kernel) ⟨Nat.le_of_ble_eq_true rfl, Nat.le_of_ble_eq_true rfl⟩) p_preS rfl rfl hl.1 rfl (lv_room (Nat.le_of_ble_eq_true rfl)) dX6_isObject_6 ⟨Nat.le_refl _, Nat.le_refl _⟩) hS (fun H locs hS => ?_)
  refine lv_if_eq (tgt := 28) hx hb dX6_isObject_9 (by decide) (fun c9_0 => ?_) (fun c9_0 => ?_)
  · replace c9_0 := bI_0.mp c9_0
    try simp only [decide_eq_true_eq, decide_eq_false_iff_not] at c9_0
    refine lv_iconst (v := nI 0) hx hb dX6_isObject_28 (by decide) ?_
    rw [hQ]
    exact p_iret hx hb hr (by decide) hlocks hS (by (simp [bI, nI_0, nI_one, c9_0])) dX6_isObject_29
  · replace c9_0 := bI_1.mp c9_0
    try simp only [decide_eq_true_eq, decide_eq_false_iff_not] at c9_0
    refine lv_iload_n hx hb dX6_isObject_12 rfl (lv_at hl 1 rfl) ?_
    refine lv_i2l hx hb dX6_isObject_13 rfl ?_
    refine lv_lconst (v := lN 0) hx hb dX6_isObject_14 (by decide) ?_
    refine lv_ldc2 (v := (3)) hx hb hown (hts (.constantLong RX6 84 (3)) (by decide +kernel)) dX6_isObject_15 ?_
    refine q_pi (va_runS (As := [.long (b.toInt64), .long (lN 0), .long ((3))]) (rest := []) ⟨hx, hb, hml, hown, hts⟩ (c_X6_inB l b.toInt64 (lN 0) ((3)) (okN (nI 4) b) (inL_N (k := 4) (by decide) (by decide) _)) (va_cwS 3 hts gX6_isObject_X6_in rfl rfl rfl (by decide +kernel) ⟨Nat.le_of_ble_eq_true rfl, Nat.le_of_ble_eq_true rfl⟩) p_preS rfl rfl hl.1 rfl (lv_room (Nat.le_of_ble_eq_true rfl)) dX6_isObject_18 ⟨Nat.le_refl _, Nat.le_refl _⟩) hS (fun H locs hS => ?_)
    refine lv_if_eq (tgt := 28) hx hb dX6_isObject_21 (by decide) (fun c21_1 => ?_) (fun c21_1 => ?_)
    · replace c21_1 := bI_0.mp c21_1
      try simp only [decide_eq_true_eq, decide_eq_false_iff_not] at c21_1
      refine lv_iconst (v := nI 0) hx hb dX6_isObject_28 (by decide) ?_
      rw [hQ]
      exact p_iret hx hb hr (by decide) hlocks hS (by (simp [bI, nI_0, nI_one, c9_0, c21_1])) dX6_isObject_29
    · replace c21_1 := bI_1.mp c21_1
      try simp only [decide_eq_true_eq, decide_eq_false_iff_not] at c21_1
      refine lv_iconst (v := nI 1) hx hb dX6_isObject_24 (by decide) ?_
      refine lv_goto (tgt := 29) hx hb dX6_isObject_25 (by decide) ?_
      rw [hQ]
      exact p_iret hx hb hr (by decide) hlocks hS (by (simp [bI, nI_0, nI_one, c9_0, c21_1])) dX6_isObject_29

set_option maxHeartbeats 4000000 in
set_option maxRecDepth 100000 in
theorem c_X6_isLetter (l : Launch) (D : va_G) (G : Nat → ClassId) (ad : Nat → Nat → Nat) (hI : wI LM ad) (J : St) (m0 : Int32) (hT : okT (V J)) : Met l yX6_isLetter wsX6_isLetter ({ frames := 1, cells := 0, slots := 0, locals := 25 } : Room) (gPre D G LM ad [.ref (ad 0 (0)), .int (m0)] (wM G ad J)) (gQi D LM ad (wM G ad) (fun r9 u => r9 = bI (okN (nI (wt (V J))) m0) ∧ u = J)) 0 0 (wA LM ad) := by
  refine g_entry (C := RX6) (cc := cX6_isLetter) (maxL := 2) (ret := (some .boolean)) rfl (by decide) rfl (Nat.le_of_ble_eq_true rfl) (fun p e s m args below meth c Q ls hQ hx hb hr hts hown hlocks hml hW hK hl => ?_)
  have hl : lv_has ls 2 [(0, .ref (ad 0 (0))), (1, .int (m0))] := hl
  have hS := va_S.rf (A := wA LM ad) (H0 := s.heap)
  have hinX6 : ∀ w ∈ wsX60, w ∈ wsX6_isLetter := by decide +kernel
  have hf92 := hts (.fieldLink RX6 92 "JoinedStoresModel" "letters" "I") (by decide +kernel)
  refine lv_iload_n hx hb dX6_isLetter_0 rfl (lv_at hl 1 rfl) ?_
  refine lv_i2l hx hb dX6_isLetter_1 rfl ?_
  refine lv_lconst (v := lN 0) hx hb dX6_isLetter_2 (by decide) ?_
  refine lv_aload_n hx hb dX6_isLetter_3 rfl (lv_at hl 0 rfl) ?_
  refine r_get hx hb hts hown hK hW 0 (0) 8 (mM (by decide) (by decide)) rfl rfl hinX6 (by decide) hf92 rfl rfl dX6_isLetter_4 (lv_topi (fun x1 ex1 => ?_))
  have hw6 := hT.2
  refine r_top (show x1 = nI (wt (V J)) from (ex1.trans hT.1)) ?_
  refine lv_iconst (v := nI 1) hx hb dX6_isLetter_7 (by decide) ?_
  refine lv_isub hx hb dX6_isLetter_8 (lv_topi (fun x2 ex2 => ?_))
  refine lv_i2l hx hb dX6_isLetter_9 rfl ?_
  refine g_pi (va_runS (As := [.long (m0.toInt64), .long (lN 0), .long (x2.toInt64)]) (rest := []) ⟨hx, hb, hml, hown, hts⟩ (c_X6_inB l m0.toInt64 (lN 0) x2.toInt64 (okN (nI (wt (V J))) m0) (inL_N (k := wt (V J)) (by omega) (by rw [ex2]; exact dec_toInt64 (by omega)) _)) (va_cwS 3 hts gX6_isLetter_X6_in rfl rfl rfl (by decide +kernel) ⟨Nat.le_of_ble_eq_true rfl, Nat.le_of_ble_eq_true rfl⟩) p_preS rfl rfl hl.1 rfl (lv_room (Nat.le_of_ble_eq_true rfl)) dX6_isLetter_10 ⟨Nat.le_refl _, Nat.le_refl _⟩) hW hS (fun H locs hW hS => ?_)
  rw [hQ]
  exact g_iret (wd := wM G ad) hx hb hr (narB rfl) hlocks hW hS (by subst ex2 ex1; exact ⟨rfl, rfl⟩) dX6_isLetter_13

set_option maxHeartbeats 4000000 in
set_option maxRecDepth 100000 in
theorem c_X6_asLong (l : Launch) (a : Int32) : Met l yX6_asLong wsX6_asLong ({ frames := 0, cells := 0, slots := 0, locals := 0 } : Room) (pPre [.int (a)]) (pQl (a.toInt64 - 1000000000000)) 0 0 (fun _ => False) := by
  refine p_entry (C := RX6) (cc := cX6_asLong) (maxL := 1) (ret := (some .long)) rfl (by decide) rfl (Nat.le_of_ble_eq_true rfl) (fun p e s m args below meth c Q ls hQ hx hb hr hts hown hlocks hml hl => ?_)
  have hl : lv_has ls 1 [(0, .int (a))] := hl
  have hS := va_S.rf (A := fun _ => False) (H0 := s.heap)
  refine lv_iload_n hx hb dX6_asLong_0 rfl (lv_at hl 0 rfl) ?_
  refine lv_i2l hx hb dX6_asLong_1 rfl ?_
  refine lv_ldc2 (v := (1000000000000)) hx hb hown (hts (.constantLong RX6 96 (1000000000000)) (by decide +kernel)) dX6_asLong_2 ?_
  refine lv_lsub hx hb dX6_asLong_5 ?_
  rw [hQ]
  exact p_lret hx hb hr hlocks hS (by rfl) dX6_asLong_6

set_option maxHeartbeats 4000000 in
set_option maxRecDepth 100000 in
theorem c_X6_clear (l : Launch) (D : va_G) (G : Nat → ClassId) (ad : Nat → Nat → Nat) (hI : wI LM ad) (J : St) (a : Nat) (ha : a < 33) : Met l yX6_clear wsX6_clear ({ frames := 0, cells := 0, slots := 0, locals := 0 } : Room) (gPre D G LM ad [.ref (ad 0 (0)), .int (nI (a))] (wM G ad J)) (gQv D LM ad (wM G ad) (fun u => u = clr J a)) 0 0 (wA LM ad) := by
  refine g_entry (C := RX6) (cc := cX6_clear) (maxL := 3) (ret := none) rfl (by decide) rfl (Nat.le_of_ble_eq_true rfl) (fun p e s m args below meth c Q ls hQ hx hb hr hts hown hlocks hml hW hK hl => ?_)
  have hl : lv_has ls 3 [(0, .ref (ad 0 (0))), (1, .int (nI (a)))] := hl
  have hS := va_S.rf (A := wA LM ad) (H0 := s.heap)
  have hinX6 : ∀ w ∈ wsX60, w ∈ wsX6_clear := by decide +kernel
  have hf27 := hts (.fieldLink RX6 27 "JoinedStoresModel" "heard" "[[I") (by decide +kernel)
  have hf30 := hts (.fieldLink RX6 30 "JoinedStoresModel" "alive" "[[I") (by decide +kernel)
  refine lv_iconst (v := nI 0) hx hb dX6_clear_0 (by decide) ?_
  refine lv_istore_n (lv' := [(2, .int (nI (0))), (0, .ref (ad 0 (0))), (1, .int (nI (a)))]) hx hb dX6_clear_1 rfl hl (by decide) rfl (fun ls hl => ?_)
  have K2 : ∀ (n : Nat) (i : Nat), (i ≤ 4) → 4 < i + n → ∀ (H : Heap) (locs : List Loc), va_P D vwCl (wS LM ad (wM G ad (clrP J a i))) H → va_S (wA LM ad) s.heap H locs → ∀ (ls : Array Slot), lv_has ls 3 [(2, .int (nI (i))), (0, .ref (ad 0 (0))), (1, .int (nI (a)))] → W p l e ({ frames := 0, cells := 0, slots := 0, locals := 0 } : Room) s m args below meth c H locs 0 0 Q (F0 m 2 ls []) := by
    intro n2
    induction n2 with
    | zero => intro i hi hfu; exact absurd hfu (by omega)
    | succ n2 ih2 =>
      intro i hi hfu H locs hW hS ls hl
      refine lv_iload_n hx hb dX6_clear_2 rfl (lv_at hl 0 rfl) ?_
      refine lv_iconst (v := nI 4) hx hb dX6_clear_3 (by decide) ?_
      refine lv_icmp_ge (tgt := 31) hx hb dX6_clear_4 (by decide) (fun c4_0 => ?_) (fun c4_0 => ?_)
      · replace c4_0 : 4 ≤ i := (nI_leI (show 4 < 2147483648 by omega) (show i < 2147483648 by omega)).mp c4_0
        rw [hQ]
        exact g_vret (wd := wM G ad) hx hb hr hlocks hW hS (by have e4 : i = 4 := (by omega); subst e4; rfl) dX6_clear_31
      · replace c4_0 : ¬ (4 ≤ i) := fun h => c4_0 ((nI_leI (show 4 < 2147483648 by omega) (show i < 2147483648 by omega)).mpr h)
        refine lv_aload_n hx hb dX6_clear_7 rfl (lv_at hl 1 rfl) ?_
        refine r_get hx hb hts hown hK hW 0 (0) 5 (mM (by decide) (by decide)) rfl rfl hinX6 (by decide) hf27 rfl rfl dX6_clear_8 ?_
        refine lv_iload_n hx hb dX6_clear_11 rfl (lv_at hl 2 rfl) ?_
        refine r_aaldI hx hb hK hW 1 3 (a) (mM (by decide) (by decide)) rfl (show a < 33 by omega) (by decide) rfl rfl dX6_clear_12 ?_
        refine lv_iload_n hx hb dX6_clear_13 rfl (lv_at hl 0 rfl) ?_
        refine lv_iconst (v := nI 0) hx hb dX6_clear_14 (by decide) ?_
        refine rM_iast hx hb hK hI hW hS 10 (a) (i) (by decide) (by decide) (show a < 33 by omega) (show i < 4 by omega) rfl dX6_clear_15 (fun I2 H locs eI2 hW hS => ?_)
        refine lv_aload_n hx hb dX6_clear_16 rfl (lv_at hl 1 rfl) ?_
        refine r_get hx hb hts hown hK hW 0 (0) 6 (mM (by decide) (by decide)) rfl rfl hinX6 (by decide) hf30 rfl rfl dX6_clear_17 ?_
        refine lv_iload_n hx hb dX6_clear_20 rfl (lv_at hl 2 rfl) ?_
        refine r_aaldI hx hb hK hW 1 4 (a) (mM (by decide) (by decide)) rfl (show a < 33 by omega) (by decide) rfl rfl dX6_clear_21 ?_
        refine lv_iload_n hx hb dX6_clear_22 rfl (lv_at hl 0 rfl) ?_
        refine lv_iconst (v := nI 0) hx hb dX6_clear_23 (by decide) ?_
        refine rM_iast hx hb hK hI hW hS 11 (a) (i) (by decide) (by decide) (show a < 33 by omega) (show i < 4 by omega) rfl dX6_clear_24 (fun I3 H locs eI3 hW hS => ?_)
        refine lv_iinc (v := nI (i + 1)) (lv' := [(2, .int (nI (i + 1))), (0, .ref (ad 0 (0))), (1, .int (nI (a)))]) hx hb dX6_clear_25 hl (k := 0) rfl (nI_inc i 1) (by decide) rfl (fun ls hl => ?_)
        refine lv_goto (tgt := 2) hx hb dX6_clear_28 (by decide) ?_
        have e9 : I3 = clrP J a (i + 1) := by
          subst eI3 eI2
          exact clrP_s _ _ _
        have hW9 := hW
        rw [e9] at hW9
        exact ih2 (i + 1) (by omega) (by omega) _ _ hW9 hS _ (lv_sub hl [0, 1, 2] rfl)
  have e9 : J = clrP J a 0 := by
    exact (clrP_0 _ _).symm
  have hW9 := hW
  rw [e9] at hW9
  exact K2 (4 + 1) (0) (by omega) (by omega) _ _ hW9 hS _ (lv_sub hl [0, 1, 2] rfl)

set_option maxHeartbeats 4000000 in
set_option maxRecDepth 100000 in
theorem c_X6_again (l : Launch) (D : va_G) (G : Nat → ClassId) (ad : Nat → Nat → Nat) (hI : wI LM ad) (J : St) (a b : Nat) (ha : a < 33) (hb3 : b < 33) : Met l yX6_again wsX6_again ({ frames := 1, cells := 0, slots := 0, locals := 64 } : Room) (gPre D G LM ad [.ref (ad 0 (0)), .int (nI (a)), .int (nI (b))] (wM G ad J)) (gQv D LM ad (wM G ad) (fun u => u = cpy J b a)) 0 0 (wA LM ad) := by
  refine g_entry (C := RX6) (cc := cX6_again) (maxL := 3) (ret := none) rfl (by decide) rfl (Nat.le_of_ble_eq_true rfl) (fun p e s m args below meth c Q ls hQ hx hb hr hts hown hlocks hml hW hK hl => ?_)
  have hl : lv_has ls 3 [(0, .ref (ad 0 (0))), (1, .int (nI (a))), (2, .int (nI (b)))] := hl
  have hS := va_S.rf (A := wA LM ad) (H0 := s.heap)
  have hinX6 : ∀ w ∈ wsX60, w ∈ wsX6_again := by decide +kernel
  have hf27 := hts (.fieldLink RX6 27 "JoinedStoresModel" "heard" "[[I") (by decide +kernel)
  have hf30 := hts (.fieldLink RX6 30 "JoinedStoresModel" "alive" "[[I") (by decide +kernel)
  refine lv_aload_n hx hb dX6_again_0 rfl (lv_at hl 0 rfl) ?_
  refine r_get hx hb hts hown hK hW 0 (0) 5 (mM (by decide) (by decide)) rfl rfl hinX6 (by decide) hf27 rfl rfl dX6_again_1 ?_
  refine lv_iload_n hx hb dX6_again_4 rfl (lv_at hl 1 rfl) ?_
  refine r_aaldI hx hb hK hW 1 3 (a) (mM (by decide) (by decide)) rfl (show a < 33 by omega) (by decide) rfl rfl dX6_again_5 ?_
  refine lv_iconst (v := nI 0) hx hb dX6_again_6 (by decide) ?_
  refine lv_aload_n hx hb dX6_again_7 rfl (lv_at hl 0 rfl) ?_
  refine r_get hx hb hts hown hK hW 0 (0) 5 (mM (by decide) (by decide)) rfl rfl hinX6 (by decide) hf27 rfl rfl dX6_again_8 ?_
  refine lv_iload_n hx hb dX6_again_11 rfl (lv_at hl 2 rfl) ?_
  refine r_aaldI hx hb hK hW 1 3 (b) (mM (by decide) (by decide)) rfl (show b < 33 by omega) (by decide) rfl rfl dX6_again_12 ?_
  refine lv_iconst (v := nI 0) hx hb dX6_again_13 (by decide) ?_
  refine lv_iconst (v := nI 4) hx hb dX6_again_14 (by decide) ?_
  refine rM_copy hx hb (hml.trans hl.1.symm) hown (hts (.methodLink RX6 98 arraycopyName) (by decide +kernel)) (hts (.native arraycopyName) (by decide +kernel)) (hts (.static arraycopyName) (by decide +kernel)) (hts (.initialized "java/lang/System") (by decide +kernel)) hK hI hW hS 10 (a) 10 (b) (0) (0) (4) (by decide) (by decide) (show a < 33 by omega) (by decide) (by decide) (show b < 33 by omega) (by decide) (by decide) rfl rfl rfl (by decide) (by decide) dX6_again_15 (fun I1 H locs eI1 hW hS => ?_)
  refine lv_aload_n hx hb dX6_again_18 rfl (lv_at hl 0 rfl) ?_
  refine r_get hx hb hts hown hK hW 0 (0) 6 (mM (by decide) (by decide)) rfl rfl hinX6 (by decide) hf30 rfl rfl dX6_again_19 ?_
  refine lv_iload_n hx hb dX6_again_22 rfl (lv_at hl 1 rfl) ?_
  refine r_aaldI hx hb hK hW 1 4 (a) (mM (by decide) (by decide)) rfl (show a < 33 by omega) (by decide) rfl rfl dX6_again_23 ?_
  refine lv_iconst (v := nI 0) hx hb dX6_again_24 (by decide) ?_
  refine lv_aload_n hx hb dX6_again_25 rfl (lv_at hl 0 rfl) ?_
  refine r_get hx hb hts hown hK hW 0 (0) 6 (mM (by decide) (by decide)) rfl rfl hinX6 (by decide) hf30 rfl rfl dX6_again_26 ?_
  refine lv_iload_n hx hb dX6_again_29 rfl (lv_at hl 2 rfl) ?_
  refine r_aaldI hx hb hK hW 1 4 (b) (mM (by decide) (by decide)) rfl (show b < 33 by omega) (by decide) rfl rfl dX6_again_30 ?_
  refine lv_iconst (v := nI 0) hx hb dX6_again_31 (by decide) ?_
  refine lv_iconst (v := nI 4) hx hb dX6_again_32 (by decide) ?_
  refine rM_copy hx hb (hml.trans hl.1.symm) hown (hts (.methodLink RX6 98 arraycopyName) (by decide +kernel)) (hts (.native arraycopyName) (by decide +kernel)) (hts (.static arraycopyName) (by decide +kernel)) (hts (.initialized "java/lang/System") (by decide +kernel)) hK hI hW hS 11 (a) 11 (b) (0) (0) (4) (by decide) (by decide) (show a < 33 by omega) (by decide) (by decide) (show b < 33 by omega) (by decide) (by decide) rfl rfl rfl (by decide) (by decide) dX6_again_33 (fun I2 H locs eI2 hW hS => ?_)
  rw [hQ]
  exact g_vret (wd := wM G ad) hx hb hr hlocks hW hS (by subst eI2 eI1; exact cpy_cp3 _ _ _) dX6_again_36

set_option maxHeartbeats 4000000 in
set_option maxRecDepth 100000 in
theorem c_X6_join (l : Launch) (D : va_G) (G : Nat → ClassId) (ad : Nat → Nat → Nat) (hI : wI LM ad) (J : St) (a b : Nat) (ha : a < 33) (hb3 : b < 33) : Met l yX6_join wsX6_join ({ frames := 0, cells := 0, slots := 0, locals := 0 } : Room) (gPre D G LM ad [.ref (ad 0 (0)), .int (nI (a)), .int (nI (b))] (wM G ad J)) (gQv D LM ad (wM G ad) (fun u => u = jn J a b)) 0 0 (wA LM ad) := by
  refine g_entry (C := RX6) (cc := cX6_join) (maxL := 6) (ret := none) rfl (by decide) rfl (Nat.le_of_ble_eq_true rfl) (fun p e s m args below meth c Q ls hQ hx hb hr hts hown hlocks hml hW hK hl => ?_)
  have hl : lv_has ls 6 [(0, .ref (ad 0 (0))), (1, .int (nI (a))), (2, .int (nI (b)))] := hl
  have hS := va_S.rf (A := wA LM ad) (H0 := s.heap)
  have hinX6 : ∀ w ∈ wsX60, w ∈ wsX6_join := by decide +kernel
  have hf27 := hts (.fieldLink RX6 27 "JoinedStoresModel" "heard" "[[I") (by decide +kernel)
  have hf30 := hts (.fieldLink RX6 30 "JoinedStoresModel" "alive" "[[I") (by decide +kernel)
  refine lv_iconst (v := nI 0) hx hb dX6_join_0 (by decide) ?_
  refine lv_istore_n (lv' := [(3, .int (nI (0))), (0, .ref (ad 0 (0))), (1, .int (nI (a))), (2, .int (nI (b)))]) hx hb dX6_join_1 rfl hl (by decide) rfl (fun ls hl => ?_)
  have K2 : ∀ (n : Nat) (i : Nat), (i ≤ 4) → 4 < i + n → ∀ (H : Heap) (locs : List Loc), va_P D vwCl (wS LM ad (wM G ad (jnP J a b i))) H → va_S (wA LM ad) s.heap H locs → ∀ (ls : Array Slot), lv_has ls 6 [(3, .int (nI (i))), (0, .ref (ad 0 (0))), (1, .int (nI (a))), (2, .int (nI (b)))] → W p l e ({ frames := 0, cells := 0, slots := 0, locals := 0 } : Room) s m args below meth c H locs 0 0 Q (F0 m 2 ls []) := by
    intro n2
    induction n2 with
    | zero => intro i hi hfu; exact absurd hfu (by omega)
    | succ n2 ih2 =>
      intro i hi hfu H locs hW hS ls hl
      refine lv_iload_n hx hb dX6_join_2 rfl (lv_at hl 0 rfl) ?_
      refine lv_iconst (v := nI 4) hx hb dX6_join_3 (by decide) ?_
      refine lv_icmp_ge (tgt := 93) hx hb dX6_join_4 (by decide) (fun c4_0 => ?_) (fun c4_0 => ?_)
      · replace c4_0 : 4 ≤ i := (nI_leI (show 4 < 2147483648 by omega) (show i < 2147483648 by omega)).mp c4_0
        rw [hQ]
        exact g_vret (wd := wM G ad) hx hb hr hlocks hW hS (by have e4 : i = 4 := (by omega); subst e4; rfl) dX6_join_93
      · replace c4_0 : ¬ (4 ≤ i) := fun h => c4_0 ((nI_leI (show 4 < 2147483648 by omega) (show i < 2147483648 by omega)).mpr h)
        refine lv_aload_n hx hb dX6_join_7 rfl (lv_at hl 1 rfl) ?_
        refine r_get hx hb hts hown hK hW 0 (0) 6 (mM (by decide) (by decide)) rfl rfl hinX6 (by decide) hf30 rfl rfl dX6_join_8 ?_
        refine lv_iload_n hx hb dX6_join_11 rfl (lv_at hl 2 rfl) ?_
        refine r_aaldI hx hb hK hW 1 4 (a) (mM (by decide) (by decide)) rfl (show a < 33 by omega) (by decide) rfl rfl dX6_join_12 ?_
        refine lv_iload_n hx hb dX6_join_13 rfl (lv_at hl 0 rfl) ?_
        refine rM_iald hx hb hK hW 11 (a) (i) (by decide) (by decide) (show a < 33 by omega) (show i < 4 by omega) rfl dX6_join_14 (fun x2 ex2 => ?_)
        refine lv_istore (lv' := [(4, .int (x2)), (3, .int (nI (i))), (0, .ref (ad 0 (0))), (1, .int (nI (a))), (2, .int (nI (b)))]) hx hb dX6_join_15 hl (by decide) rfl (fun ls hl => ?_)
        refine lv_aload_n hx hb dX6_join_17 rfl (lv_at hl 2 rfl) ?_
        refine r_get hx hb hts hown hK hW 0 (0) 6 (mM (by decide) (by decide)) rfl rfl hinX6 (by decide) hf30 rfl rfl dX6_join_18 ?_
        refine lv_iload_n hx hb dX6_join_21 rfl (lv_at hl 4 rfl) ?_
        refine r_aaldI hx hb hK hW 1 4 (b) (mM (by decide) (by decide)) rfl (show b < 33 by omega) (by decide) rfl rfl dX6_join_22 ?_
        refine lv_iload_n hx hb dX6_join_23 rfl (lv_at hl 1 rfl) ?_
        refine rM_iald hx hb hK hW 11 (b) (i) (by decide) (by decide) (show b < 33 by omega) (show i < 4 by omega) rfl dX6_join_24 (fun x3 ex3 => ?_)
        refine lv_istore (lv' := [(5, .int (x3)), (4, .int (x2)), (3, .int (nI (i))), (0, .ref (ad 0 (0))), (1, .int (nI (a))), (2, .int (nI (b)))]) hx hb dX6_join_25 hl (by decide) rfl (fun ls hl => ?_)
        refine lv_aload_n hx hb dX6_join_27 rfl (lv_at hl 3 rfl) ?_
        refine r_get hx hb hts hown hK hW 0 (0) 6 (mM (by decide) (by decide)) rfl rfl hinX6 (by decide) hf30 rfl rfl dX6_join_28 ?_
        refine lv_iload_n hx hb dX6_join_31 rfl (lv_at hl 4 rfl) ?_
        refine r_aaldI hx hb hK hW 1 4 (a) (mM (by decide) (by decide)) rfl (show a < 33 by omega) (by decide) rfl rfl dX6_join_32 ?_
        refine lv_iload_n hx hb dX6_join_33 rfl (lv_at hl 2 rfl) ?_
        refine lv_iload hx hb dX6_join_34 (lv_at hl 1 rfl) ?_
        refine lv_iload hx hb dX6_join_36 (lv_at hl 0 rfl) ?_
        refine lv_iand hx hb dX6_join_38 (lv_topi (fun x4 ex4 => ?_))
        refine lv_iload hx hb dX6_join_39 (lv_at hl 1 rfl) ?_
        refine lv_aload_n hx hb dX6_join_41 rfl (lv_at hl 3 rfl) ?_
        refine r_get hx hb hts hown hK hW 0 (0) 5 (mM (by decide) (by decide)) rfl rfl hinX6 (by decide) hf27 rfl rfl dX6_join_42 ?_
        refine lv_iload_n hx hb dX6_join_45 rfl (lv_at hl 5 rfl) ?_
        refine r_aaldI hx hb hK hW 1 3 (b) (mM (by decide) (by decide)) rfl (show b < 33 by omega) (by decide) rfl rfl dX6_join_46 ?_
        refine lv_iload_n hx hb dX6_join_47 rfl (lv_at hl 2 rfl) ?_
        refine rM_iald hx hb hK hW 10 (b) (i) (by decide) (by decide) (show b < 33 by omega) (show i < 4 by omega) rfl dX6_join_48 (fun x5 ex5 => ?_)
        refine lv_iconst (v := (-1)) hx hb dX6_join_49 (by decide) ?_
        refine lv_ixor hx hb dX6_join_50 (lv_topi (fun x6 ex6 => ?_))
        refine lv_iand hx hb dX6_join_51 (lv_topi (fun x7 ex7 => ?_))
        refine lv_ior hx hb dX6_join_52 (lv_topi (fun x8 ex8 => ?_))
        refine lv_iload hx hb dX6_join_53 (lv_at hl 0 rfl) ?_
        refine lv_aload_n hx hb dX6_join_55 rfl (lv_at hl 3 rfl) ?_
        refine r_get hx hb hts hown hK hW 0 (0) 5 (mM (by decide) (by decide)) rfl rfl hinX6 (by decide) hf27 rfl rfl dX6_join_56 ?_
        refine lv_iload_n hx hb dX6_join_59 rfl (lv_at hl 4 rfl) ?_
        refine r_aaldI hx hb hK hW 1 3 (a) (mM (by decide) (by decide)) rfl (show a < 33 by omega) (by decide) rfl rfl dX6_join_60 ?_
        refine lv_iload_n hx hb dX6_join_61 rfl (lv_at hl 2 rfl) ?_
        refine rM_iald hx hb hK hW 10 (a) (i) (by decide) (by decide) (show a < 33 by omega) (show i < 4 by omega) rfl dX6_join_62 (fun x9 ex9 => ?_)
        refine lv_iconst (v := (-1)) hx hb dX6_join_63 (by decide) ?_
        refine lv_ixor hx hb dX6_join_64 (lv_topi (fun x10 ex10 => ?_))
        refine lv_iand hx hb dX6_join_65 (lv_topi (fun x11 ex11 => ?_))
        refine lv_ior hx hb dX6_join_66 (lv_topi (fun x12 ex12 => ?_))
        refine rM_iast hx hb hK hI hW hS 11 (a) (i) (by decide) (by decide) (show a < 33 by omega) (show i < 4 by omega) rfl dX6_join_67 (fun I13 H locs eI13 hW hS => ?_)
        refine lv_aload_n hx hb dX6_join_68 rfl (lv_at hl 3 rfl) ?_
        refine r_get hx hb hts hown hK hW 0 (0) 5 (mM (by decide) (by decide)) rfl rfl hinX6 (by decide) hf27 rfl rfl dX6_join_69 ?_
        refine lv_iload_n hx hb dX6_join_72 rfl (lv_at hl 4 rfl) ?_
        refine r_aaldI hx hb hK hW 1 3 (a) (mM (by decide) (by decide)) rfl (show a < 33 by omega) (by decide) rfl rfl dX6_join_73 ?_
        refine lv_iload_n hx hb dX6_join_74 rfl (lv_at hl 2 rfl) ?_
        refine lv_dup2_11 hx hb dX6_join_75 rfl rfl ?_
        refine rM_iald hx hb hK hW 10 (a) (i) (by decide) (by decide) (show a < 33 by omega) (show i < 4 by omega) rfl dX6_join_76 (fun x14 ex14 => ?_)
        refine lv_aload_n hx hb dX6_join_77 rfl (lv_at hl 3 rfl) ?_
        refine r_get hx hb hts hown hK hW 0 (0) 5 (mM (by decide) (by decide)) rfl rfl hinX6 (by decide) hf27 rfl rfl dX6_join_78 ?_
        refine lv_iload_n hx hb dX6_join_81 rfl (lv_at hl 5 rfl) ?_
        refine r_aaldI hx hb hK hW 1 3 (b) (mM (by decide) (by decide)) rfl (show b < 33 by omega) (by decide) rfl rfl dX6_join_82 ?_
        refine lv_iload_n hx hb dX6_join_83 rfl (lv_at hl 2 rfl) ?_
        refine rM_iald hx hb hK hW 10 (b) (i) (by decide) (by decide) (show b < 33 by omega) (show i < 4 by omega) rfl dX6_join_84 (fun x15 ex15 => ?_)
        refine lv_ior hx hb dX6_join_85 (lv_topi (fun x16 ex16 => ?_))
        refine rM_iast hx hb hK hI hW hS 10 (a) (i) (by decide) (by decide) (show a < 33 by omega) (show i < 4 by omega) rfl dX6_join_86 (fun I17 H locs eI17 hW hS => ?_)
        refine lv_iinc (v := nI (i + 1)) (lv' := [(3, .int (nI (i + 1))), (5, .int (x3)), (4, .int (x2)), (0, .ref (ad 0 (0))), (1, .int (nI (a))), (2, .int (nI (b)))]) hx hb dX6_join_87 hl (k := 2) rfl (nI_inc i 1) (by decide) rfl (fun ls hl => ?_)
        refine lv_goto (tgt := 2) hx hb dX6_join_90 (by decide) ?_
        have e9 : I17 = jnP J a b (i + 1) := by
          subst eI17 ex16 ex15 ex14 eI13 ex12 ex11 ex10 ex9 ex8 ex7 ex6 ex5 ex4 ex3 ex2
          exact jnP_s _ _ _ _
        have hW9 := hW
        rw [e9] at hW9
        exact ih2 (i + 1) (by omega) (by omega) _ _ hW9 hS _ (lv_sub hl [0, 3, 4, 5] rfl)
  have e9 : J = jnP J a b 0 := by
    exact (jnP_0 _ _ _).symm
  have hW9 := hW
  rw [e9] at hW9
  exact K2 (4 + 1) (0) (by omega) (by omega) _ _ hW9 hS _ (lv_sub hl [0, 1, 2, 3] rfl)

set_option maxHeartbeats 4000000 in
set_option maxRecDepth 100000 in
theorem c_X6_areAlike (l : Launch) (D : va_G) (G : Nat → ClassId) (ad : Nat → Nat → Nat) (hI : wI LM ad) (J : St) (a b : Nat) (ha : a < 33) (hb3 : b < 33) : Met l yX6_areAlike wsX6_areAlike ({ frames := 0, cells := 0, slots := 0, locals := 0 } : Room) (gPre D G LM ad [.ref (ad 0 (0)), .int (nI (a)), .int (nI (b))] (wM G ad J)) (gQi D LM ad (wM G ad) (fun r9 u => r9 = bI (sam J a b 4) ∧ u = J)) 0 0 (wA LM ad) := by
  refine g_entry (C := RX6) (cc := cX6_areAlike) (maxL := 4) (ret := (some .boolean)) rfl (by decide) rfl (Nat.le_of_ble_eq_true rfl) (fun p e s m args below meth c Q ls hQ hx hb hr hts hown hlocks hml hW hK hl => ?_)
  have hl : lv_has ls 4 [(0, .ref (ad 0 (0))), (1, .int (nI (a))), (2, .int (nI (b)))] := hl
  have hS := va_S.rf (A := wA LM ad) (H0 := s.heap)
  have hinX6 : ∀ w ∈ wsX60, w ∈ wsX6_areAlike := by decide +kernel
  have hf27 := hts (.fieldLink RX6 27 "JoinedStoresModel" "heard" "[[I") (by decide +kernel)
  have hf30 := hts (.fieldLink RX6 30 "JoinedStoresModel" "alive" "[[I") (by decide +kernel)
  refine lv_iconst (v := nI 0) hx hb dX6_areAlike_0 (by decide) ?_
  refine lv_istore_n (lv' := [(3, .int (nI (0))), (0, .ref (ad 0 (0))), (1, .int (nI (a))), (2, .int (nI (b)))]) hx hb dX6_areAlike_1 rfl hl (by decide) rfl (fun ls hl => ?_)
  have K2 : ∀ (n : Nat) (i : Nat), (i ≤ 4) → (sam J a b i = true) → 4 < i + n → ∀ (H : Heap) (locs : List Loc), va_P D vwCl (wS LM ad (wM G ad J)) H → va_S (wA LM ad) s.heap H locs → ∀ (ls : Array Slot), lv_has ls 4 [(3, .int (nI (i))), (0, .ref (ad 0 (0))), (1, .int (nI (a))), (2, .int (nI (b)))] → W p l e ({ frames := 0, cells := 0, slots := 0, locals := 0 } : Room) s m args below meth c H locs 0 0 Q (F0 m 2 ls []) := by
    intro n2
    induction n2 with
    | zero => intro i hi hs hfu; exact absurd hfu (by omega)
    | succ n2 ih2 =>
      intro i hi hs hfu H locs hW hS ls hl
      refine lv_iload_n hx hb dX6_areAlike_2 rfl (lv_at hl 0 rfl) ?_
      refine lv_iconst (v := nI 4) hx hb dX6_areAlike_3 (by decide) ?_
      refine lv_icmp_ge (tgt := 53) hx hb dX6_areAlike_4 (by decide) (fun c4_0 => ?_) (fun c4_0 => ?_)
      · replace c4_0 : 4 ≤ i := (nI_leI (show 4 < 2147483648 by omega) (show i < 2147483648 by omega)).mp c4_0
        refine lv_iconst (v := nI 1) hx hb dX6_areAlike_53 (by decide) ?_
        rw [hQ]
        exact g_iret (wd := wM G ad) hx hb hr (by decide) hlocks hW hS (by have e4 : i = 4 := (by omega); subst e4; rw [hs]; exact ⟨rfl, rfl⟩) dX6_areAlike_54
      · replace c4_0 : ¬ (4 ≤ i) := fun h => c4_0 ((nI_leI (show 4 < 2147483648 by omega) (show i < 2147483648 by omega)).mpr h)
        refine lv_aload_n hx hb dX6_areAlike_7 rfl (lv_at hl 1 rfl) ?_
        refine r_get hx hb hts hown hK hW 0 (0) 5 (mM (by decide) (by decide)) rfl rfl hinX6 (by decide) hf27 rfl rfl dX6_areAlike_8 ?_
        refine lv_iload_n hx hb dX6_areAlike_11 rfl (lv_at hl 2 rfl) ?_
        refine r_aaldI hx hb hK hW 1 3 (a) (mM (by decide) (by decide)) rfl (show a < 33 by omega) (by decide) rfl rfl dX6_areAlike_12 ?_
        refine lv_iload_n hx hb dX6_areAlike_13 rfl (lv_at hl 0 rfl) ?_
        refine rM_iald hx hb hK hW 10 (a) (i) (by decide) (by decide) (show a < 33 by omega) (show i < 4 by omega) rfl dX6_areAlike_14 (fun x2 ex2 => ?_)
        refine lv_aload_n hx hb dX6_areAlike_15 rfl (lv_at hl 1 rfl) ?_
        refine r_get hx hb hts hown hK hW 0 (0) 5 (mM (by decide) (by decide)) rfl rfl hinX6 (by decide) hf27 rfl rfl dX6_areAlike_16 ?_
        refine lv_iload_n hx hb dX6_areAlike_19 rfl (lv_at hl 3 rfl) ?_
        refine r_aaldI hx hb hK hW 1 3 (b) (mM (by decide) (by decide)) rfl (show b < 33 by omega) (by decide) rfl rfl dX6_areAlike_20 ?_
        refine lv_iload_n hx hb dX6_areAlike_21 rfl (lv_at hl 0 rfl) ?_
        refine rM_iald hx hb hK hW 10 (b) (i) (by decide) (by decide) (show b < 33 by omega) (show i < 4 by omega) rfl dX6_areAlike_22 (fun x3 ex3 => ?_)
        refine lv_icmp_ne (tgt := 45) hx hb dX6_areAlike_23 (by decide) (fun c23_3 => ?_) (fun c23_3 => ?_)
        · refine lv_iconst (v := nI 0) hx hb dX6_areAlike_45 (by decide) ?_
          rw [hQ]
          exact g_iret (wd := wM G ad) hx hb hr (by decide) hlocks hW hS (by subst ex3 ex2; refine ⟨?_, rfl⟩; rw [sam_x (n := 4) (i := i) (by simp [c4_0, c23_3]) (by omega)]; rfl) dX6_areAlike_46
        · refine lv_aload_n hx hb dX6_areAlike_26 rfl (lv_at hl 1 rfl) ?_
          refine r_get hx hb hts hown hK hW 0 (0) 6 (mM (by decide) (by decide)) rfl rfl hinX6 (by decide) hf30 rfl rfl dX6_areAlike_27 ?_
          refine lv_iload_n hx hb dX6_areAlike_30 rfl (lv_at hl 2 rfl) ?_
          refine r_aaldI hx hb hK hW 1 4 (a) (mM (by decide) (by decide)) rfl (show a < 33 by omega) (by decide) rfl rfl dX6_areAlike_31 ?_
          refine lv_iload_n hx hb dX6_areAlike_32 rfl (lv_at hl 0 rfl) ?_
          refine rM_iald hx hb hK hW 11 (a) (i) (by decide) (by decide) (show a < 33 by omega) (show i < 4 by omega) rfl dX6_areAlike_33 (fun x5 ex5 => ?_)
          refine lv_aload_n hx hb dX6_areAlike_34 rfl (lv_at hl 1 rfl) ?_
          refine r_get hx hb hts hown hK hW 0 (0) 6 (mM (by decide) (by decide)) rfl rfl hinX6 (by decide) hf30 rfl rfl dX6_areAlike_35 ?_
          refine lv_iload_n hx hb dX6_areAlike_38 rfl (lv_at hl 3 rfl) ?_
          refine r_aaldI hx hb hK hW 1 4 (b) (mM (by decide) (by decide)) rfl (show b < 33 by omega) (by decide) rfl rfl dX6_areAlike_39 ?_
          refine lv_iload_n hx hb dX6_areAlike_40 rfl (lv_at hl 0 rfl) ?_
          refine rM_iald hx hb hK hW 11 (b) (i) (by decide) (by decide) (show b < 33 by omega) (show i < 4 by omega) rfl dX6_areAlike_41 (fun x6 ex6 => ?_)
          refine lv_icmp_eq (tgt := 47) hx hb dX6_areAlike_42 (by decide) (fun c42_6 => ?_) (fun c42_6 => ?_)
          · refine lv_iinc (v := nI (i + 1)) (lv' := [(3, .int (nI (i + 1))), (0, .ref (ad 0 (0))), (1, .int (nI (a))), (2, .int (nI (b)))]) hx hb dX6_areAlike_47 hl (k := 0) rfl (nI_inc i 1) (by decide) rfl (fun ls hl => ?_)
            refine lv_goto (tgt := 2) hx hb dX6_areAlike_50 (by decide) ?_
            exact ih2 (i + 1) (by omega) (by subst ex6 ex5 ex3 ex2; rw [sam, hs]; simp [c23_3, c42_6]) (by omega) _ _ hW hS _ (lv_sub hl [0, 1, 2, 3] rfl)
          · refine lv_iconst (v := nI 0) hx hb dX6_areAlike_45 (by decide) ?_
            rw [hQ]
            exact g_iret (wd := wM G ad) hx hb hr (by decide) hlocks hW hS (by subst ex6 ex5 ex3 ex2; refine ⟨?_, rfl⟩; rw [sam_x (n := 4) (i := i) (by simp [c4_0, c23_3, c42_6]) (by omega)]; rfl) dX6_areAlike_46
  exact K2 (4 + 1) (0) (by decide) rfl (by omega) _ _ hW hS _ (lv_sub hl [0, 1, 2, 3] rfl)

set_option maxHeartbeats 4000000 in
set_option maxRecDepth 100000 in
theorem c_X6_bitsOf_10 (l : Launch) (D : va_G) (G : Nat → ClassId) (ad : Nat → Nat → Nat) (hI : wI LM ad) (J : St) (a : Nat) (ha : a < 33) : Met l yX6_bitsOf wsX6_bitsOf ({ frames := 1, cells := 0, slots := 0, locals := 20 } : Room) (gPre D G LM ad [.ref (ad 0 (0)), .ref (ad 10 (a))] (wM G ad J)) (gQi D LM ad (wM G ad) (fun r9 u => r9 = bcs (J 10 a) 4 ∧ u = J)) 0 0 (wA LM ad) := by
  refine g_entry (C := RX6) (cc := cX6_bitsOf) (maxL := 4) (ret := (some .int)) rfl (by decide) rfl (Nat.le_of_ble_eq_true rfl) (fun p e s m args below meth c Q ls hQ hx hb hr hts hown hlocks hml hW hK hl => ?_)
  have hl : lv_has ls 4 [(0, .ref (ad 0 (0))), (1, .ref (ad 10 (a)))] := hl
  have hS := va_S.rf (A := wA LM ad) (H0 := s.heap)
  refine lv_iconst (v := nI 0) hx hb dX6_bitsOf_0 (by decide) ?_
  refine lv_istore_n (lv' := [(2, .int (nI (0))), (0, .ref (ad 0 (0))), (1, .ref (ad 10 (a)))]) hx hb dX6_bitsOf_1 rfl hl (by decide) rfl (fun ls hl => ?_)
  refine lv_iconst (v := nI 0) hx hb dX6_bitsOf_2 (by decide) ?_
  refine lv_istore_n (lv' := [(3, .int (nI (0))), (2, .int (nI (0))), (0, .ref (ad 0 (0))), (1, .ref (ad 10 (a)))]) hx hb dX6_bitsOf_3 rfl hl (by decide) rfl (fun ls hl => ?_)
  have K4 : ∀ (n : Nat) (i : Nat) (d : Int32), (i ≤ 4) → (d = bcs (J 10 a) i) → 4 < i + n → ∀ (H : Heap) (locs : List Loc), va_P D vwCl (wS LM ad (wM G ad J)) H → va_S (wA LM ad) s.heap H locs → ∀ (ls : Array Slot), lv_has ls 4 [(3, .int (nI (i))), (2, .int (d)), (0, .ref (ad 0 (0))), (1, .ref (ad 10 (a)))] → W p l e ({ frames := 1, cells := 0, slots := 0, locals := 20 } : Room) s m args below meth c H locs 0 0 Q (F0 m 4 ls []) := by
    intro n4
    induction n4 with
    | zero => intro i d hi hd hfu; exact absurd hfu (by omega)
    | succ n4 ih4 =>
      intro i d hi hd hfu H locs hW hS ls hl
      refine lv_iload_n hx hb dX6_bitsOf_4 rfl (lv_at hl 0 rfl) ?_
      refine lv_iconst (v := nI 4) hx hb dX6_bitsOf_5 (by decide) ?_
      refine lv_icmp_ge (tgt := 24) hx hb dX6_bitsOf_6 (by decide) (fun c6_0 => ?_) (fun c6_0 => ?_)
      · replace c6_0 : 4 ≤ i := (nI_leI (show 4 < 2147483648 by omega) (show i < 2147483648 by omega)).mp c6_0
        refine lv_iload_n hx hb dX6_bitsOf_24 rfl (lv_at hl 1 rfl) ?_
        rw [hQ]
        exact g_iret (wd := wM G ad) hx hb hr rfl hlocks hW hS (by have e4 : i = 4 := (by omega); subst e4; exact ⟨hd, rfl⟩) dX6_bitsOf_25
      · replace c6_0 : ¬ (4 ≤ i) := fun h => c6_0 ((nI_leI (show 4 < 2147483648 by omega) (show i < 2147483648 by omega)).mpr h)
        refine lv_iload_n hx hb dX6_bitsOf_9 rfl (lv_at hl 1 rfl) ?_
        refine lv_aload_n hx hb dX6_bitsOf_10 rfl (lv_at hl 3 rfl) ?_
        refine lv_iload_n hx hb dX6_bitsOf_11 rfl (lv_at hl 0 rfl) ?_
        refine rM_iald hx hb hK hW 10 (a) (i) (by decide) (by decide) (show a < 33 by omega) (show i < 4 by omega) rfl dX6_bitsOf_12 (fun x2 ex2 => ?_)
        refine g_pi (va_runS (As := [.int (x2)]) (rest := [.int (d)]) ⟨hx, hb, hml, hown, hts⟩ (c_J6_bitCount_0f7a4 l x2) (va_cwS 1 hts gX6_bitsOf_J6_bitCount_0f7a4 rfl rfl rfl (by decide +kernel) ⟨Nat.le_of_ble_eq_true rfl, Nat.le_of_ble_eq_true rfl⟩) p_preS rfl rfl hl.1 rfl (lv_room (Nat.le_of_ble_eq_true rfl)) dX6_bitsOf_13 ⟨Nat.le_refl _, Nat.le_refl _⟩) hW hS (fun H locs hW hS => ?_)
        refine lv_iadd hx hb dX6_bitsOf_16 (lv_topi (fun x3 ex3 => ?_))
        refine lv_istore_n (lv' := [(2, .int (x3)), (3, .int (nI (i))), (0, .ref (ad 0 (0))), (1, .ref (ad 10 (a)))]) hx hb dX6_bitsOf_17 rfl hl (by decide) rfl (fun ls hl => ?_)
        refine lv_iinc (v := nI (i + 1)) (lv' := [(3, .int (nI (i + 1))), (2, .int (x3)), (0, .ref (ad 0 (0))), (1, .ref (ad 10 (a)))]) hx hb dX6_bitsOf_18 hl (k := 1) rfl (nI_inc i 1) (by decide) rfl (fun ls hl => ?_)
        refine lv_goto (tgt := 4) hx hb dX6_bitsOf_21 (by decide) ?_
        exact ih4 (i + 1) (x3) (by omega) (by subst ex3 ex2; rw [hd]; rfl) (by omega) _ _ hW hS _ (lv_sub hl [0, 1, 2, 3] rfl)
  exact K4 (4 + 1) (0) (nI (0)) (by decide) rfl (by omega) _ _ hW hS _ (lv_sub hl [0, 1, 2, 3] rfl)

set_option maxHeartbeats 4000000 in
set_option maxRecDepth 100000 in
theorem c_X6_unlike_10 (l : Launch) (D : va_G) (G : Nat → ClassId) (ad : Nat → Nat → Nat) (hI : wI LM ad) (J : St) (a b : Nat) (ha : a < 33) (hb3 : b < 33) : Met l yX6_unlike wsX6_unlike ({ frames := 1, cells := 0, slots := 0, locals := 20 } : Room) (gPre D G LM ad [.ref (ad 0 (0)), .ref (ad 10 (a)), .ref (ad 10 (b))] (wM G ad J)) (gQi D LM ad (wM G ad) (fun r9 u => r9 = oth (J 10 a) (J 10 b) 4 ∧ u = J)) 0 0 (wA LM ad) := by
  refine g_entry (C := RX6) (cc := cX6_unlike) (maxL := 5) (ret := (some .int)) rfl (by decide) rfl (Nat.le_of_ble_eq_true rfl) (fun p e s m args below meth c Q ls hQ hx hb hr hts hown hlocks hml hW hK hl => ?_)
  have hl : lv_has ls 5 [(0, .ref (ad 0 (0))), (1, .ref (ad 10 (a))), (2, .ref (ad 10 (b)))] := hl
  have hS := va_S.rf (A := wA LM ad) (H0 := s.heap)
  refine lv_iconst (v := nI 0) hx hb dX6_unlike_0 (by decide) ?_
  refine lv_istore_n (lv' := [(3, .int (nI (0))), (0, .ref (ad 0 (0))), (1, .ref (ad 10 (a))), (2, .ref (ad 10 (b)))]) hx hb dX6_unlike_1 rfl hl (by decide) rfl (fun ls hl => ?_)
  refine lv_iconst (v := nI 0) hx hb dX6_unlike_2 (by decide) ?_
  refine lv_istore (lv' := [(4, .int (nI (0))), (3, .int (nI (0))), (0, .ref (ad 0 (0))), (1, .ref (ad 10 (a))), (2, .ref (ad 10 (b)))]) hx hb dX6_unlike_3 hl (by decide) rfl (fun ls hl => ?_)
  have K5 : ∀ (n : Nat) (i : Nat) (d : Int32), (i ≤ 4) → (d = oth (J 10 a) (J 10 b) i) → 4 < i + n → ∀ (H : Heap) (locs : List Loc), va_P D vwCl (wS LM ad (wM G ad J)) H → va_S (wA LM ad) s.heap H locs → ∀ (ls : Array Slot), lv_has ls 5 [(4, .int (nI (i))), (3, .int (d)), (0, .ref (ad 0 (0))), (1, .ref (ad 10 (a))), (2, .ref (ad 10 (b)))] → W p l e ({ frames := 1, cells := 0, slots := 0, locals := 20 } : Room) s m args below meth c H locs 0 0 Q (F0 m 5 ls []) := by
    intro n5
    induction n5 with
    | zero => intro i d hi hd hfu; exact absurd hfu (by omega)
    | succ n5 ih5 =>
      intro i d hi hd hfu H locs hW hS ls hl
      refine lv_iload hx hb dX6_unlike_5 (lv_at hl 0 rfl) ?_
      refine lv_iconst (v := nI 4) hx hb dX6_unlike_7 (by decide) ?_
      refine lv_icmp_ge (tgt := 32) hx hb dX6_unlike_8 (by decide) (fun c8_0 => ?_) (fun c8_0 => ?_)
      · replace c8_0 : 4 ≤ i := (nI_leI (show 4 < 2147483648 by omega) (show i < 2147483648 by omega)).mp c8_0
        refine lv_iload_n hx hb dX6_unlike_32 rfl (lv_at hl 1 rfl) ?_
        rw [hQ]
        exact g_iret (wd := wM G ad) hx hb hr rfl hlocks hW hS (by have e4 : i = 4 := (by omega); subst e4; exact ⟨hd, rfl⟩) dX6_unlike_33
      · replace c8_0 : ¬ (4 ≤ i) := fun h => c8_0 ((nI_leI (show 4 < 2147483648 by omega) (show i < 2147483648 by omega)).mpr h)
        refine lv_iload_n hx hb dX6_unlike_11 rfl (lv_at hl 1 rfl) ?_
        refine lv_aload_n hx hb dX6_unlike_12 rfl (lv_at hl 3 rfl) ?_
        refine lv_iload hx hb dX6_unlike_13 (lv_at hl 0 rfl) ?_
        refine rM_iald hx hb hK hW 10 (a) (i) (by decide) (by decide) (show a < 33 by omega) (show i < 4 by omega) rfl dX6_unlike_15 (fun x2 ex2 => ?_)
        refine lv_aload_n hx hb dX6_unlike_16 rfl (lv_at hl 4 rfl) ?_
        refine lv_iload hx hb dX6_unlike_17 (lv_at hl 0 rfl) ?_
        refine rM_iald hx hb hK hW 10 (b) (i) (by decide) (by decide) (show b < 33 by omega) (show i < 4 by omega) rfl dX6_unlike_19 (fun x3 ex3 => ?_)
        refine lv_ixor hx hb dX6_unlike_20 (lv_topi (fun x4 ex4 => ?_))
        refine g_pi (va_runS (As := [.int (x4)]) (rest := [.int (d)]) ⟨hx, hb, hml, hown, hts⟩ (c_J6_bitCount_0f7a4 l x4) (va_cwS 1 hts gX6_unlike_J6_bitCount_0f7a4 rfl rfl rfl (by decide +kernel) ⟨Nat.le_of_ble_eq_true rfl, Nat.le_of_ble_eq_true rfl⟩) p_preS rfl rfl hl.1 rfl (lv_room (Nat.le_of_ble_eq_true rfl)) dX6_unlike_21 ⟨Nat.le_refl _, Nat.le_refl _⟩) hW hS (fun H locs hW hS => ?_)
        refine lv_iadd hx hb dX6_unlike_24 (lv_topi (fun x5 ex5 => ?_))
        refine lv_istore_n (lv' := [(3, .int (x5)), (4, .int (nI (i))), (0, .ref (ad 0 (0))), (1, .ref (ad 10 (a))), (2, .ref (ad 10 (b)))]) hx hb dX6_unlike_25 rfl hl (by decide) rfl (fun ls hl => ?_)
        refine lv_iinc (v := nI (i + 1)) (lv' := [(4, .int (nI (i + 1))), (3, .int (x5)), (0, .ref (ad 0 (0))), (1, .ref (ad 10 (a))), (2, .ref (ad 10 (b)))]) hx hb dX6_unlike_26 hl (k := 1) rfl (nI_inc i 1) (by decide) rfl (fun ls hl => ?_)
        refine lv_goto (tgt := 5) hx hb dX6_unlike_29 (by decide) ?_
        exact ih5 (i + 1) (x5) (by omega) (by subst ex5 ex4 ex3 ex2; rw [hd]; rfl) (by omega) _ _ hW hS _ (lv_sub hl [0, 1, 2, 3, 4] rfl)
  exact K5 (4 + 1) (0) (nI (0)) (by decide) rfl (by omega) _ _ hW hS _ (lv_sub hl [0, 1, 2, 3, 4] rfl)

set_option maxHeartbeats 4000000 in
set_option maxRecDepth 100000 in
theorem c_X6_bitsOf_11 (l : Launch) (D : va_G) (G : Nat → ClassId) (ad : Nat → Nat → Nat) (hI : wI LM ad) (J : St) (a : Nat) (ha : a < 33) : Met l yX6_bitsOf wsX6_bitsOf ({ frames := 1, cells := 0, slots := 0, locals := 20 } : Room) (gPre D G LM ad [.ref (ad 0 (0)), .ref (ad 11 (a))] (wM G ad J)) (gQi D LM ad (wM G ad) (fun r9 u => r9 = bcs (J 11 a) 4 ∧ u = J)) 0 0 (wA LM ad) := by
  refine g_entry (C := RX6) (cc := cX6_bitsOf) (maxL := 4) (ret := (some .int)) rfl (by decide) rfl (Nat.le_of_ble_eq_true rfl) (fun p e s m args below meth c Q ls hQ hx hb hr hts hown hlocks hml hW hK hl => ?_)
  have hl : lv_has ls 4 [(0, .ref (ad 0 (0))), (1, .ref (ad 11 (a)))] := hl
  have hS := va_S.rf (A := wA LM ad) (H0 := s.heap)
  refine lv_iconst (v := nI 0) hx hb dX6_bitsOf_0 (by decide) ?_
  refine lv_istore_n (lv' := [(2, .int (nI (0))), (0, .ref (ad 0 (0))), (1, .ref (ad 11 (a)))]) hx hb dX6_bitsOf_1 rfl hl (by decide) rfl (fun ls hl => ?_)
  refine lv_iconst (v := nI 0) hx hb dX6_bitsOf_2 (by decide) ?_
  refine lv_istore_n (lv' := [(3, .int (nI (0))), (2, .int (nI (0))), (0, .ref (ad 0 (0))), (1, .ref (ad 11 (a)))]) hx hb dX6_bitsOf_3 rfl hl (by decide) rfl (fun ls hl => ?_)
  have K4 : ∀ (n : Nat) (i : Nat) (d : Int32), (i ≤ 4) → (d = bcs (J 11 a) i) → 4 < i + n → ∀ (H : Heap) (locs : List Loc), va_P D vwCl (wS LM ad (wM G ad J)) H → va_S (wA LM ad) s.heap H locs → ∀ (ls : Array Slot), lv_has ls 4 [(3, .int (nI (i))), (2, .int (d)), (0, .ref (ad 0 (0))), (1, .ref (ad 11 (a)))] → W p l e ({ frames := 1, cells := 0, slots := 0, locals := 20 } : Room) s m args below meth c H locs 0 0 Q (F0 m 4 ls []) := by
    intro n4
    induction n4 with
    | zero => intro i d hi hd hfu; exact absurd hfu (by omega)
    | succ n4 ih4 =>
      intro i d hi hd hfu H locs hW hS ls hl
      refine lv_iload_n hx hb dX6_bitsOf_4 rfl (lv_at hl 0 rfl) ?_
      refine lv_iconst (v := nI 4) hx hb dX6_bitsOf_5 (by decide) ?_
      refine lv_icmp_ge (tgt := 24) hx hb dX6_bitsOf_6 (by decide) (fun c6_0 => ?_) (fun c6_0 => ?_)
      · replace c6_0 : 4 ≤ i := (nI_leI (show 4 < 2147483648 by omega) (show i < 2147483648 by omega)).mp c6_0
        refine lv_iload_n hx hb dX6_bitsOf_24 rfl (lv_at hl 1 rfl) ?_
        rw [hQ]
        exact g_iret (wd := wM G ad) hx hb hr rfl hlocks hW hS (by have e4 : i = 4 := (by omega); subst e4; exact ⟨hd, rfl⟩) dX6_bitsOf_25
      · replace c6_0 : ¬ (4 ≤ i) := fun h => c6_0 ((nI_leI (show 4 < 2147483648 by omega) (show i < 2147483648 by omega)).mpr h)
        refine lv_iload_n hx hb dX6_bitsOf_9 rfl (lv_at hl 1 rfl) ?_
        refine lv_aload_n hx hb dX6_bitsOf_10 rfl (lv_at hl 3 rfl) ?_
        refine lv_iload_n hx hb dX6_bitsOf_11 rfl (lv_at hl 0 rfl) ?_
        refine rM_iald hx hb hK hW 11 (a) (i) (by decide) (by decide) (show a < 33 by omega) (show i < 4 by omega) rfl dX6_bitsOf_12 (fun x2 ex2 => ?_)
        refine g_pi (va_runS (As := [.int (x2)]) (rest := [.int (d)]) ⟨hx, hb, hml, hown, hts⟩ (c_J6_bitCount_0f7a4 l x2) (va_cwS 1 hts gX6_bitsOf_J6_bitCount_0f7a4 rfl rfl rfl (by decide +kernel) ⟨Nat.le_of_ble_eq_true rfl, Nat.le_of_ble_eq_true rfl⟩) p_preS rfl rfl hl.1 rfl (lv_room (Nat.le_of_ble_eq_true rfl)) dX6_bitsOf_13 ⟨Nat.le_refl _, Nat.le_refl _⟩) hW hS (fun H locs hW hS => ?_)
        refine lv_iadd hx hb dX6_bitsOf_16 (lv_topi (fun x3 ex3 => ?_))
        refine lv_istore_n (lv' := [(2, .int (x3)), (3, .int (nI (i))), (0, .ref (ad 0 (0))), (1, .ref (ad 11 (a)))]) hx hb dX6_bitsOf_17 rfl hl (by decide) rfl (fun ls hl => ?_)
        refine lv_iinc (v := nI (i + 1)) (lv' := [(3, .int (nI (i + 1))), (2, .int (x3)), (0, .ref (ad 0 (0))), (1, .ref (ad 11 (a)))]) hx hb dX6_bitsOf_18 hl (k := 1) rfl (nI_inc i 1) (by decide) rfl (fun ls hl => ?_)
        refine lv_goto (tgt := 4) hx hb dX6_bitsOf_21 (by decide) ?_
        exact ih4 (i + 1) (x3) (by omega) (by subst ex3 ex2; rw [hd]; rfl) (by omega) _ _ hW hS _ (lv_sub hl [0, 1, 2, 3] rfl)
  exact K4 (4 + 1) (0) (nI (0)) (by decide) rfl (by omega) _ _ hW hS _ (lv_sub hl [0, 1, 2, 3] rfl)

set_option maxHeartbeats 4000000 in
set_option maxRecDepth 100000 in
theorem c_X6_unlike_11 (l : Launch) (D : va_G) (G : Nat → ClassId) (ad : Nat → Nat → Nat) (hI : wI LM ad) (J : St) (a b : Nat) (ha : a < 33) (hb3 : b < 33) : Met l yX6_unlike wsX6_unlike ({ frames := 1, cells := 0, slots := 0, locals := 20 } : Room) (gPre D G LM ad [.ref (ad 0 (0)), .ref (ad 11 (a)), .ref (ad 11 (b))] (wM G ad J)) (gQi D LM ad (wM G ad) (fun r9 u => r9 = oth (J 11 a) (J 11 b) 4 ∧ u = J)) 0 0 (wA LM ad) := by
  refine g_entry (C := RX6) (cc := cX6_unlike) (maxL := 5) (ret := (some .int)) rfl (by decide) rfl (Nat.le_of_ble_eq_true rfl) (fun p e s m args below meth c Q ls hQ hx hb hr hts hown hlocks hml hW hK hl => ?_)
  have hl : lv_has ls 5 [(0, .ref (ad 0 (0))), (1, .ref (ad 11 (a))), (2, .ref (ad 11 (b)))] := hl
  have hS := va_S.rf (A := wA LM ad) (H0 := s.heap)
  refine lv_iconst (v := nI 0) hx hb dX6_unlike_0 (by decide) ?_
  refine lv_istore_n (lv' := [(3, .int (nI (0))), (0, .ref (ad 0 (0))), (1, .ref (ad 11 (a))), (2, .ref (ad 11 (b)))]) hx hb dX6_unlike_1 rfl hl (by decide) rfl (fun ls hl => ?_)
  refine lv_iconst (v := nI 0) hx hb dX6_unlike_2 (by decide) ?_
  refine lv_istore (lv' := [(4, .int (nI (0))), (3, .int (nI (0))), (0, .ref (ad 0 (0))), (1, .ref (ad 11 (a))), (2, .ref (ad 11 (b)))]) hx hb dX6_unlike_3 hl (by decide) rfl (fun ls hl => ?_)
  have K5 : ∀ (n : Nat) (i : Nat) (d : Int32), (i ≤ 4) → (d = oth (J 11 a) (J 11 b) i) → 4 < i + n → ∀ (H : Heap) (locs : List Loc), va_P D vwCl (wS LM ad (wM G ad J)) H → va_S (wA LM ad) s.heap H locs → ∀ (ls : Array Slot), lv_has ls 5 [(4, .int (nI (i))), (3, .int (d)), (0, .ref (ad 0 (0))), (1, .ref (ad 11 (a))), (2, .ref (ad 11 (b)))] → W p l e ({ frames := 1, cells := 0, slots := 0, locals := 20 } : Room) s m args below meth c H locs 0 0 Q (F0 m 5 ls []) := by
    intro n5
    induction n5 with
    | zero => intro i d hi hd hfu; exact absurd hfu (by omega)
    | succ n5 ih5 =>
      intro i d hi hd hfu H locs hW hS ls hl
      refine lv_iload hx hb dX6_unlike_5 (lv_at hl 0 rfl) ?_
      refine lv_iconst (v := nI 4) hx hb dX6_unlike_7 (by decide) ?_
      refine lv_icmp_ge (tgt := 32) hx hb dX6_unlike_8 (by decide) (fun c8_0 => ?_) (fun c8_0 => ?_)
      · replace c8_0 : 4 ≤ i := (nI_leI (show 4 < 2147483648 by omega) (show i < 2147483648 by omega)).mp c8_0
        refine lv_iload_n hx hb dX6_unlike_32 rfl (lv_at hl 1 rfl) ?_
        rw [hQ]
        exact g_iret (wd := wM G ad) hx hb hr rfl hlocks hW hS (by have e4 : i = 4 := (by omega); subst e4; exact ⟨hd, rfl⟩) dX6_unlike_33
      · replace c8_0 : ¬ (4 ≤ i) := fun h => c8_0 ((nI_leI (show 4 < 2147483648 by omega) (show i < 2147483648 by omega)).mpr h)
        refine lv_iload_n hx hb dX6_unlike_11 rfl (lv_at hl 1 rfl) ?_
        refine lv_aload_n hx hb dX6_unlike_12 rfl (lv_at hl 3 rfl) ?_
        refine lv_iload hx hb dX6_unlike_13 (lv_at hl 0 rfl) ?_
        refine rM_iald hx hb hK hW 11 (a) (i) (by decide) (by decide) (show a < 33 by omega) (show i < 4 by omega) rfl dX6_unlike_15 (fun x2 ex2 => ?_)
        refine lv_aload_n hx hb dX6_unlike_16 rfl (lv_at hl 4 rfl) ?_
        refine lv_iload hx hb dX6_unlike_17 (lv_at hl 0 rfl) ?_
        refine rM_iald hx hb hK hW 11 (b) (i) (by decide) (by decide) (show b < 33 by omega) (show i < 4 by omega) rfl dX6_unlike_19 (fun x3 ex3 => ?_)
        refine lv_ixor hx hb dX6_unlike_20 (lv_topi (fun x4 ex4 => ?_))
        refine g_pi (va_runS (As := [.int (x4)]) (rest := [.int (d)]) ⟨hx, hb, hml, hown, hts⟩ (c_J6_bitCount_0f7a4 l x4) (va_cwS 1 hts gX6_unlike_J6_bitCount_0f7a4 rfl rfl rfl (by decide +kernel) ⟨Nat.le_of_ble_eq_true rfl, Nat.le_of_ble_eq_true rfl⟩) p_preS rfl rfl hl.1 rfl (lv_room (Nat.le_of_ble_eq_true rfl)) dX6_unlike_21 ⟨Nat.le_refl _, Nat.le_refl _⟩) hW hS (fun H locs hW hS => ?_)
        refine lv_iadd hx hb dX6_unlike_24 (lv_topi (fun x5 ex5 => ?_))
        refine lv_istore_n (lv' := [(3, .int (x5)), (4, .int (nI (i))), (0, .ref (ad 0 (0))), (1, .ref (ad 11 (a))), (2, .ref (ad 11 (b)))]) hx hb dX6_unlike_25 rfl hl (by decide) rfl (fun ls hl => ?_)
        refine lv_iinc (v := nI (i + 1)) (lv' := [(4, .int (nI (i + 1))), (3, .int (x5)), (0, .ref (ad 0 (0))), (1, .ref (ad 11 (a))), (2, .ref (ad 11 (b)))]) hx hb dX6_unlike_26 hl (k := 1) rfl (nI_inc i 1) (by decide) rfl (fun ls hl => ?_)
        refine lv_goto (tgt := 5) hx hb dX6_unlike_29 (by decide) ?_
        exact ih5 (i + 1) (x5) (by omega) (by subst ex5 ex4 ex3 ex2; rw [hd]; rfl) (by omega) _ _ hW hS _ (lv_sub hl [0, 1, 2, 3, 4] rfl)
  exact K5 (4 + 1) (0) (nI (0)) (by decide) rfl (by omega) _ _ hW hS _ (lv_sub hl [0, 1, 2, 3, 4] rfl)

set_option maxHeartbeats 4000000 in
set_option maxRecDepth 100000 in
theorem c_X6_meets (l : Launch) (D : va_G) (G : Nat → ClassId) (ad : Nat → Nat → Nat) (hI : wI LM ad) (J : St)  : Met l yX6_meets wsX6_meets ({ frames := 2, cells := 0, slots := 0, locals := 86 } : Room) (gPre D G LM ad [.ref (ad 0 (0))] (wM G ad J)) (gQv D LM ad (wM G ad) (fun u => u = mtM J 3)) 0 0 (wA LM ad) := by
  refine g_entry (C := RX6) (cc := cX6_meets) (maxL := 2) (ret := none) rfl (by decide) rfl (Nat.le_of_ble_eq_true rfl) (fun p e s m args below meth c Q ls hQ hx hb hr hts hown hlocks hml hW hK hl => ?_)
  have hl : lv_has ls 2 [(0, .ref (ad 0 (0)))] := hl
  have hS := va_S.rf (A := wA LM ad) (H0 := s.heap)
  refine lv_aload_n hx hb dX6_meets_0 rfl (lv_at hl 0 rfl) ?_
  refine lv_iconst (v := nI 0) hx hb dX6_meets_1 (by decide) ?_
  refine lv_bipush (v := nI 26) hx hb dX6_meets_2 (by decide) ?_
  refine g_cv (va_runV (As := [.int (nI (0)), .int (nI (26))]) (rest := []) ⟨hx, hb, hml, hown, hts⟩ (c_X6_again l D G ad hI J 0 26 (by decide) (by decide)) (cwV 2 hts gX6_meets_X6_again rfl rfl rfl (by decide +kernel) ⟨Nat.le_of_ble_eq_true rfl, Nat.le_of_ble_eq_true rfl⟩) (g_preV hK hW 0 (0) (mM (by decide) (by decide)) rfl rfl) rfl rfl hl.1 rfl (lv_room (Nat.le_of_ble_eq_true rfl)) dX6_meets_4 ⟨Nat.le_refl _, Nat.le_refl _⟩) hS (fun I1 H locs hp hW hS => ?_)
  have eI1 : I1 = cpy J 26 0 := hp
  refine lv_iconst (v := nI 1) hx hb dX6_meets_7 (by decide) ?_
  refine lv_istore_n (lv' := [(1, .int (nI (1))), (0, .ref (ad 0 (0)))]) hx hb dX6_meets_8 rfl hl (by decide) rfl (fun ls hl => ?_)
  have K9 : ∀ (n : Nat) (i : Nat), (i ≤ 4) → (1 ≤ i) → 4 < i + n → ∀ (H : Heap) (locs : List Loc), va_P D vwCl (wS LM ad (wM G ad (mtM J (i - 1)))) H → va_S (wA LM ad) s.heap H locs → ∀ (ls : Array Slot), lv_has ls 2 [(1, .int (nI (i))), (0, .ref (ad 0 (0)))] → W p l e ({ frames := 2, cells := 0, slots := 0, locals := 86 } : Room) s m args below meth c H locs 0 0 Q (F0 m 9 ls []) := by
    intro n9
    induction n9 with
    | zero => intro i hi hi1 hfu; exact absurd hfu (by omega)
    | succ n9 ih9 =>
      intro i hi hi1 hfu H locs hW hS ls hl
      refine lv_iload_n hx hb dX6_meets_9 rfl (lv_at hl 0 rfl) ?_
      refine lv_iconst (v := nI 4) hx hb dX6_meets_10 (by decide) ?_
      refine lv_icmp_ge (tgt := 27) hx hb dX6_meets_11 (by decide) (fun c11_1 => ?_) (fun c11_1 => ?_)
      · replace c11_1 : 4 ≤ i := (nI_leI (show 4 < 2147483648 by omega) (show i < 2147483648 by omega)).mp c11_1
        rw [hQ]
        exact g_vret (wd := wM G ad) hx hb hr hlocks hW hS (by have e4 : i = 4 := (by omega); subst e4; rfl) dX6_meets_27
      · replace c11_1 : ¬ (4 ≤ i) := fun h => c11_1 ((nI_leI (show 4 < 2147483648 by omega) (show i < 2147483648 by omega)).mpr h)
        refine lv_aload_n hx hb dX6_meets_14 rfl (lv_at hl 1 rfl) ?_
        refine lv_bipush (v := nI 26) hx hb dX6_meets_15 (by decide) ?_
        refine lv_iload_n hx hb dX6_meets_17 rfl (lv_at hl 0 rfl) ?_
        refine g_cv (va_runV (As := [.int (nI (26)), .int (nI (i))]) (rest := []) ⟨hx, hb, hml, hown, hts⟩ (c_X6_join l D G ad hI (mtM J (i - 1)) 26 i (by decide) (show i < 33 by omega)) (cwV 2 hts gX6_meets_X6_join rfl rfl rfl (by decide +kernel) ⟨Nat.le_of_ble_eq_true rfl, Nat.le_of_ble_eq_true rfl⟩) (g_preV hK hW 0 (0) (mM (by decide) (by decide)) rfl rfl) rfl rfl hl.1 rfl (lv_room (Nat.le_of_ble_eq_true rfl)) dX6_meets_18 ⟨Nat.le_refl _, Nat.le_refl _⟩) hS (fun I3 H locs hp hW hS => ?_)
        have eI3 : I3 = jn (mtM J (i - 1)) 26 i := hp
        refine lv_iinc (v := nI (i + 1)) (lv' := [(1, .int (nI (i + 1))), (0, .ref (ad 0 (0)))]) hx hb dX6_meets_21 hl (k := 0) rfl (nI_inc i 1) (by decide) rfl (fun ls hl => ?_)
        refine lv_goto (tgt := 9) hx hb dX6_meets_24 (by decide) ?_
        have e9 : I3 = mtM J ((i + 1) - 1) := by
          obtain ⟨i0, e0⟩ : ∃ i0, i = i0 + 1 := ⟨i - 1, by omega⟩
          subst eI3
          subst e0
          rfl
        have hW9 := hW
        rw [e9] at hW9
        exact ih9 (i + 1) (by omega) (by omega) (by omega) _ _ hW9 hS _ (lv_sub hl [0, 1] rfl)
  have e9 : I1 = mtM J (1 - 1) := by
    subst eI1
    rfl
  have hW9 := hW
  rw [e9] at hW9
  exact K9 (4 + 1) (1) (by omega) (by omega) (by omega) _ _ hW9 hS _ (lv_sub hl [0, 1] rfl)

set_option maxHeartbeats 4000000 in
set_option maxRecDepth 100000 in
theorem c_X6_isGone (l : Launch) (D : va_G) (G : Nat → ClassId) (ad : Nat → Nat → Nat) (hI : wI LM ad) (J : St) (act v x : Int32) : Met l yX6_isGone wsX6_isGone ({ frames := 0, cells := 0, slots := 0, locals := 0 } : Room) (gPre D G LM ad [.ref (ad 0 (0)), .int (act), .int (v), .int (x)] (wM G ad J)) (gQi D LM ad (wM G ad) (fun r9 u => r9 = bI (isg act v x) ∧ u = J)) 0 0 (wA LM ad) := by
  refine g_entry (C := RX6) (cc := cX6_isGone) (maxL := 4) (ret := (some .boolean)) rfl (by decide) rfl (Nat.le_of_ble_eq_true rfl) (fun p e s m args below meth c Q ls hQ hx hb hr hts hown hlocks hml hW hK hl => ?_)
  have hl : lv_has ls 4 [(0, .ref (ad 0 (0))), (1, .int (act)), (2, .int (v)), (3, .int (x))] := hl
  have hS := va_S.rf (A := wA LM ad) (H0 := s.heap)
  refine lv_iload_n hx hb dX6_isGone_0 rfl (lv_at hl 1 rfl) ?_
  refine lv_iconst (v := nI 1) hx hb dX6_isGone_1 (by decide) ?_
  refine lv_icmp_eq (tgt := 25) hx hb dX6_isGone_2 (by decide) (fun c2_0 => ?_) (fun c2_0 => ?_)
  · refine lv_iconst (v := nI 1) hx hb dX6_isGone_25 (by decide) ?_
    refine lv_goto (tgt := 30) hx hb dX6_isGone_26 (by decide) ?_
    rw [hQ]
    exact g_iret (wd := wM G ad) hx hb hr (by decide) hlocks hW hS (by refine ⟨?_, rfl⟩; simp_all [isg, bI, nI_0, nI_one, Int32.not_le, Int32.not_lt]) dX6_isGone_30
  · refine lv_iload_n hx hb dX6_isGone_5 rfl (lv_at hl 1 rfl) ?_
    refine lv_iconst (v := nI 2) hx hb dX6_isGone_6 (by decide) ?_
    refine lv_icmp_ne (tgt := 15) hx hb dX6_isGone_7 (by decide) (fun c7_1 => ?_) (fun c7_1 => ?_)
    · refine lv_iload_n hx hb dX6_isGone_15 rfl (lv_at hl 1 rfl) ?_
      refine lv_iconst (v := nI 3) hx hb dX6_isGone_16 (by decide) ?_
      refine lv_icmp_ne (tgt := 29) hx hb dX6_isGone_17 (by decide) (fun c17_2 => ?_) (fun c17_2 => ?_)
      · refine lv_iconst (v := nI 0) hx hb dX6_isGone_29 (by decide) ?_
        rw [hQ]
        exact g_iret (wd := wM G ad) hx hb hr (by decide) hlocks hW hS (by refine ⟨?_, rfl⟩; simp_all [isg, bI, nI_0, nI_one, Int32.not_le, Int32.not_lt]) dX6_isGone_30
      · refine lv_iload_n hx hb dX6_isGone_20 rfl (lv_at hl 3 rfl) ?_
        refine lv_iload_n hx hb dX6_isGone_21 rfl (lv_at hl 2 rfl) ?_
        refine lv_icmp_gt (tgt := 29) hx hb dX6_isGone_22 (by decide) (fun c22_3 => ?_) (fun c22_3 => ?_)
        · refine lv_iconst (v := nI 0) hx hb dX6_isGone_29 (by decide) ?_
          rw [hQ]
          exact g_iret (wd := wM G ad) hx hb hr (by decide) hlocks hW hS (by refine ⟨?_, rfl⟩; simp_all [isg, bI, nI_0, nI_one, Int32.not_le, Int32.not_lt]) dX6_isGone_30
        · refine lv_iconst (v := nI 1) hx hb dX6_isGone_25 (by decide) ?_
          refine lv_goto (tgt := 30) hx hb dX6_isGone_26 (by decide) ?_
          rw [hQ]
          exact g_iret (wd := wM G ad) hx hb hr (by decide) hlocks hW hS (by refine ⟨?_, rfl⟩; simp_all [isg, bI, nI_0, nI_one, Int32.not_le, Int32.not_lt]) dX6_isGone_30
    · refine lv_iload_n hx hb dX6_isGone_10 rfl (lv_at hl 3 rfl) ?_
      refine lv_iload_n hx hb dX6_isGone_11 rfl (lv_at hl 2 rfl) ?_
      refine lv_icmp_eq (tgt := 25) hx hb dX6_isGone_12 (by decide) (fun c12_4 => ?_) (fun c12_4 => ?_)
      · refine lv_iconst (v := nI 1) hx hb dX6_isGone_25 (by decide) ?_
        refine lv_goto (tgt := 30) hx hb dX6_isGone_26 (by decide) ?_
        rw [hQ]
        exact g_iret (wd := wM G ad) hx hb hr (by decide) hlocks hW hS (by refine ⟨?_, rfl⟩; simp_all [isg, bI, nI_0, nI_one, Int32.not_le, Int32.not_lt]) dX6_isGone_30
      · refine lv_iload_n hx hb dX6_isGone_15 rfl (lv_at hl 1 rfl) ?_
        refine lv_iconst (v := nI 3) hx hb dX6_isGone_16 (by decide) ?_
        refine lv_icmp_ne (tgt := 29) hx hb dX6_isGone_17 (by decide) (fun c17_5 => ?_) (fun c17_5 => ?_)
        · refine lv_iconst (v := nI 0) hx hb dX6_isGone_29 (by decide) ?_
          rw [hQ]
          exact g_iret (wd := wM G ad) hx hb hr (by decide) hlocks hW hS (by refine ⟨?_, rfl⟩; simp_all [isg, bI, nI_0, nI_one, Int32.not_le, Int32.not_lt]) dX6_isGone_30
        · refine lv_iload_n hx hb dX6_isGone_20 rfl (lv_at hl 3 rfl) ?_
          refine lv_iload_n hx hb dX6_isGone_21 rfl (lv_at hl 2 rfl) ?_
          refine lv_icmp_gt (tgt := 29) hx hb dX6_isGone_22 (by decide) (fun c22_6 => ?_) (fun c22_6 => ?_)
          · refine lv_iconst (v := nI 0) hx hb dX6_isGone_29 (by decide) ?_
            rw [hQ]
            exact g_iret (wd := wM G ad) hx hb hr (by decide) hlocks hW hS (by refine ⟨?_, rfl⟩; simp_all [isg, bI, nI_0, nI_one, Int32.not_le, Int32.not_lt]) dX6_isGone_30
          · refine lv_iconst (v := nI 1) hx hb dX6_isGone_25 (by decide) ?_
            refine lv_goto (tgt := 30) hx hb dX6_isGone_26 (by decide) ?_
            rw [hQ]
            exact g_iret (wd := wM G ad) hx hb hr (by decide) hlocks hW hS (by refine ⟨?_, rfl⟩; simp_all [isg, bI, nI_0, nI_one, Int32.not_le, Int32.not_lt]) dX6_isGone_30
