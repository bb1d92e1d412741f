/-! ===== leaves of JoinedStores ===== -/
set_option maxHeartbeats 4000000 in
set_option maxRecDepth 100000 in
theorem c_J6_bitCount_0f7a4 (l : Launch) (a : Int32) : Met l yJ6_bitCount_0f7a4 wsJ6_bitCount_0f7a4 ({ frames := 0, cells := 0, slots := 0, locals := 0 } : Room) (pPre [.int (a)]) (pQi (bc a)) 0 0 (fun _ => False) := by
  refine p_entry (C := RJ6) (cc := cJ6_bitCount_0f7a4) (maxL := 1) (ret := (some .int)) rfl (by decide) rfl (Nat.le_of_ble_eq_true rfl) (fun p e s m args below meth c Q ls hQ hx hb hr hts hown hlocks hml hl => ?_)
  have hl : lv_has ls 1 [(0, .int (a))] := hl
  have hS := va_S.rf (A := fun _ => False) (H0 := s.heap)
  refine lv_iload_n hx hb dJ6_bitCount_0f7a4_0 rfl (lv_at hl 0 rfl) ?_
  refine lv_iload_n hx hb dJ6_bitCount_0f7a4_1 rfl (lv_at hl 0 rfl) ?_
  refine lv_iconst (v := nI 1) hx hb dJ6_bitCount_0f7a4_2 (by decide) ?_
  refine lv_iushr hx hb dJ6_bitCount_0f7a4_3 rfl (lv_topi (fun x1 ex1 => ?_))
  replace ex1 : x1 = us a (nI (1)) := ex1
  refine lv_ldcw (v := (1431655765)) hx hb hown (hts (.constant RJ6 265 (1431655765)) (by decide +kernel)) dJ6_bitCount_0f7a4_4 ?_
  refine lv_iand hx hb dJ6_bitCount_0f7a4_7 (lv_topi (fun x2 ex2 => ?_))
  refine lv_isub hx hb dJ6_bitCount_0f7a4_8 (lv_topi (fun x3 ex3 => ?_))
  refine lv_istore_n (lv' := [(0, .int (x3))]) hx hb dJ6_bitCount_0f7a4_9 rfl hl (by decide) rfl (fun ls hl => ?_)
  refine lv_iload_n hx hb dJ6_bitCount_0f7a4_10 rfl (lv_at hl 0 rfl) ?_
  refine lv_ldcw (v := (858993459)) hx hb hown (hts (.constant RJ6 266 (858993459)) (by decide +kernel)) dJ6_bitCount_0f7a4_11 ?_
  refine lv_iand hx hb dJ6_bitCount_0f7a4_14 (lv_topi (fun x4 ex4 => ?_))
  refine lv_iload_n hx hb dJ6_bitCount_0f7a4_15 rfl (lv_at hl 0 rfl) ?_
  refine lv_iconst (v := nI 2) hx hb dJ6_bitCount_0f7a4_16 (by decide) ?_
  refine lv_iushr hx hb dJ6_bitCount_0f7a4_17 rfl (lv_topi (fun x5 ex5 => ?_))
  replace ex5 : x5 = us x3 (nI (2)) := ex5
  refine lv_ldcw (v := (858993459)) hx hb hown (hts (.constant RJ6 266 (858993459)) (by decide +kernel)) dJ6_bitCount_0f7a4_18 ?_
  refine lv_iand hx hb dJ6_bitCount_0f7a4_21 (lv_topi (fun x6 ex6 => ?_))
  refine lv_iadd hx hb dJ6_bitCount_0f7a4_22 (lv_topi (fun x7 ex7 => ?_))
  refine lv_istore_n (lv' := [(0, .int (x7))]) hx hb dJ6_bitCount_0f7a4_23 rfl hl (by decide) rfl (fun ls hl => ?_)
  refine lv_iload_n hx hb dJ6_bitCount_0f7a4_24 rfl (lv_at hl 0 rfl) ?_
  refine lv_iload_n hx hb dJ6_bitCount_0f7a4_25 rfl (lv_at hl 0 rfl) ?_
  refine lv_iconst (v := nI 4) hx hb dJ6_bitCount_0f7a4_26 (by decide) ?_
  refine lv_iushr hx hb dJ6_bitCount_0f7a4_27 rfl (lv_topi (fun x8 ex8 => ?_))
  replace ex8 : x8 = us x7 (nI (4)) := ex8
  refine lv_iadd hx hb dJ6_bitCount_0f7a4_28 (lv_topi (fun x9 ex9 => ?_))
  refine lv_ldcw (v := (252645135)) hx hb hown (hts (.constant RJ6 267 (252645135)) (by decide +kernel)) dJ6_bitCount_0f7a4_29 ?_
  refine lv_iand hx hb dJ6_bitCount_0f7a4_32 (lv_topi (fun x10 ex10 => ?_))
  refine lv_istore_n (lv' := [(0, .int (x10))]) hx hb dJ6_bitCount_0f7a4_33 rfl hl (by decide) rfl (fun ls hl => ?_)
  refine lv_iload_n hx hb dJ6_bitCount_0f7a4_34 rfl (lv_at hl 0 rfl) ?_
  refine lv_iload_n hx hb dJ6_bitCount_0f7a4_35 rfl (lv_at hl 0 rfl) ?_
  refine lv_bipush (v := nI 8) hx hb dJ6_bitCount_0f7a4_36 (by decide) ?_
  refine lv_iushr hx hb dJ6_bitCount_0f7a4_38 rfl (lv_topi (fun x11 ex11 => ?_))
  replace ex11 : x11 = us x10 (nI (8)) := ex11
  refine lv_iadd hx hb dJ6_bitCount_0f7a4_39 (lv_topi (fun x12 ex12 => ?_))
  refine lv_istore_n (lv' := [(0, .int (x12))]) hx hb dJ6_bitCount_0f7a4_40 rfl hl (by decide) rfl (fun ls hl => ?_)
  refine lv_iload_n hx hb dJ6_bitCount_0f7a4_41 rfl (lv_at hl 0 rfl) ?_
  refine lv_iload_n hx hb dJ6_bitCount_0f7a4_42 rfl (lv_at hl 0 rfl) ?_
  refine lv_bipush (v := nI 16) hx hb dJ6_bitCount_0f7a4_43 (by decide) ?_
  refine lv_iushr hx hb dJ6_bitCount_0f7a4_45 rfl (lv_topi (fun x13 ex13 => ?_))
  replace ex13 : x13 = us x12 (nI (16)) := ex13
  refine lv_iadd hx hb dJ6_bitCount_0f7a4_46 (lv_topi (fun x14 ex14 => ?_))
  refine lv_istore_n (lv' := [(0, .int (x14))]) hx hb dJ6_bitCount_0f7a4_47 rfl hl (by decide) rfl (fun ls hl => ?_)
  refine lv_iload_n hx hb dJ6_bitCount_0f7a4_48 rfl (lv_at hl 0 rfl) ?_
  refine lv_bipush (v := nI 63) hx hb dJ6_bitCount_0f7a4_49 (by decide) ?_
  refine lv_iand hx hb dJ6_bitCount_0f7a4_51 (lv_topi (fun x15 ex15 => ?_))
  rw [hQ]
  exact p_iret hx hb hr rfl hlocks hS (by subst ex15 ex14 ex13 ex12 ex11 ex10 ex9 ex8 ex7 ex6 ex5 ex4 ex3 ex2 ex1; rfl) dJ6_bitCount_0f7a4_52

set_option maxHeartbeats 4000000 in
set_option maxRecDepth 100000 in
theorem c_X5_isReplica (l : Launch) (a : Int32) : Met l yX5_isReplica wsX5_isReplica ({ frames := 0, cells := 0, slots := 0, locals := 0 } : Room) (pPre [.int (a)]) (pQi (bI (okN (nI 4) a))) 0 0 (fun _ => False) := by
  refine p_entry (C := RX5) (cc := cX5_isReplica) (maxL := 1) (ret := (some .boolean)) rfl (by decide) rfl (Nat.le_of_ble_eq_true rfl) (fun p e s m args below meth c Q ls hQ hx hb hr hts hown hlocks hml hl => ?_)
  have hl : lv_has ls 1 [(0, .int (a))] := hl
  have hS := va_S.rf (A := fun _ => False) (H0 := s.heap)
  refine lv_iload_n hx hb dX5_isReplica_0 rfl (lv_at hl 0 rfl) ?_
  refine lv_if_lt (tgt := 13) hx hb dX5_isReplica_1 (by decide) (fun c1_0 => ?_) (fun c1_0 => ?_)
  · refine lv_iconst (v := nI 0) hx hb dX5_isReplica_13 (by decide) ?_
    rw [hQ]
    exact p_iret hx hb hr (by decide) hlocks hS (by simp [okN, bI, nI_0, nI_one, *]) dX5_isReplica_14
  · refine lv_iload_n hx hb dX5_isReplica_4 rfl (lv_at hl 0 rfl) ?_
    refine lv_iconst (v := nI 4) hx hb dX5_isReplica_5 (by decide) ?_
    refine lv_icmp_ge (tgt := 13) hx hb dX5_isReplica_6 (by decide) (fun c6_1 => ?_) (fun c6_1 => ?_)
    · refine lv_iconst (v := nI 0) hx hb dX5_isReplica_13 (by decide) ?_
      rw [hQ]
      exact p_iret hx hb hr (by decide) hlocks hS (by simp [okN, bI, nI_0, nI_one, *]) dX5_isReplica_14
    · refine lv_iconst (v := nI 1) hx hb dX5_isReplica_9 (by decide) ?_
      refine lv_goto (tgt := 14) hx hb dX5_isReplica_10 (by decide) ?_
      rw [hQ]
      exact p_iret hx hb hr (by decide) hlocks hS (by simp [okN, bI, nI_0, nI_one, *]) dX5_isReplica_14

set_option maxHeartbeats 4000000 in
set_option maxRecDepth 100000 in
theorem c_X5_isRoom (l : Launch) (a : Int32) : Met l yX5_isRoom wsX5_isRoom ({ frames := 0, cells := 0, slots := 0, locals := 0 } : Room) (pPre [.int (a)]) (pQi (bI (okN (nI 3) a))) 0 0 (fun _ => False) := by
  refine p_entry (C := RX5) (cc := cX5_isRoom) (maxL := 1) (ret := (some .boolean)) rfl (by decide) rfl (Nat.le_of_ble_eq_true rfl) (fun p e s m args below meth c Q ls hQ hx hb hr hts hown hlocks hml hl => ?_)
  have hl : lv_has ls 1 [(0, .int (a))] := hl
  have hS := va_S.rf (A := fun _ => False) (H0 := s.heap)
  refine lv_iload_n hx hb dX5_isRoom_0 rfl (lv_at hl 0 rfl) ?_
  refine lv_if_lt (tgt := 13) hx hb dX5_isRoom_1 (by decide) (fun c1_0 => ?_) (fun c1_0 => ?_)
  · refine lv_iconst (v := nI 0) hx hb dX5_isRoom_13 (by decide) ?_
    rw [hQ]
    exact p_iret hx hb hr (by decide) hlocks hS (by simp [okN, bI, nI_0, nI_one, *]) dX5_isRoom_14
  · refine lv_iload_n hx hb dX5_isRoom_4 rfl (lv_at hl 0 rfl) ?_
    refine lv_iconst (v := nI 3) hx hb dX5_isRoom_5 (by decide) ?_
    refine lv_icmp_ge (tgt := 13) hx hb dX5_isRoom_6 (by decide) (fun c6_1 => ?_) (fun c6_1 => ?_)
    · refine lv_iconst (v := nI 0) hx hb dX5_isRoom_13 (by decide) ?_
      rw [hQ]
      exact p_iret hx hb hr (by decide) hlocks hS (by simp [okN, bI, nI_0, nI_one, *]) dX5_isRoom_14
    · refine lv_iconst (v := nI 1) hx hb dX5_isRoom_9 (by decide) ?_
      refine lv_goto (tgt := 14) hx hb dX5_isRoom_10 (by decide) ?_
      rw [hQ]
      exact p_iret hx hb hr (by decide) hlocks hS (by simp [okN, bI, nI_0, nI_one, *]) dX5_isRoom_14

set_option maxHeartbeats 4000000 in
set_option maxRecDepth 100000 in
theorem c_X5_isKind (l : Launch) (a : Int32) : Met l yX5_isKind wsX5_isKind ({ frames := 0, cells := 0, slots := 0, locals := 0 } : Room) (pPre [.int (a)]) (pQi (bI (okN (nI 6) a))) 0 0 (fun _ => False) := by
  refine p_entry (C := RX5) (cc := cX5_isKind) (maxL := 1) (ret := (some .boolean)) rfl (by decide) rfl (Nat.le_of_ble_eq_true rfl) (fun p e s m args below meth c Q ls hQ hx hb hr hts hown hlocks hml hl => ?_)
  have hl : lv_has ls 1 [(0, .int (a))] := hl
  have hS := va_S.rf (A := fun _ => False) (H0 := s.heap)
  refine lv_iload_n hx hb dX5_isKind_0 rfl (lv_at hl 0 rfl) ?_
  refine lv_if_lt (tgt := 14) hx hb dX5_isKind_1 (by decide) (fun c1_0 => ?_) (fun c1_0 => ?_)
  · refine lv_iconst (v := nI 0) hx hb dX5_isKind_14 (by decide) ?_
    rw [hQ]
    exact p_iret hx hb hr (by decide) hlocks hS (by simp [okN, bI, nI_0, nI_one, *]) dX5_isKind_15
  · refine lv_iload_n hx hb dX5_isKind_4 rfl (lv_at hl 0 rfl) ?_
    refine lv_bipush (v := nI 6) hx hb dX5_isKind_5 (by decide) ?_
    refine lv_icmp_ge (tgt := 14) hx hb dX5_isKind_7 (by decide) (fun c7_1 => ?_) (fun c7_1 => ?_)
    · refine lv_iconst (v := nI 0) hx hb dX5_isKind_14 (by decide) ?_
      rw [hQ]
      exact p_iret hx hb hr (by decide) hlocks hS (by simp [okN, bI, nI_0, nI_one, *]) dX5_isKind_15
    · refine lv_iconst (v := nI 1) hx hb dX5_isKind_10 (by decide) ?_
      refine lv_goto (tgt := 15) hx hb dX5_isKind_11 (by decide) ?_
      rw [hQ]
      exact p_iret hx hb hr (by decide) hlocks hS (by simp [okN, bI, nI_0, nI_one, *]) dX5_isKind_15

set_option maxHeartbeats 4000000 in
set_option maxRecDepth 100000 in
theorem c_X5_isSheet (l : Launch) (a : Int32) : Met l yX5_isSheet wsX5_isSheet ({ frames := 0, cells := 0, slots := 0, locals := 0 } : Room) (pPre [.int (a)]) (pQi (bI (okN (nI 4) a))) 0 0 (fun _ => False) := by
  refine p_entry (C := RX5) (cc := cX5_isSheet) (maxL := 1) (ret := (some .boolean)) rfl (by decide) rfl (Nat.le_of_ble_eq_true rfl) (fun p e s m args below meth c Q ls hQ hx hb hr hts hown hlocks hml hl => ?_)
  have hl : lv_has ls 1 [(0, .int (a))] := hl
  have hS := va_S.rf (A := fun _ => False) (H0 := s.heap)
  refine lv_iload_n hx hb dX5_isSheet_0 rfl (lv_at hl 0 rfl) ?_
  refine lv_if_lt (tgt := 13) hx hb dX5_isSheet_1 (by decide) (fun c1_0 => ?_) (fun c1_0 => ?_)
  · refine lv_iconst (v := nI 0) hx hb dX5_isSheet_13 (by decide) ?_
    rw [hQ]
    exact p_iret hx hb hr (by decide) hlocks hS (by simp [okN, bI, nI_0, nI_one, *]) dX5_isSheet_14
  · refine lv_iload_n hx hb dX5_isSheet_4 rfl (lv_at hl 0 rfl) ?_
    refine lv_iconst (v := nI 4) hx hb dX5_isSheet_5 (by decide) ?_
    refine lv_icmp_ge (tgt := 13) hx hb dX5_isSheet_6 (by decide) (fun c6_1 => ?_) (fun c6_1 => ?_)
    · refine lv_iconst (v := nI 0) hx hb dX5_isSheet_13 (by decide) ?_
      rw [hQ]
      exact p_iret hx hb hr (by decide) hlocks hS (by simp [okN, bI, nI_0, nI_one, *]) dX5_isSheet_14
    · refine lv_iconst (v := nI 1) hx hb dX5_isSheet_9 (by decide) ?_
      refine lv_goto (tgt := 14) hx hb dX5_isSheet_10 (by decide) ?_
      rw [hQ]
      exact p_iret hx hb hr (by decide) hlocks hS (by simp [okN, bI, nI_0, nI_one, *]) dX5_isSheet_14

set_option maxHeartbeats 4000000 in
set_option maxRecDepth 100000 in
theorem c_X5_isObject (l : Launch) (a b : Int32) : Met l yX5_isObject wsX5_isObject ({ frames := 1, cells := 0, slots := 0, locals := 20 } : Room) (pPre [.int (a), .int (b)]) (pQi (bI (okN (nI 3) a && okN (nI 4) b))) 0 0 (fun _ => False) := by
  refine p_entry (C := RX5) (cc := cX5_isObject) (maxL := 2) (ret := (some .boolean)) rfl (by decide) rfl (Nat.le_of_ble_eq_true rfl) (fun p e s m args below meth c Q ls hQ hx hb hr hts hown hlocks hml hl => ?_)
  have hl : lv_has ls 2 [(0, .int (a)), (1, .int (b))] := hl
  have hS := va_S.rf (A := fun _ => False) (H0 := s.heap)
  refine lv_iload_n hx hb dX5_isObject_0 rfl (lv_at hl 0 rfl) ?_
  refine q_pi (va_runS (As := [.int (a)]) (rest := []) ⟨hx, hb, hml, hown, hts⟩ (c_X5_isRoom l a) (va_cwS 1 hts gX5_isObject_X5_isRoom rfl rfl rfl (by decide +kernel) ⟨Nat.le_of_ble_eq_true rfl, Nat.le_of_ble_eq_true rfl⟩) p_preS rfl rfl hl.1 rfl (lv_room (Nat.le_of_ble_eq_true rfl)) dX5_isObject_1 ⟨Nat.le_refl _, Nat.le_refl _⟩) hS (fun H locs hS => ?_)
  refine lv_if_eq (tgt := 20) hx hb dX5_isObject_4 (by decide) (fun c4_0 => ?_) (fun c4_0 => ?_)
  · replace c4_0 := bI_0.mp c4_0
    refine lv_iconst (v := nI 0) hx hb dX5_isObject_20 (by decide) ?_
    rw [hQ]
    exact p_iret hx hb hr (by decide) hlocks hS (by (simp [bI, nI_0, nI_one, *] <;> simp [okN, *])) dX5_isObject_21
  · replace c4_0 := bI_1.mp c4_0
    refine lv_iload_n hx hb dX5_isObject_7 rfl (lv_at hl 1 rfl) ?_
    refine lv_if_lt (tgt := 20) hx hb dX5_isObject_8 (by decide) (fun c8_1 => ?_) (fun c8_1 => ?_)
    · refine lv_iconst (v := nI 0) hx hb dX5_isObject_20 (by decide) ?_
      rw [hQ]
      exact p_iret hx hb hr (by decide) hlocks hS (by (simp [bI, nI_0, nI_one, *] <;> simp [okN, *])) dX5_isObject_21
    · refine lv_iload_n hx hb dX5_isObject_11 rfl (lv_at hl 1 rfl) ?_
      refine lv_iconst (v := nI 4) hx hb dX5_isObject_12 (by decide) ?_
      refine lv_icmp_ge (tgt := 20) hx hb dX5_isObject_13 (by decide) (fun c13_2 => ?_) (fun c13_2 => ?_)
      · refine lv_iconst (v := nI 0) hx hb dX5_isObject_20 (by decide) ?_
        rw [hQ]
        exact p_iret hx hb hr (by decide) hlocks hS (by (simp [bI, nI_0, nI_one, *] <;> simp [okN, *])) dX5_isObject_21
      · refine lv_iconst (v := nI 1) hx hb dX5_isObject_16 (by decide) ?_
        refine lv_goto (tgt := 21) hx hb dX5_isObject_17 (by decide) ?_
        rw [hQ]
        exact p_iret hx hb hr (by decide) hlocks hS (by (simp [bI, nI_0, nI_one, *] <;> simp [okN, *])) dX5_isObject_21

set_option maxHeartbeats 4000000 in
set_option maxRecDepth 100000 in
theorem c_X5_objectAt (l : Launch) (a b : Nat) : Met l yX5_objectAt wsX5_objectAt ({ frames := 0, cells := 0, slots := 0, locals := 0 } : Room) (pPre [.int (nI (a)), .int (nI (b))]) (pQi (nI (a * 4 + b))) 0 0 (fun _ => False) := by
  refine p_entry (C := RX5) (cc := cX5_objectAt) (maxL := 2) (ret := (some .int)) rfl (by decide) rfl (Nat.le_of_ble_eq_true rfl) (fun p e s m args below meth c Q ls hQ hx hb hr hts hown hlocks hml hl => ?_)
  have hl : lv_has ls 2 [(0, .int (nI (a))), (1, .int (nI (b)))] := hl
  have hS := va_S.rf (A := fun _ => False) (H0 := s.heap)
  refine lv_iload_n hx hb dX5_objectAt_0 rfl (lv_at hl 0 rfl) ?_
  refine lv_iconst (v := nI 4) hx hb dX5_objectAt_1 (by decide) ?_
  refine lv_imul hx hb dX5_objectAt_2 (r_top (pk_mul _ _) ?_)
  refine lv_iload_n hx hb dX5_objectAt_3 rfl (lv_at hl 1 rfl) ?_
  refine lv_iadd hx hb dX5_objectAt_4 (r_top (nI_add _ _) ?_)
  rw [hQ]
  exact p_iret hx hb hr rfl hlocks hS (by rfl) dX5_objectAt_5

set_option maxHeartbeats 4000000 in
set_option maxRecDepth 100000 in
theorem c_X5_placeOf (l : Launch) (a b : Nat) : Met l yX5_placeOf wsX5_placeOf ({ frames := 0, cells := 0, slots := 0, locals := 0 } : Room) (pPre [.int (nI (a)), .int (nI (b))]) (pQi (nI (a * 31 + b))) 0 0 (fun _ => False) := by
  refine p_entry (C := RX5) (cc := cX5_placeOf) (maxL := 2) (ret := (some .int)) rfl (by decide) rfl (Nat.le_of_ble_eq_true rfl) (fun p e s m args below meth c Q ls hQ hx hb hr hts hown hlocks hml hl => ?_)
  have hl : lv_has ls 2 [(0, .int (nI (a))), (1, .int (nI (b)))] := hl
  have hS := va_S.rf (A := fun _ => False) (H0 := s.heap)
  refine lv_iload_n hx hb dX5_placeOf_0 rfl (lv_at hl 0 rfl) ?_
  refine lv_bipush (v := nI 31) hx hb dX5_placeOf_1 (by decide) ?_
  refine lv_imul hx hb dX5_placeOf_3 (r_top (pk_mul _ _) ?_)
  refine lv_iload_n hx hb dX5_placeOf_4 rfl (lv_at hl 1 rfl) ?_
  refine lv_iadd hx hb dX5_placeOf_5 (r_top (nI_add _ _) ?_)
  rw [hQ]
  exact p_iret hx hb hr rfl hlocks hS (by rfl) dX5_placeOf_6

set_option maxHeartbeats 4000000 in
set_option maxRecDepth 100000 in
theorem c_X5_pairOf (l : Launch) (a b : Nat) : Met l yX5_pairOf wsX5_pairOf ({ frames := 0, cells := 0, slots := 0, locals := 0 } : Room) (pPre [.int (nI (a)), .int (nI (b))]) (pQi (nI (a * 4 + b))) 0 0 (fun _ => False) := by
  refine p_entry (C := RX5) (cc := cX5_pairOf) (maxL := 2) (ret := (some .int)) rfl (by decide) rfl (Nat.le_of_ble_eq_true rfl) (fun p e s m args below meth c Q ls hQ hx hb hr hts hown hlocks hml hl => ?_)
  have hl : lv_has ls 2 [(0, .int (nI (a))), (1, .int (nI (b)))] := hl
  have hS := va_S.rf (A := fun _ => False) (H0 := s.heap)
  refine lv_iload_n hx hb dX5_pairOf_0 rfl (lv_at hl 0 rfl) ?_
  refine lv_iconst (v := nI 4) hx hb dX5_pairOf_1 (by decide) ?_
  refine lv_imul hx hb dX5_pairOf_2 (r_top (pk_mul _ _) ?_)
  refine lv_iload_n hx hb dX5_pairOf_3 rfl (lv_at hl 1 rfl) ?_
  refine lv_iadd hx hb dX5_pairOf_4 (r_top (nI_add _ _) ?_)
  rw [hQ]
  exact p_iret hx hb hr rfl hlocks hS (by rfl) dX5_pairOf_5

set_option maxHeartbeats 4000000 in
set_option maxRecDepth 100000 in
theorem c_X5_nextDrawn (l : Launch) (z : Int32) : Met l yX5_nextDrawn wsX5_nextDrawn ({ frames := 0, cells := 0, slots := 0, locals := 0 } : Room) (pPre [.int (z)]) (pQi (z * 1103515245 + 12345)) 0 0 (fun _ => False) := by
  refine p_entry (C := RX5) (cc := cX5_nextDrawn) (maxL := 1) (ret := (some .int)) rfl (by decide) rfl (Nat.le_of_ble_eq_true rfl) (fun p e s m args below meth c Q ls hQ hx hb hr hts hown hlocks hml hl => ?_)
  have hl : lv_has ls 1 [(0, .int (z))] := hl
  have hS := va_S.rf (A := fun _ => False) (H0 := s.heap)
  refine lv_iload_n hx hb dX5_nextDrawn_0 rfl (lv_at hl 0 rfl) ?_
  refine lv_ldcw (v := (1103515245)) hx hb hown (hts (.constant RX5 324 (1103515245)) (by decide +kernel)) dX5_nextDrawn_1 ?_
  refine lv_imul hx hb dX5_nextDrawn_4 (lv_topi (fun x1 ex1 => ?_))
  refine lv_sipush (v := nI 12345) hx hb dX5_nextDrawn_5 (by decide) ?_
  refine lv_iadd hx hb dX5_nextDrawn_8 (lv_topi (fun x2 ex2 => ?_))
  rw [hQ]
  exact p_iret hx hb hr rfl hlocks hS (by subst ex2 ex1; rfl) dX5_nextDrawn_9

set_option maxHeartbeats 4000000 in
set_option maxRecDepth 100000 in
theorem c_X4_empty (l : Launch) (D : va_G) (G : Nat → ClassId) (ad : Nat → Nat → Nat) (hI : wI LC ad) (I : St) (ia : Nat) (hia : ia < 59) : Met l yX4_empty wsX4_empty ({ frames := 0, cells := 0, slots := 0, locals := 0 } : Room) (gPre D G LC ad [.ref (ad 4 (ia))] (wC G ad I)) (gQv D LC ad (wC G ad) (fun u => u = clr I ia)) 0 0 (wA LC ad) := by
  refine g_entry (C := RX4) (cc := cX4_empty) (maxL := 2) (ret := none) rfl (by decide) rfl (Nat.le_of_ble_eq_true rfl) (fun p e s m args below meth c Q ls hQ hx hb hr hts hown hlocks hml hW hK hl => ?_)
  have hl : lv_has ls 2 [(0, .ref (ad 4 (ia)))] := hl
  have hS := va_S.rf (A := wA LC ad) (H0 := s.heap)
  have hinX4 : ∀ w ∈ wsX40, w ∈ wsX4_empty := by decide +kernel
  have hf9 := hts (.fieldLink RX4 9 "JoinedStores$Store" "heard" "[I") (by decide +kernel)
  have hf15 := hts (.fieldLink RX4 15 "JoinedStores$Store" "alive" "[I") (by decide +kernel)
  refine lv_iconst (v := nI 0) hx hb dX4_empty_0 (by decide) ?_
  refine lv_istore_n (lv' := [(1, .int (nI (0))), (0, .ref (ad 4 (ia)))]) hx hb dX4_empty_1 rfl hl (by decide) rfl (fun ls hl => ?_)
  have K2 : ∀ (n : Nat) (i : Nat), (i ≤ 4) → 4 < i + n → ∀ (H : Heap) (locs : List Loc), va_P D vwCl (wS LC ad (wC G ad (clrP I ia i))) H → va_S (wA LC ad) s.heap H locs → ∀ (ls : Array Slot), lv_has ls 2 [(1, .int (nI (i))), (0, .ref (ad 4 (ia)))] → W p l e ({ frames := 0, cells := 0, slots := 0, locals := 0 } : Room) s m args below meth c H locs 0 0 Q (F0 m 2 ls []) := by
    intro n2
    induction n2 with
    | zero => intro i hi hfu; exact absurd hfu (by omega)
    | succ n2 ih2 =>
      intro i hi hfu H locs hW hS ls hl
      refine lv_iload_n hx hb dX4_empty_2 rfl (lv_at hl 0 rfl) ?_
      refine lv_iconst (v := nI 4) hx hb dX4_empty_3 (by decide) ?_
      refine lv_icmp_ge (tgt := 27) hx hb dX4_empty_4 (by decide) (fun c4_0 => ?_) (fun c4_0 => ?_)
      · replace c4_0 : 4 ≤ i := (nI_leI (show 4 < 2147483648 by omega) (show i < 2147483648 by omega)).mp c4_0
        rw [hQ]
        exact g_vret (wd := wC G ad) hx hb hr hlocks hW hS (by have e4 : i = 4 := (by omega); subst e4; rfl) dX4_empty_27
      · replace c4_0 : ¬ (4 ≤ i) := fun h => c4_0 ((nI_leI (show 4 < 2147483648 by omega) (show i < 2147483648 by omega)).mpr h)
        refine lv_aload_n hx hb dX4_empty_7 rfl (lv_at hl 1 rfl) ?_
        refine r_get hx hb hts hown hK hW 4 (ia) 0 (mC (by decide) (show ia < 59 by omega)) rfl rfl hinX4 (by decide) hf9 rfl rfl dX4_empty_8 ?_
        refine lv_iload_n hx hb dX4_empty_11 rfl (lv_at hl 0 rfl) ?_
        refine lv_iconst (v := nI 0) hx hb dX4_empty_12 (by decide) ?_
        refine rC_iast hx hb hK hI hW hS 10 (ia) (i) (by decide) (by decide) (show ia < 59 by omega) (show i < 4 by omega) rfl dX4_empty_13 (fun I2 H locs eI2 hW hS => ?_)
        refine lv_aload_n hx hb dX4_empty_14 rfl (lv_at hl 1 rfl) ?_
        refine r_get hx hb hts hown hK hW 4 (ia) 1 (mC (by decide) (show ia < 59 by omega)) rfl rfl hinX4 (by decide) hf15 rfl rfl dX4_empty_15 ?_
        refine lv_iload_n hx hb dX4_empty_18 rfl (lv_at hl 0 rfl) ?_
        refine lv_iconst (v := nI 0) hx hb dX4_empty_19 (by decide) ?_
        refine rC_iast hx hb hK hI hW hS 11 (ia) (i) (by decide) (by decide) (show ia < 59 by omega) (show i < 4 by omega) rfl dX4_empty_20 (fun I3 H locs eI3 hW hS => ?_)
        refine lv_iinc (v := nI (i + 1)) (lv' := [(1, .int (nI (i + 1))), (0, .ref (ad 4 (ia)))]) hx hb dX4_empty_21 hl (k := 0) rfl (nI_inc i 1) (by decide) rfl (fun ls hl => ?_)
        refine lv_goto (tgt := 2) hx hb dX4_empty_24 (by decide) ?_
        have e9 : I3 = clrP I ia (i + 1) := by
          subst eI3 eI2
          exact clrP_s _ _ _
        have hW9 := hW
        rw [e9] at hW9
        exact ih2 (i + 1) (by omega) (by omega) _ _ hW9 hS _ (lv_sub hl [0, 1] rfl)
  have e9 : I = clrP I ia 0 := by
    exact (clrP_0 _ _).symm
  have hW9 := hW
  rw [e9] at hW9
  exact K2 (4 + 1) (0) (by omega) (by omega) _ _ hW9 hS _ (lv_sub hl [0, 1] rfl)

set_option maxHeartbeats 4000000 in
set_option maxRecDepth 100000 in
theorem c_X4_become (l : Launch) (D : va_G) (G : Nat → ClassId) (ad : Nat → Nat → Nat) (hI : wI LC ad) (I : St) (ia ib : Nat) (hia : ia < 59) (hib : ib < 59) : Met l yX4_become wsX4_become ({ frames := 0, cells := 0, slots := 0, locals := 0 } : Room) (gPre D G LC ad [.ref (ad 4 (ia)), .ref (ad 4 (ib))] (wC G ad I)) (gQv D LC ad (wC G ad) (fun u => u = cpy I ia ib)) 0 0 (wA LC ad) := by
  refine g_entry (C := RX4) (cc := cX4_become) (maxL := 3) (ret := none) rfl (by decide) rfl (Nat.le_of_ble_eq_true rfl) (fun p e s m args below meth c Q ls hQ hx hb hr hts hown hlocks hml hW hK hl => ?_)
  have hl : lv_has ls 3 [(0, .ref (ad 4 (ia))), (1, .ref (ad 4 (ib)))] := hl
  have hS := va_S.rf (A := wA LC ad) (H0 := s.heap)
  have hinX4 : ∀ w ∈ wsX40, w ∈ wsX4_become := by decide +kernel
  have hf9 := hts (.fieldLink RX4 9 "JoinedStores$Store" "heard" "[I") (by decide +kernel)
  have hf15 := hts (.fieldLink RX4 15 "JoinedStores$Store" "alive" "[I") (by decide +kernel)
  refine lv_iconst (v := nI 0) hx hb dX4_become_0 (by decide) ?_
  refine lv_istore_n (lv' := [(2, .int (nI (0))), (0, .ref (ad 4 (ia))), (1, .ref (ad 4 (ib)))]) hx hb dX4_become_1 rfl hl (by decide) rfl (fun ls hl => ?_)
  have K2 : ∀ (n : Nat) (i : Nat), (i ≤ 4) → 4 < i + n → ∀ (H : Heap) (locs : List Loc), va_P D vwCl (wS LC ad (wC G ad (cpyP I ia ib i))) H → va_S (wA LC ad) s.heap H locs → ∀ (ls : Array Slot), lv_has ls 3 [(2, .int (nI (i))), (0, .ref (ad 4 (ia))), (1, .ref (ad 4 (ib)))] → W p l e ({ frames := 0, cells := 0, slots := 0, locals := 0 } : Room) s m args below meth c H locs 0 0 Q (F0 m 2 ls []) := by
    intro n2
    induction n2 with
    | zero => intro i hi hfu; exact absurd hfu (by omega)
    | succ n2 ih2 =>
      intro i hi hfu H locs hW hS ls hl
      refine lv_iload_n hx hb dX4_become_2 rfl (lv_at hl 0 rfl) ?_
      refine lv_iconst (v := nI 4) hx hb dX4_become_3 (by decide) ?_
      refine lv_icmp_ge (tgt := 37) hx hb dX4_become_4 (by decide) (fun c4_0 => ?_) (fun c4_0 => ?_)
      · replace c4_0 : 4 ≤ i := (nI_leI (show 4 < 2147483648 by omega) (show i < 2147483648 by omega)).mp c4_0
        rw [hQ]
        exact g_vret (wd := wC G ad) hx hb hr hlocks hW hS (by have e4 : i = 4 := (by omega); subst e4; rfl) dX4_become_37
      · replace c4_0 : ¬ (4 ≤ i) := fun h => c4_0 ((nI_leI (show 4 < 2147483648 by omega) (show i < 2147483648 by omega)).mpr h)
        refine lv_aload_n hx hb dX4_become_7 rfl (lv_at hl 1 rfl) ?_
        refine r_get hx hb hts hown hK hW 4 (ia) 0 (mC (by decide) (show ia < 59 by omega)) rfl rfl hinX4 (by decide) hf9 rfl rfl dX4_become_8 ?_
        refine lv_iload_n hx hb dX4_become_11 rfl (lv_at hl 0 rfl) ?_
        refine lv_aload_n hx hb dX4_become_12 rfl (lv_at hl 2 rfl) ?_
        refine r_get hx hb hts hown hK hW 4 (ib) 0 (mC (by decide) (show ib < 59 by omega)) rfl rfl hinX4 (by decide) hf9 rfl rfl dX4_become_13 ?_
        refine lv_iload_n hx hb dX4_become_16 rfl (lv_at hl 0 rfl) ?_
        refine rC_iald hx hb hK hW 10 (ib) (i) (by decide) (by decide) (show ib < 59 by omega) (show i < 4 by omega) rfl dX4_become_17 (fun x2 ex2 => ?_)
        refine rC_iast hx hb hK hI hW hS 10 (ia) (i) (by decide) (by decide) (show ia < 59 by omega) (show i < 4 by omega) rfl dX4_become_18 (fun I3 H locs eI3 hW hS => ?_)
        refine lv_aload_n hx hb dX4_become_19 rfl (lv_at hl 1 rfl) ?_
        refine r_get hx hb hts hown hK hW 4 (ia) 1 (mC (by decide) (show ia < 59 by omega)) rfl rfl hinX4 (by decide) hf15 rfl rfl dX4_become_20 ?_
        refine lv_iload_n hx hb dX4_become_23 rfl (lv_at hl 0 rfl) ?_
        refine lv_aload_n hx hb dX4_become_24 rfl (lv_at hl 2 rfl) ?_
        refine r_get hx hb hts hown hK hW 4 (ib) 1 (mC (by decide) (show ib < 59 by omega)) rfl rfl hinX4 (by decide) hf15 rfl rfl dX4_become_25 ?_
        refine lv_iload_n hx hb dX4_become_28 rfl (lv_at hl 0 rfl) ?_
        refine rC_iald hx hb hK hW 11 (ib) (i) (by decide) (by decide) (show ib < 59 by omega) (show i < 4 by omega) rfl dX4_become_29 (fun x4 ex4 => ?_)
        refine rC_iast hx hb hK hI hW hS 11 (ia) (i) (by decide) (by decide) (show ia < 59 by omega) (show i < 4 by omega) rfl dX4_become_30 (fun I5 H locs eI5 hW hS => ?_)
        refine lv_iinc (v := nI (i + 1)) (lv' := [(2, .int (nI (i + 1))), (0, .ref (ad 4 (ia))), (1, .ref (ad 4 (ib)))]) hx hb dX4_become_31 hl (k := 0) rfl (nI_inc i 1) (by decide) rfl (fun ls hl => ?_)
        refine lv_goto (tgt := 2) hx hb dX4_become_34 (by decide) ?_
        have e9 : I5 = cpyP I ia ib (i + 1) := by
          subst eI5 ex4 eI3 ex2
          exact cpyP_s _ _ _ _
        have hW9 := hW
        rw [e9] at hW9
        exact ih2 (i + 1) (by omega) (by omega) _ _ hW9 hS _ (lv_sub hl [0, 1, 2] rfl)
  have e9 : I = cpyP I ia ib 0 := by
    exact (cpyP_0 _ _ _).symm
  have hW9 := hW
  rw [e9] at hW9
  exact K2 (4 + 1) (0) (by omega) (by omega) _ _ hW9 hS _ (lv_sub hl [0, 1, 2] rfl)

set_option maxHeartbeats 4000000 in
set_option maxRecDepth 100000 in
theorem c_X4_hear (l : Launch) (D : va_G) (G : Nat → ClassId) (ad : Nat → Nat → Nat) (hI : wI LC ad) (I : St) (ia r k : Nat) (hia : ia < 59) (hr4 : r < 4) : Met l yX4_hear wsX4_hear ({ frames := 0, cells := 0, slots := 0, locals := 0 } : Room) (gPre D G LC ad [.ref (ad 4 (ia)), .int (nI (r)), .int (nI (k))] (wC G ad I)) (gQv D LC ad (wC G ad) (fun u => u = up3 I 10 ia r (I 10 ia r ||| b1 k))) 0 0 (wA LC ad) := by
  refine g_entry (C := RX4) (cc := cX4_hear) (maxL := 3) (ret := none) rfl (by decide) rfl (Nat.le_of_ble_eq_true rfl) (fun p e s m args below meth c Q ls hQ hx hb hr hts hown hlocks hml hW hK hl => ?_)
  have hl : lv_has ls 3 [(0, .ref (ad 4 (ia))), (1, .int (nI (r))), (2, .int (nI (k)))] := hl
  have hS := va_S.rf (A := wA LC ad) (H0 := s.heap)
  have hinX4 : ∀ w ∈ wsX40, w ∈ wsX4_hear := by decide +kernel
  have hf9 := hts (.fieldLink RX4 9 "JoinedStores$Store" "heard" "[I") (by decide +kernel)
  refine lv_aload_n hx hb dX4_hear_0 rfl (lv_at hl 0 rfl) ?_
  refine r_get hx hb hts hown hK hW 4 (ia) 0 (mC (by decide) (show ia < 59 by omega)) rfl rfl hinX4 (by decide) hf9 rfl rfl dX4_hear_1 ?_
  refine lv_iload_n hx hb dX4_hear_4 rfl (lv_at hl 1 rfl) ?_
  refine lv_dup2_11 hx hb dX4_hear_5 rfl rfl ?_
  refine rC_iald hx hb hK hW 10 (ia) (r) (by decide) (by decide) (show ia < 59 by omega) (show r < 4 by omega) rfl dX4_hear_6 (fun x1 ex1 => ?_)
  refine lv_iconst (v := nI 1) hx hb dX4_hear_7 (by decide) ?_
  refine lv_iload_n hx hb dX4_hear_8 rfl (lv_at hl 2 rfl) ?_
  refine lv_ishl hx hb dX4_hear_9 (lv_topi (fun x2 ex2 => ?_))
  replace ex2 : x2 = b1 k := ex2
  refine lv_ior hx hb dX4_hear_10 (lv_topi (fun x3 ex3 => ?_))
  refine rC_iast hx hb hK hI hW hS 10 (ia) (r) (by decide) (by decide) (show ia < 59 by omega) (show r < 4 by omega) rfl dX4_hear_11 (fun I4 H locs eI4 hW hS => ?_)
  rw [hQ]
  exact g_vret (wd := wC G ad) hx hb hr hlocks hW hS (by subst eI4 ex3 ex2 ex1; rfl) dX4_hear_12

set_option maxHeartbeats 4000000 in
set_option maxRecDepth 100000 in
theorem c_X4_enliven (l : Launch) (D : va_G) (G : Nat → ClassId) (ad : Nat → Nat → Nat) (hI : wI LC ad) (I : St) (ia r k : Nat) (hia : ia < 59) (hr4 : r < 4) : Met l yX4_enliven wsX4_enliven ({ frames := 0, cells := 0, slots := 0, locals := 0 } : Room) (gPre D G LC ad [.ref (ad 4 (ia)), .int (nI (r)), .int (nI (k))] (wC G ad I)) (gQv D LC ad (wC G ad) (fun u => u = up3 I 11 ia r (I 11 ia r ||| b1 k))) 0 0 (wA LC ad) := by
  refine g_entry (C := RX4) (cc := cX4_enliven) (maxL := 3) (ret := none) rfl (by decide) rfl (Nat.le_of_ble_eq_true rfl) (fun p e s m args below meth c Q ls hQ hx hb hr hts hown hlocks hml hW hK hl => ?_)
  have hl : lv_has ls 3 [(0, .ref (ad 4 (ia))), (1, .int (nI (r))), (2, .int (nI (k)))] := hl
  have hS := va_S.rf (A := wA LC ad) (H0 := s.heap)
  have hinX4 : ∀ w ∈ wsX40, w ∈ wsX4_enliven := by decide +kernel
  have hf15 := hts (.fieldLink RX4 15 "JoinedStores$Store" "alive" "[I") (by decide +kernel)
  refine lv_aload_n hx hb dX4_enliven_0 rfl (lv_at hl 0 rfl) ?_
  refine r_get hx hb hts hown hK hW 4 (ia) 1 (mC (by decide) (show ia < 59 by omega)) rfl rfl hinX4 (by decide) hf15 rfl rfl dX4_enliven_1 ?_
  refine lv_iload_n hx hb dX4_enliven_4 rfl (lv_at hl 1 rfl) ?_
  refine lv_dup2_11 hx hb dX4_enliven_5 rfl rfl ?_
  refine rC_iald hx hb hK hW 11 (ia) (r) (by decide) (by decide) (show ia < 59 by omega) (show r < 4 by omega) rfl dX4_enliven_6 (fun x1 ex1 => ?_)
  refine lv_iconst (v := nI 1) hx hb dX4_enliven_7 (by decide) ?_
  refine lv_iload_n hx hb dX4_enliven_8 rfl (lv_at hl 2 rfl) ?_
  refine lv_ishl hx hb dX4_enliven_9 (lv_topi (fun x2 ex2 => ?_))
  replace ex2 : x2 = b1 k := ex2
  refine lv_ior hx hb dX4_enliven_10 (lv_topi (fun x3 ex3 => ?_))
  refine rC_iast hx hb hK hI hW hS 11 (ia) (r) (by decide) (by decide) (show ia < 59 by omega) (show r < 4 by omega) rfl dX4_enliven_11 (fun I4 H locs eI4 hW hS => ?_)
  rw [hQ]
  exact g_vret (wd := wC G ad) hx hb hr hlocks hW hS (by subst eI4 ex3 ex2 ex1; rfl) dX4_enliven_12

set_option maxHeartbeats 4000000 in
set_option maxRecDepth 100000 in
theorem c_X4_join (l : Launch) (D : va_G) (G : Nat → ClassId) (ad : Nat → Nat → Nat) (hI : wI LC ad) (I : St) (ia ib : Nat) (hia : ia < 59) (hib : ib < 59) : Met l yX4_join wsX4_join ({ frames := 0, cells := 0, slots := 0, locals := 0 } : Room) (gPre D G LC ad [.ref (ad 4 (ia)), .ref (ad 4 (ib))] (wC G ad I)) (gQv D LC ad (wC G ad) (fun u => u = jn I ia ib)) 0 0 (wA LC ad) := by
  refine g_entry (C := RX4) (cc := cX4_join) (maxL := 6) (ret := none) rfl (by decide) rfl (Nat.le_of_ble_eq_true rfl) (fun p e s m args below meth c Q ls hQ hx hb hr hts hown hlocks hml hW hK hl => ?_)
  have hl : lv_has ls 6 [(0, .ref (ad 4 (ia))), (1, .ref (ad 4 (ib)))] := hl
  have hS := va_S.rf (A := wA LC ad) (H0 := s.heap)
  have hinX4 : ∀ w ∈ wsX40, w ∈ wsX4_join := by decide +kernel
  have hf9 := hts (.fieldLink RX4 9 "JoinedStores$Store" "heard" "[I") (by decide +kernel)
  have hf15 := hts (.fieldLink RX4 15 "JoinedStores$Store" "alive" "[I") (by decide +kernel)
  refine lv_iconst (v := nI 0) hx hb dX4_join_0 (by decide) ?_
  refine lv_istore_n (lv' := [(2, .int (nI (0))), (0, .ref (ad 4 (ia))), (1, .ref (ad 4 (ib)))]) hx hb dX4_join_1 rfl hl (by decide) rfl (fun ls hl => ?_)
  have K2 : ∀ (n : Nat) (i : Nat), (i ≤ 4) → 4 < i + n → ∀ (H : Heap) (locs : List Loc), va_P D vwCl (wS LC ad (wC G ad (jnP I ia ib i))) H → va_S (wA LC ad) s.heap H locs → ∀ (ls : Array Slot), lv_has ls 6 [(2, .int (nI (i))), (0, .ref (ad 4 (ia))), (1, .ref (ad 4 (ib)))] → W p l e ({ frames := 0, cells := 0, slots := 0, locals := 0 } : Room) s m args below meth c H locs 0 0 Q (F0 m 2 ls []) := by
    intro n2
    induction n2 with
    | zero => intro i hi hfu; exact absurd hfu (by omega)
    | succ n2 ih2 =>
      intro i hi hfu H locs hW hS ls hl
      refine lv_iload_n hx hb dX4_join_2 rfl (lv_at hl 0 rfl) ?_
      refine lv_iconst (v := nI 4) hx hb dX4_join_3 (by decide) ?_
      refine lv_icmp_ge (tgt := 89) hx hb dX4_join_4 (by decide) (fun c4_0 => ?_) (fun c4_0 => ?_)
      · replace c4_0 : 4 ≤ i := (nI_leI (show 4 < 2147483648 by omega) (show i < 2147483648 by omega)).mp c4_0
        rw [hQ]
        exact g_vret (wd := wC G ad) hx hb hr hlocks hW hS (by have e4 : i = 4 := (by omega); subst e4; rfl) dX4_join_89
      · replace c4_0 : ¬ (4 ≤ i) := fun h => c4_0 ((nI_leI (show 4 < 2147483648 by omega) (show i < 2147483648 by omega)).mpr h)
        refine lv_aload_n hx hb dX4_join_7 rfl (lv_at hl 1 rfl) ?_
        refine r_get hx hb hts hown hK hW 4 (ia) 1 (mC (by decide) (show ia < 59 by omega)) rfl rfl hinX4 (by decide) hf15 rfl rfl dX4_join_8 ?_
        refine lv_iload_n hx hb dX4_join_11 rfl (lv_at hl 0 rfl) ?_
        refine rC_iald hx hb hK hW 11 (ia) (i) (by decide) (by decide) (show ia < 59 by omega) (show i < 4 by omega) rfl dX4_join_12 (fun x2 ex2 => ?_)
        refine lv_aload_n hx hb dX4_join_13 rfl (lv_at hl 2 rfl) ?_
        refine r_get hx hb hts hown hK hW 4 (ib) 1 (mC (by decide) (show ib < 59 by omega)) rfl rfl hinX4 (by decide) hf15 rfl rfl dX4_join_14 ?_
        refine lv_iload_n hx hb dX4_join_17 rfl (lv_at hl 0 rfl) ?_
        refine rC_iald hx hb hK hW 11 (ib) (i) (by decide) (by decide) (show ib < 59 by omega) (show i < 4 by omega) rfl dX4_join_18 (fun x3 ex3 => ?_)
        refine lv_iand hx hb dX4_join_19 (lv_topi (fun x4 ex4 => ?_))
        refine lv_istore_n (lv' := [(3, .int (x4)), (2, .int (nI (i))), (0, .ref (ad 4 (ia))), (1, .ref (ad 4 (ib)))]) hx hb dX4_join_20 rfl hl (by decide) rfl (fun ls hl => ?_)
        refine lv_aload_n hx hb dX4_join_21 rfl (lv_at hl 2 rfl) ?_
        refine r_get hx hb hts hown hK hW 4 (ia) 1 (mC (by decide) (show ia < 59 by omega)) rfl rfl hinX4 (by decide) hf15 rfl rfl dX4_join_22 ?_
        refine lv_iload_n hx hb dX4_join_25 rfl (lv_at hl 1 rfl) ?_
        refine rC_iald hx hb hK hW 11 (ia) (i) (by decide) (by decide) (show ia < 59 by omega) (show i < 4 by omega) rfl dX4_join_26 (fun x5 ex5 => ?_)
        refine lv_aload_n hx hb dX4_join_27 rfl (lv_at hl 3 rfl) ?_
        refine r_get hx hb hts hown hK hW 4 (ib) 0 (mC (by decide) (show ib < 59 by omega)) rfl rfl hinX4 (by decide) hf9 rfl rfl dX4_join_28 ?_
        refine lv_iload_n hx hb dX4_join_31 rfl (lv_at hl 1 rfl) ?_
        refine rC_iald hx hb hK hW 10 (ib) (i) (by decide) (by decide) (show ib < 59 by omega) (show i < 4 by omega) rfl dX4_join_32 (fun x6 ex6 => ?_)
        refine lv_iconst (v := (-1)) hx hb dX4_join_33 (by decide) ?_
        refine lv_ixor hx hb dX4_join_34 (lv_topi (fun x7 ex7 => ?_))
        refine lv_iand hx hb dX4_join_35 (lv_topi (fun x8 ex8 => ?_))
        refine lv_istore (lv' := [(4, .int (x8)), (3, .int (x4)), (2, .int (nI (i))), (0, .ref (ad 4 (ia))), (1, .ref (ad 4 (ib)))]) hx hb dX4_join_36 hl (by decide) rfl (fun ls hl => ?_)
        refine lv_aload_n hx hb dX4_join_38 rfl (lv_at hl 4 rfl) ?_
        refine r_get hx hb hts hown hK hW 4 (ib) 1 (mC (by decide) (show ib < 59 by omega)) rfl rfl hinX4 (by decide) hf15 rfl rfl dX4_join_39 ?_
        refine lv_iload_n hx hb dX4_join_42 rfl (lv_at hl 2 rfl) ?_
        refine rC_iald hx hb hK hW 11 (ib) (i) (by decide) (by decide) (show ib < 59 by omega) (show i < 4 by omega) rfl dX4_join_43 (fun x9 ex9 => ?_)
        refine lv_aload_n hx hb dX4_join_44 rfl (lv_at hl 3 rfl) ?_
        refine r_get hx hb hts hown hK hW 4 (ia) 0 (mC (by decide) (show ia < 59 by omega)) rfl rfl hinX4 (by decide) hf9 rfl rfl dX4_join_45 ?_
        refine lv_iload_n hx hb dX4_join_48 rfl (lv_at hl 2 rfl) ?_
        refine rC_iald hx hb hK hW 10 (ia) (i) (by decide) (by decide) (show ia < 59 by omega) (show i < 4 by omega) rfl dX4_join_49 (fun x10 ex10 => ?_)
        refine lv_iconst (v := (-1)) hx hb dX4_join_50 (by decide) ?_
        refine lv_ixor hx hb dX4_join_51 (lv_topi (fun x11 ex11 => ?_))
        refine lv_iand hx hb dX4_join_52 (lv_topi (fun x12 ex12 => ?_))
        refine lv_istore (lv' := [(5, .int (x12)), (4, .int (x8)), (3, .int (x4)), (2, .int (nI (i))), (0, .ref (ad 4 (ia))), (1, .ref (ad 4 (ib)))]) hx hb dX4_join_53 hl (by decide) rfl (fun ls hl => ?_)
        refine lv_aload_n hx hb dX4_join_55 rfl (lv_at hl 4 rfl) ?_
        refine r_get hx hb hts hown hK hW 4 (ia) 1 (mC (by decide) (show ia < 59 by omega)) rfl rfl hinX4 (by decide) hf15 rfl rfl dX4_join_56 ?_
        refine lv_iload_n hx hb dX4_join_59 rfl (lv_at hl 3 rfl) ?_
        refine lv_iload_n hx hb dX4_join_60 rfl (lv_at hl 2 rfl) ?_
        refine lv_iload hx hb dX4_join_61 (lv_at hl 1 rfl) ?_
        refine lv_ior hx hb dX4_join_63 (lv_topi (fun x13 ex13 => ?_))
        refine lv_iload hx hb dX4_join_64 (lv_at hl 0 rfl) ?_
        refine lv_ior hx hb dX4_join_66 (lv_topi (fun x14 ex14 => ?_))
        refine rC_iast hx hb hK hI hW hS 11 (ia) (i) (by decide) (by decide) (show ia < 59 by omega) (show i < 4 by omega) rfl dX4_join_67 (fun I15 H locs eI15 hW hS => ?_)
        refine lv_aload_n hx hb dX4_join_68 rfl (lv_at hl 4 rfl) ?_
        refine r_get hx hb hts hown hK hW 4 (ia) 0 (mC (by decide) (show ia < 59 by omega)) rfl rfl hinX4 (by decide) hf9 rfl rfl dX4_join_69 ?_
        refine lv_iload_n hx hb dX4_join_72 rfl (lv_at hl 3 rfl) ?_
        refine lv_dup2_11 hx hb dX4_join_73 rfl rfl ?_
        refine rC_iald hx hb hK hW 10 (ia) (i) (by decide) (by decide) (show ia < 59 by omega) (show i < 4 by omega) rfl dX4_join_74 (fun x16 ex16 => ?_)
        refine lv_aload_n hx hb dX4_join_75 rfl (lv_at hl 5 rfl) ?_
        refine r_get hx hb hts hown hK hW 4 (ib) 0 (mC (by decide) (show ib < 59 by omega)) rfl rfl hinX4 (by decide) hf9 rfl rfl dX4_join_76 ?_
        refine lv_iload_n hx hb dX4_join_79 rfl (lv_at hl 3 rfl) ?_
        refine rC_iald hx hb hK hW 10 (ib) (i) (by decide) (by decide) (show ib < 59 by omega) (show i < 4 by omega) rfl dX4_join_80 (fun x17 ex17 => ?_)
        refine lv_ior hx hb dX4_join_81 (lv_topi (fun x18 ex18 => ?_))
        refine rC_iast hx hb hK hI hW hS 10 (ia) (i) (by decide) (by decide) (show ia < 59 by omega) (show i < 4 by omega) rfl dX4_join_82 (fun I19 H locs eI19 hW hS => ?_)
        refine lv_iinc (v := nI (i + 1)) (lv' := [(2, .int (nI (i + 1))), (5, .int (x12)), (4, .int (x8)), (3, .int (x4)), (0, .ref (ad 4 (ia))), (1, .ref (ad 4 (ib)))]) hx hb dX4_join_83 hl (k := 3) rfl (nI_inc i 1) (by decide) rfl (fun ls hl => ?_)
        refine lv_goto (tgt := 2) hx hb dX4_join_86 (by decide) ?_
        have e9 : I19 = jnP I ia ib (i + 1) := by
          subst eI19 ex18 ex17 ex16 eI15 ex14 ex13 ex12 ex11 ex10 ex9 ex8 ex7 ex6 ex5 ex4 ex3 ex2
          exact jnP_s _ _ _ _
        have hW9 := hW
        rw [e9] at hW9
        exact ih2 (i + 1) (by omega) (by omega) _ _ hW9 hS _ (lv_sub hl [0, 4, 5] rfl)
  have e9 : I = jnP I ia ib 0 := by
    exact (jnP_0 _ _ _).symm
  have hW9 := hW
  rw [e9] at hW9
  exact K2 (4 + 1) (0) (by omega) (by omega) _ _ hW9 hS _ (lv_sub hl [0, 1, 2] rfl)
