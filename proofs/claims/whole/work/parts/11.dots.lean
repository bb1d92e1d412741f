/-! ===== counts, Dots ===== -/
set_option maxHeartbeats 4000000 in
set_option maxRecDepth 100000 in
theorem c_X4_bitsIn_10 (l : Launch) (D : va_G) (G : Nat → ClassId) (ad : Nat → Nat → Nat) (hI : wI LC ad) (I : St) (ia : Nat) (hia : ia < 59) : Met l yX4_bitsIn wsX4_bitsIn ({ frames := 1, cells := 0, slots := 0, locals := 20 } : Room) (gPre D G LC ad [.ref (ad 10 (ia))] (wC G ad I)) (gQi D LC ad (wC G ad) (fun r u => r = bcs (I 10 ia) 4 ∧ u = I)) 0 0 (wA LC ad) := by
  refine g_entry (C := RX4) (cc := cX4_bitsIn) (maxL := 3) (ret := (some .int)) rfl (by decide) rfl (Nat.le_of_ble_eq_true rfl) (fun p e s m args below meth c Q ls hQ hx hb hr hts hown hlocks hml hW hK hl => ?_)
  have hl : lv_has ls 3 [(0, .ref (ad 10 (ia)))] := hl
  have hS := va_S.rf (A := wA LC ad) (H0 := s.heap)
  refine lv_iconst (v := nI 0) hx hb dX4_bitsIn_0 (by decide) ?_
  refine lv_istore_n (lv' := [(1, .int (nI (0))), (0, .ref (ad 10 (ia)))]) hx hb dX4_bitsIn_1 rfl hl (by decide) rfl (fun ls hl => ?_)
  refine lv_iconst (v := nI 0) hx hb dX4_bitsIn_2 (by decide) ?_
  refine lv_istore_n (lv' := [(2, .int (nI (0))), (1, .int (nI (0))), (0, .ref (ad 10 (ia)))]) hx hb dX4_bitsIn_3 rfl hl (by decide) rfl (fun ls hl => ?_)
  have K4 : ∀ (n : Nat) (i : Nat) (d : Int32), i ≤ 4 → d = bcs (I 10 ia) i → 4 < i + n → ∀ (H : Heap) (locs : List Loc), va_P D vwCl (wS LC ad (wC G ad I)) H → va_S (wA LC ad) s.heap H locs → ∀ (ls : Array Slot), lv_has ls 3 [(2, .int (nI (i))), (1, .int (d)), (0, .ref (ad 10 (ia)))] → W p l e ({ frames := 1, cells := 0, slots := 0, locals := 20 } : Room) s m args below meth c H locs 0 0 Q (F0 m 4 ls []) := by
    intro n4
    induction n4 with
    | zero => intro i d hi hd hfu; exact absurd hfu (by omega)
    | succ n4 ih4 =>
      intro i d hi hd hfu H locs hW hS ls hl
      refine lv_iload_n hx hb dX4_bitsIn_4 rfl (lv_at hl 0 rfl) ?_
      refine lv_iconst (v := nI 4) hx hb dX4_bitsIn_5 (by decide) ?_
      refine lv_icmp_ge (tgt := 24) hx hb dX4_bitsIn_6 (by decide) (fun c6_0 => ?_) (fun c6_0 => ?_)
      · replace c6_0 : 4 ≤ i := (nI_leI (show 4 < 2147483648 by omega) (show i < 2147483648 by omega)).mp c6_0
        refine lv_iload_n hx hb dX4_bitsIn_24 rfl (lv_at hl 1 rfl) ?_
        rw [hQ]
        exact g_iret (wd := wC G ad) hx hb hr rfl hlocks hW hS (by have e4 : i = 4 := (by omega); subst e4; exact ⟨hd, rfl⟩) dX4_bitsIn_25
      · replace c6_0 : ¬ (4 ≤ i) := fun h => c6_0 ((nI_leI (show 4 < 2147483648 by omega) (show i < 2147483648 by omega)).mpr h)
        refine lv_iload_n hx hb dX4_bitsIn_9 rfl (lv_at hl 1 rfl) ?_
        refine lv_aload_n hx hb dX4_bitsIn_10 rfl (lv_at hl 2 rfl) ?_
        refine lv_iload_n hx hb dX4_bitsIn_11 rfl (lv_at hl 0 rfl) ?_
        refine rC_iald hx hb hK hW 10 (ia) (i) (by decide) (by decide) (show ia < 59 by omega) (show i < 4 by omega) rfl dX4_bitsIn_12 (fun x2 ex2 => ?_)
        refine g_pi (va_runS (As := [.int (x2)]) (rest := [.int (d)]) ⟨hx, hb, hml, hown, hts⟩ (c_J6_bitCount_0f7a4 l x2) (va_cwS 1 hts gX4_bitsIn_J6_bitCount_0f7a4 rfl rfl rfl (by decide +kernel) ⟨Nat.le_of_ble_eq_true rfl, Nat.le_of_ble_eq_true rfl⟩) p_preS rfl rfl hl.1 rfl (lv_room (Nat.le_of_ble_eq_true rfl)) dX4_bitsIn_13 ⟨Nat.le_refl _, Nat.le_refl _⟩) hW hS (fun H locs hW hS => ?_)
        refine lv_iadd hx hb dX4_bitsIn_16 (lv_topi (fun x3 ex3 => ?_))
        refine lv_istore_n (lv' := [(1, .int (x3)), (2, .int (nI (i))), (0, .ref (ad 10 (ia)))]) hx hb dX4_bitsIn_17 rfl hl (by decide) rfl (fun ls hl => ?_)
        refine lv_iinc (v := nI (i + 1)) (lv' := [(2, .int (nI (i + 1))), (1, .int (x3)), (0, .ref (ad 10 (ia)))]) hx hb dX4_bitsIn_18 hl (k := 1) rfl (nI_inc i 1) (by decide) rfl (fun ls hl => ?_)
        refine lv_goto (tgt := 4) hx hb dX4_bitsIn_21 (by decide) ?_
        exact ih4 (i + 1) (x3) (by omega) (by subst ex3 ex2; rw [hd]; rfl) (by omega) _ _ hW hS _ (lv_sub hl [0, 1, 2] rfl)
  exact K4 (4 + 1) (0) (nI (0)) (by decide) rfl (by omega) _ _ hW hS _ (lv_sub hl [0, 1, 2] rfl)

set_option maxHeartbeats 4000000 in
set_option maxRecDepth 100000 in
theorem c_X5_otherwise_10 (l : Launch) (D : va_G) (G : Nat → ClassId) (ad : Nat → Nat → Nat) (hI : wI LC ad) (I : St) (ia ib : Nat) (hia : ia < 59) (hib : ib < 59) : Met l yX5_otherwise wsX5_otherwise ({ frames := 1, cells := 0, slots := 0, locals := 20 } : Room) (gPre D G LC ad [.ref (ad 10 (ia)), .ref (ad 10 (ib))] (wC G ad I)) (gQi D LC ad (wC G ad) (fun r u => r = oth (I 10 ia) (I 10 ib) 4 ∧ u = I)) 0 0 (wA LC ad) := by
  refine g_entry (C := RX5) (cc := cX5_otherwise) (maxL := 4) (ret := (some .int)) rfl (by decide) rfl (Nat.le_of_ble_eq_true rfl) (fun p e s m args below meth c Q ls hQ hx hb hr hts hown hlocks hml hW hK hl => ?_)
  have hl : lv_has ls 4 [(0, .ref (ad 10 (ia))), (1, .ref (ad 10 (ib)))] := hl
  have hS := va_S.rf (A := wA LC ad) (H0 := s.heap)
  refine lv_iconst (v := nI 0) hx hb dX5_otherwise_0 (by decide) ?_
  refine lv_istore_n (lv' := [(2, .int (nI (0))), (0, .ref (ad 10 (ia))), (1, .ref (ad 10 (ib)))]) hx hb dX5_otherwise_1 rfl hl (by decide) rfl (fun ls hl => ?_)
  refine lv_iconst (v := nI 0) hx hb dX5_otherwise_2 (by decide) ?_
  refine lv_istore_n (lv' := [(3, .int (nI (0))), (2, .int (nI (0))), (0, .ref (ad 10 (ia))), (1, .ref (ad 10 (ib)))]) hx hb dX5_otherwise_3 rfl hl (by decide) rfl (fun ls hl => ?_)
  have K4 : ∀ (n : Nat) (i : Nat) (d : Int32), i ≤ 4 → d = oth (I 10 ia) (I 10 ib) i → 4 < i + n → ∀ (H : Heap) (locs : List Loc), va_P D vwCl (wS LC ad (wC G ad I)) H → va_S (wA LC ad) s.heap H locs → ∀ (ls : Array Slot), lv_has ls 4 [(3, .int (nI (i))), (2, .int (d)), (0, .ref (ad 10 (ia))), (1, .ref (ad 10 (ib)))] → W p l e ({ frames := 1, cells := 0, slots := 0, locals := 20 } : Room) s m args below meth c H locs 0 0 Q (F0 m 4 ls []) := by
    intro n4
    induction n4 with
    | zero => intro i d hi hd hfu; exact absurd hfu (by omega)
    | succ n4 ih4 =>
      intro i d hi hd hfu H locs hW hS ls hl
      refine lv_iload_n hx hb dX5_otherwise_4 rfl (lv_at hl 0 rfl) ?_
      refine lv_iconst (v := nI 4) hx hb dX5_otherwise_5 (by decide) ?_
      refine lv_icmp_ge (tgt := 28) hx hb dX5_otherwise_6 (by decide) (fun c6_0 => ?_) (fun c6_0 => ?_)
      · replace c6_0 : 4 ≤ i := (nI_leI (show 4 < 2147483648 by omega) (show i < 2147483648 by omega)).mp c6_0
        refine lv_iload_n hx hb dX5_otherwise_28 rfl (lv_at hl 1 rfl) ?_
        rw [hQ]
        exact g_iret (wd := wC G ad) hx hb hr rfl hlocks hW hS (by have e4 : i = 4 := (by omega); subst e4; exact ⟨hd, rfl⟩) dX5_otherwise_29
      · replace c6_0 : ¬ (4 ≤ i) := fun h => c6_0 ((nI_leI (show 4 < 2147483648 by omega) (show i < 2147483648 by omega)).mpr h)
        refine lv_iload_n hx hb dX5_otherwise_9 rfl (lv_at hl 1 rfl) ?_
        refine lv_aload_n hx hb dX5_otherwise_10 rfl (lv_at hl 2 rfl) ?_
        refine lv_iload_n hx hb dX5_otherwise_11 rfl (lv_at hl 0 rfl) ?_
        refine rC_iald hx hb hK hW 10 (ia) (i) (by decide) (by decide) (show ia < 59 by omega) (show i < 4 by omega) rfl dX5_otherwise_12 (fun x2 ex2 => ?_)
        refine lv_aload_n hx hb dX5_otherwise_13 rfl (lv_at hl 3 rfl) ?_
        refine lv_iload_n hx hb dX5_otherwise_14 rfl (lv_at hl 0 rfl) ?_
        refine rC_iald hx hb hK hW 10 (ib) (i) (by decide) (by decide) (show ib < 59 by omega) (show i < 4 by omega) rfl dX5_otherwise_15 (fun x3 ex3 => ?_)
        refine lv_ixor hx hb dX5_otherwise_16 (lv_topi (fun x4 ex4 => ?_))
        refine g_pi (va_runS (As := [.int (x4)]) (rest := [.int (d)]) ⟨hx, hb, hml, hown, hts⟩ (c_J6_bitCount_0f7a4 l x4) (va_cwS 1 hts gX5_otherwise_J6_bitCount_0f7a4 rfl rfl rfl (by decide +kernel) ⟨Nat.le_of_ble_eq_true rfl, Nat.le_of_ble_eq_true rfl⟩) p_preS rfl rfl hl.1 rfl (lv_room (Nat.le_of_ble_eq_true rfl)) dX5_otherwise_17 ⟨Nat.le_refl _, Nat.le_refl _⟩) hW hS (fun H locs hW hS => ?_)
        refine lv_iadd hx hb dX5_otherwise_20 (lv_topi (fun x5 ex5 => ?_))
        refine lv_istore_n (lv' := [(2, .int (x5)), (3, .int (nI (i))), (0, .ref (ad 10 (ia))), (1, .ref (ad 10 (ib)))]) hx hb dX5_otherwise_21 rfl hl (by decide) rfl (fun ls hl => ?_)
        refine lv_iinc (v := nI (i + 1)) (lv' := [(3, .int (nI (i + 1))), (2, .int (x5)), (0, .ref (ad 10 (ia))), (1, .ref (ad 10 (ib)))]) hx hb dX5_otherwise_22 hl (k := 1) rfl (nI_inc i 1) (by decide) rfl (fun ls hl => ?_)
        refine lv_goto (tgt := 4) hx hb dX5_otherwise_25 (by decide) ?_
        exact ih4 (i + 1) (x5) (by omega) (by subst ex5 ex4 ex3 ex2; rw [hd]; rfl) (by omega) _ _ hW hS _ (lv_sub hl [0, 1, 2, 3] rfl)
  exact K4 (4 + 1) (0) (nI (0)) (by decide) rfl (by omega) _ _ hW hS _ (lv_sub hl [0, 1, 2, 3] rfl)

set_option maxHeartbeats 4000000 in
set_option maxRecDepth 100000 in
theorem c_X4_bitsIn_11 (l : Launch) (D : va_G) (G : Nat → ClassId) (ad : Nat → Nat → Nat) (hI : wI LC ad) (I : St) (ia : Nat) (hia : ia < 59) : Met l yX4_bitsIn wsX4_bitsIn ({ frames := 1, cells := 0, slots := 0, locals := 20 } : Room) (gPre D G LC ad [.ref (ad 11 (ia))] (wC G ad I)) (gQi D LC ad (wC G ad) (fun r u => r = bcs (I 11 ia) 4 ∧ u = I)) 0 0 (wA LC ad) := by
  refine g_entry (C := RX4) (cc := cX4_bitsIn) (maxL := 3) (ret := (some .int)) rfl (by decide) rfl (Nat.le_of_ble_eq_true rfl) (fun p e s m args below meth c Q ls hQ hx hb hr hts hown hlocks hml hW hK hl => ?_)
  have hl : lv_has ls 3 [(0, .ref (ad 11 (ia)))] := hl
  have hS := va_S.rf (A := wA LC ad) (H0 := s.heap)
  refine lv_iconst (v := nI 0) hx hb dX4_bitsIn_0 (by decide) ?_
  refine lv_istore_n (lv' := [(1, .int (nI (0))), (0, .ref (ad 11 (ia)))]) hx hb dX4_bitsIn_1 rfl hl (by decide) rfl (fun ls hl => ?_)
  refine lv_iconst (v := nI 0) hx hb dX4_bitsIn_2 (by decide) ?_
  refine lv_istore_n (lv' := [(2, .int (nI (0))), (1, .int (nI (0))), (0, .ref (ad 11 (ia)))]) hx hb dX4_bitsIn_3 rfl hl (by decide) rfl (fun ls hl => ?_)
  have K4 : ∀ (n : Nat) (i : Nat) (d : Int32), i ≤ 4 → d = bcs (I 11 ia) i → 4 < i + n → ∀ (H : Heap) (locs : List Loc), va_P D vwCl (wS LC ad (wC G ad I)) H → va_S (wA LC ad) s.heap H locs → ∀ (ls : Array Slot), lv_has ls 3 [(2, .int (nI (i))), (1, .int (d)), (0, .ref (ad 11 (ia)))] → W p l e ({ frames := 1, cells := 0, slots := 0, locals := 20 } : Room) s m args below meth c H locs 0 0 Q (F0 m 4 ls []) := by
    intro n4
    induction n4 with
    | zero => intro i d hi hd hfu; exact absurd hfu (by omega)
    | succ n4 ih4 =>
      intro i d hi hd hfu H locs hW hS ls hl
      refine lv_iload_n hx hb dX4_bitsIn_4 rfl (lv_at hl 0 rfl) ?_
      refine lv_iconst (v := nI 4) hx hb dX4_bitsIn_5 (by decide) ?_
      refine lv_icmp_ge (tgt := 24) hx hb dX4_bitsIn_6 (by decide) (fun c6_0 => ?_) (fun c6_0 => ?_)
      · replace c6_0 : 4 ≤ i := (nI_leI (show 4 < 2147483648 by omega) (show i < 2147483648 by omega)).mp c6_0
        refine lv_iload_n hx hb dX4_bitsIn_24 rfl (lv_at hl 1 rfl) ?_
        rw [hQ]
        exact g_iret (wd := wC G ad) hx hb hr rfl hlocks hW hS (by have e4 : i = 4 := (by omega); subst e4; exact ⟨hd, rfl⟩) dX4_bitsIn_25
      · replace c6_0 : ¬ (4 ≤ i) := fun h => c6_0 ((nI_leI (show 4 < 2147483648 by omega) (show i < 2147483648 by omega)).mpr h)
        refine lv_iload_n hx hb dX4_bitsIn_9 rfl (lv_at hl 1 rfl) ?_
        refine lv_aload_n hx hb dX4_bitsIn_10 rfl (lv_at hl 2 rfl) ?_
        refine lv_iload_n hx hb dX4_bitsIn_11 rfl (lv_at hl 0 rfl) ?_
        refine rC_iald hx hb hK hW 11 (ia) (i) (by decide) (by decide) (show ia < 59 by omega) (show i < 4 by omega) rfl dX4_bitsIn_12 (fun x2 ex2 => ?_)
        refine g_pi (va_runS (As := [.int (x2)]) (rest := [.int (d)]) ⟨hx, hb, hml, hown, hts⟩ (c_J6_bitCount_0f7a4 l x2) (va_cwS 1 hts gX4_bitsIn_J6_bitCount_0f7a4 rfl rfl rfl (by decide +kernel) ⟨Nat.le_of_ble_eq_true rfl, Nat.le_of_ble_eq_true rfl⟩) p_preS rfl rfl hl.1 rfl (lv_room (Nat.le_of_ble_eq_true rfl)) dX4_bitsIn_13 ⟨Nat.le_refl _, Nat.le_refl _⟩) hW hS (fun H locs hW hS => ?_)
        refine lv_iadd hx hb dX4_bitsIn_16 (lv_topi (fun x3 ex3 => ?_))
        refine lv_istore_n (lv' := [(1, .int (x3)), (2, .int (nI (i))), (0, .ref (ad 11 (ia)))]) hx hb dX4_bitsIn_17 rfl hl (by decide) rfl (fun ls hl => ?_)
        refine lv_iinc (v := nI (i + 1)) (lv' := [(2, .int (nI (i + 1))), (1, .int (x3)), (0, .ref (ad 11 (ia)))]) hx hb dX4_bitsIn_18 hl (k := 1) rfl (nI_inc i 1) (by decide) rfl (fun ls hl => ?_)
        refine lv_goto (tgt := 4) hx hb dX4_bitsIn_21 (by decide) ?_
        exact ih4 (i + 1) (x3) (by omega) (by subst ex3 ex2; rw [hd]; rfl) (by omega) _ _ hW hS _ (lv_sub hl [0, 1, 2] rfl)
  exact K4 (4 + 1) (0) (nI (0)) (by decide) rfl (by omega) _ _ hW hS _ (lv_sub hl [0, 1, 2] rfl)

set_option maxHeartbeats 4000000 in
set_option maxRecDepth 100000 in
theorem c_X5_otherwise_11 (l : Launch) (D : va_G) (G : Nat → ClassId) (ad : Nat → Nat → Nat) (hI : wI LC ad) (I : St) (ia ib : Nat) (hia : ia < 59) (hib : ib < 59) : Met l yX5_otherwise wsX5_otherwise ({ frames := 1, cells := 0, slots := 0, locals := 20 } : Room) (gPre D G LC ad [.ref (ad 11 (ia)), .ref (ad 11 (ib))] (wC G ad I)) (gQi D LC ad (wC G ad) (fun r u => r = oth (I 11 ia) (I 11 ib) 4 ∧ u = I)) 0 0 (wA LC ad) := by
  refine g_entry (C := RX5) (cc := cX5_otherwise) (maxL := 4) (ret := (some .int)) rfl (by decide) rfl (Nat.le_of_ble_eq_true rfl) (fun p e s m args below meth c Q ls hQ hx hb hr hts hown hlocks hml hW hK hl => ?_)
  have hl : lv_has ls 4 [(0, .ref (ad 11 (ia))), (1, .ref (ad 11 (ib)))] := hl
  have hS := va_S.rf (A := wA LC ad) (H0 := s.heap)
  refine lv_iconst (v := nI 0) hx hb dX5_otherwise_0 (by decide) ?_
  refine lv_istore_n (lv' := [(2, .int (nI (0))), (0, .ref (ad 11 (ia))), (1, .ref (ad 11 (ib)))]) hx hb dX5_otherwise_1 rfl hl (by decide) rfl (fun ls hl => ?_)
  refine lv_iconst (v := nI 0) hx hb dX5_otherwise_2 (by decide) ?_
  refine lv_istore_n (lv' := [(3, .int (nI (0))), (2, .int (nI (0))), (0, .ref (ad 11 (ia))), (1, .ref (ad 11 (ib)))]) hx hb dX5_otherwise_3 rfl hl (by decide) rfl (fun ls hl => ?_)
  have K4 : ∀ (n : Nat) (i : Nat) (d : Int32), i ≤ 4 → d = oth (I 11 ia) (I 11 ib) i → 4 < i + n → ∀ (H : Heap) (locs : List Loc), va_P D vwCl (wS LC ad (wC G ad I)) H → va_S (wA LC ad) s.heap H locs → ∀ (ls : Array Slot), lv_has ls 4 [(3, .int (nI (i))), (2, .int (d)), (0, .ref (ad 11 (ia))), (1, .ref (ad 11 (ib)))] → W p l e ({ frames := 1, cells := 0, slots := 0, locals := 20 } : Room) s m args below meth c H locs 0 0 Q (F0 m 4 ls []) := by
    intro n4
    induction n4 with
    | zero => intro i d hi hd hfu; exact absurd hfu (by omega)
    | succ n4 ih4 =>
      intro i d hi hd hfu H locs hW hS ls hl
      refine lv_iload_n hx hb dX5_otherwise_4 rfl (lv_at hl 0 rfl) ?_
      refine lv_iconst (v := nI 4) hx hb dX5_otherwise_5 (by decide) ?_
      refine lv_icmp_ge (tgt := 28) hx hb dX5_otherwise_6 (by decide) (fun c6_0 => ?_) (fun c6_0 => ?_)
      · replace c6_0 : 4 ≤ i := (nI_leI (show 4 < 2147483648 by omega) (show i < 2147483648 by omega)).mp c6_0
        refine lv_iload_n hx hb dX5_otherwise_28 rfl (lv_at hl 1 rfl) ?_
        rw [hQ]
        exact g_iret (wd := wC G ad) hx hb hr rfl hlocks hW hS (by have e4 : i = 4 := (by omega); subst e4; exact ⟨hd, rfl⟩) dX5_otherwise_29
      · replace c6_0 : ¬ (4 ≤ i) := fun h => c6_0 ((nI_leI (show 4 < 2147483648 by omega) (show i < 2147483648 by omega)).mpr h)
        refine lv_iload_n hx hb dX5_otherwise_9 rfl (lv_at hl 1 rfl) ?_
        refine lv_aload_n hx hb dX5_otherwise_10 rfl (lv_at hl 2 rfl) ?_
        refine lv_iload_n hx hb dX5_otherwise_11 rfl (lv_at hl 0 rfl) ?_
        refine rC_iald hx hb hK hW 11 (ia) (i) (by decide) (by decide) (show ia < 59 by omega) (show i < 4 by omega) rfl dX5_otherwise_12 (fun x2 ex2 => ?_)
        refine lv_aload_n hx hb dX5_otherwise_13 rfl (lv_at hl 3 rfl) ?_
        refine lv_iload_n hx hb dX5_otherwise_14 rfl (lv_at hl 0 rfl) ?_
        refine rC_iald hx hb hK hW 11 (ib) (i) (by decide) (by decide) (show ib < 59 by omega) (show i < 4 by omega) rfl dX5_otherwise_15 (fun x3 ex3 => ?_)
        refine lv_ixor hx hb dX5_otherwise_16 (lv_topi (fun x4 ex4 => ?_))
        refine g_pi (va_runS (As := [.int (x4)]) (rest := [.int (d)]) ⟨hx, hb, hml, hown, hts⟩ (c_J6_bitCount_0f7a4 l x4) (va_cwS 1 hts gX5_otherwise_J6_bitCount_0f7a4 rfl rfl rfl (by decide +kernel) ⟨Nat.le_of_ble_eq_true rfl, Nat.le_of_ble_eq_true rfl⟩) p_preS rfl rfl hl.1 rfl (lv_room (Nat.le_of_ble_eq_true rfl)) dX5_otherwise_17 ⟨Nat.le_refl _, Nat.le_refl _⟩) hW hS (fun H locs hW hS => ?_)
        refine lv_iadd hx hb dX5_otherwise_20 (lv_topi (fun x5 ex5 => ?_))
        refine lv_istore_n (lv' := [(2, .int (x5)), (3, .int (nI (i))), (0, .ref (ad 11 (ia))), (1, .ref (ad 11 (ib)))]) hx hb dX5_otherwise_21 rfl hl (by decide) rfl (fun ls hl => ?_)
        refine lv_iinc (v := nI (i + 1)) (lv' := [(3, .int (nI (i + 1))), (2, .int (x5)), (0, .ref (ad 11 (ia))), (1, .ref (ad 11 (ib)))]) hx hb dX5_otherwise_22 hl (k := 1) rfl (nI_inc i 1) (by decide) rfl (fun ls hl => ?_)
        refine lv_goto (tgt := 4) hx hb dX5_otherwise_25 (by decide) ?_
        exact ih4 (i + 1) (x5) (by omega) (by subst ex5 ex4 ex3 ex2; rw [hd]; rfl) (by omega) _ _ hW hS _ (lv_sub hl [0, 1, 2, 3] rfl)
  exact K4 (4 + 1) (0) (nI (0)) (by decide) rfl (by omega) _ _ hW hS _ (lv_sub hl [0, 1, 2, 3] rfl)

set_option maxHeartbeats 4000000 in
set_option maxRecDepth 100000 in
theorem c_X4_heardInAll (l : Launch) (D : va_G) (G : Nat → ClassId) (ad : Nat → Nat → Nat) (hI : wI LC ad) (I : St) (ia : Nat) (hia : ia < 59) : Met l yX4_heardInAll wsX4_heardInAll ({ frames := 2, cells := 0, slots := 0, locals := 42 } : Room) (gPre D G LC ad [.ref (ad 4 (ia))] (wC G ad I)) (gQi D LC ad (wC G ad) (fun r u => r = bcs (I 10 ia) 4 ∧ u = I)) 0 0 (wA LC ad) := by
  refine g_entry (C := RX4) (cc := cX4_heardInAll) (maxL := 1) (ret := (some .int)) rfl (by decide) rfl (Nat.le_of_ble_eq_true rfl) (fun p e s m args below meth c Q ls hQ hx hb hr hts hown hlocks hml hW hK hl => ?_)
  have hl : lv_has ls 1 [(0, .ref (ad 4 (ia)))] := hl
  have hS := va_S.rf (A := wA LC ad) (H0 := s.heap)
  have hinX4 : ∀ w ∈ wsX40, w ∈ wsX4_heardInAll := by decide +kernel
  have hf9 := hts (.fieldLink RX4 9 "JoinedStores$Store" "heard" "[I") (by decide +kernel)
  refine lv_aload_n hx hb dX4_heardInAll_0 rfl (lv_at hl 0 rfl) ?_
  refine r_get hx hb hts hown hK hW 4 (ia) 0 (mC (by decide) (show ia < 59 by omega)) rfl rfl hinX4 (by decide) hf9 rfl rfl dX4_heardInAll_1 ?_
  refine g_ci (va_runS (As := [.ref (ad 10 (ia))]) (rest := []) ⟨hx, hb, hml, hown, hts⟩ (c_X4_bitsIn_10 l D G ad hI I ia (show ia < 59 by omega)) (va_cwS 1 hts gX4_heardInAll_X4_bitsIn rfl rfl rfl (by decide +kernel) ⟨Nat.le_of_ble_eq_true rfl, Nat.le_of_ble_eq_true rfl⟩) (g_preS hK hW) rfl rfl hl.1 rfl (lv_room (Nat.le_of_ble_eq_true rfl)) dX4_heardInAll_4 ⟨Nat.le_refl _, Nat.le_refl _⟩) hS (fun x1 I1 H locs hp hW hS => ?_)
  obtain ⟨ex1, eI1⟩ := hp
  rw [eI1] at hW
  clear eI1
  rw [hQ]
  exact g_iret (wd := wC G ad) hx hb hr rfl hlocks hW hS (by subst ex1; exact ⟨rfl, rfl⟩) dX4_heardInAll_7

set_option maxHeartbeats 4000000 in
set_option maxRecDepth 100000 in
theorem c_X4_aliveInAll (l : Launch) (D : va_G) (G : Nat → ClassId) (ad : Nat → Nat → Nat) (hI : wI LC ad) (I : St) (ia : Nat) (hia : ia < 59) : Met l yX4_aliveInAll wsX4_aliveInAll ({ frames := 2, cells := 0, slots := 0, locals := 42 } : Room) (gPre D G LC ad [.ref (ad 4 (ia))] (wC G ad I)) (gQi D LC ad (wC G ad) (fun r u => r = bcs (I 11 ia) 4 ∧ u = I)) 0 0 (wA LC ad) := by
  refine g_entry (C := RX4) (cc := cX4_aliveInAll) (maxL := 1) (ret := (some .int)) rfl (by decide) rfl (Nat.le_of_ble_eq_true rfl) (fun p e s m args below meth c Q ls hQ hx hb hr hts hown hlocks hml hW hK hl => ?_)
  have hl : lv_has ls 1 [(0, .ref (ad 4 (ia)))] := hl
  have hS := va_S.rf (A := wA LC ad) (H0 := s.heap)
  have hinX4 : ∀ w ∈ wsX40, w ∈ wsX4_aliveInAll := by decide +kernel
  have hf15 := hts (.fieldLink RX4 15 "JoinedStores$Store" "alive" "[I") (by decide +kernel)
  refine lv_aload_n hx hb dX4_aliveInAll_0 rfl (lv_at hl 0 rfl) ?_
  refine r_get hx hb hts hown hK hW 4 (ia) 1 (mC (by decide) (show ia < 59 by omega)) rfl rfl hinX4 (by decide) hf15 rfl rfl dX4_aliveInAll_1 ?_
  refine g_ci (va_runS (As := [.ref (ad 11 (ia))]) (rest := []) ⟨hx, hb, hml, hown, hts⟩ (c_X4_bitsIn_11 l D G ad hI I ia (show ia < 59 by omega)) (va_cwS 1 hts gX4_aliveInAll_X4_bitsIn rfl rfl rfl (by decide +kernel) ⟨Nat.le_of_ble_eq_true rfl, Nat.le_of_ble_eq_true rfl⟩) (g_preS hK hW) rfl rfl hl.1 rfl (lv_room (Nat.le_of_ble_eq_true rfl)) dX4_aliveInAll_4 ⟨Nat.le_refl _, Nat.le_refl _⟩) hS (fun x1 I1 H locs hp hW hS => ?_)
  obtain ⟨ex1, eI1⟩ := hp
  rw [eI1] at hW
  clear eI1
  rw [hQ]
  exact g_iret (wd := wC G ad) hx hb hr rfl hlocks hW hS (by subst ex1; exact ⟨rfl, rfl⟩) dX4_aliveInAll_7

set_option maxHeartbeats 4000000 in
set_option maxRecDepth 100000 in
theorem c_X4_isSame (l : Launch) (D : va_G) (G : Nat → ClassId) (ad : Nat → Nat → Nat) (hI : wI LC ad) (I : St) (ia ib : Nat) (hia : ia < 59) (hib : ib < 59) : Met l yX4_isSame wsX4_isSame ({ frames := 2, cells := 0, slots := 0, locals := 43 } : Room) (gPre D G LC ad [.ref (ad 4 (ia)), .ref (ad 4 (ib))] (wC G ad I)) (gQi D LC ad (wC G ad) (fun r u => r = bI (same0 I ia ib) ∧ u = I)) 0 0 (wA LC ad) := by
  refine g_entry (C := RX4) (cc := cX4_isSame) (maxL := 2) (ret := (some .boolean)) rfl (by decide) rfl (Nat.le_of_ble_eq_true rfl) (fun p e s m args below meth c Q ls hQ hx hb hr hts hown hlocks hml hW hK hl => ?_)
  have hl : lv_has ls 2 [(0, .ref (ad 4 (ia))), (1, .ref (ad 4 (ib)))] := hl
  have hS := va_S.rf (A := wA LC ad) (H0 := s.heap)
  have hinX4 : ∀ w ∈ wsX40, w ∈ wsX4_isSame := by decide +kernel
  have hf9 := hts (.fieldLink RX4 9 "JoinedStores$Store" "heard" "[I") (by decide +kernel)
  have hf15 := hts (.fieldLink RX4 15 "JoinedStores$Store" "alive" "[I") (by decide +kernel)
  refine lv_aload_n hx hb dX4_isSame_0 rfl (lv_at hl 0 rfl) ?_
  refine r_get hx hb hts hown hK hW 4 (ia) 0 (mC (by decide) (show ia < 59 by omega)) rfl rfl hinX4 (by decide) hf9 rfl rfl dX4_isSame_1 ?_
  refine lv_aload_n hx hb dX4_isSame_4 rfl (lv_at hl 1 rfl) ?_
  refine r_get hx hb hts hown hK hW 4 (ib) 0 (mC (by decide) (show ib < 59 by omega)) rfl rfl hinX4 (by decide) hf9 rfl rfl dX4_isSame_5 ?_
  refine g_ci (va_runSN (As := [.ref (ad 10 (ia)), .ref (ad 10 (ib))]) (rest := []) ⟨hx, hb, hml, hown, hts⟩ (c_X5_otherwise_10 l D G ad hI I ia ib (show ia < 59 by omega) (show ib < 59 by omega)) ⟨va_cnB 2 hts gX4_isSame_X5_otherwise_n18 rfl rfl rfl (hK.2 _ (List.mem_of_getElem? (i := 3) rfl)) (hts (.initialized RX5) (by decide +kernel)) (by decide +kernel) ⟨Nat.le_of_ble_eq_true rfl, Nat.le_of_ble_eq_true rfl⟩, hts (.static yX5_otherwise) (by decide +kernel), trivial⟩ (g_preS hK hW) rfl rfl hl.1 rfl (lv_room (Nat.le_of_ble_eq_true rfl)) dX4_isSame_8 ⟨Nat.le_refl _, Nat.le_refl _⟩) hS (fun x1 I1 H locs hp hW hS => ?_)
  obtain ⟨ex1, eI1⟩ := hp
  rw [eI1] at hW
  clear eI1
  refine lv_if_ne (tgt := 32) hx hb dX4_isSame_11 (by decide) (fun c11_1 => ?_) (fun c11_1 => ?_)
  · refine lv_iconst (v := nI 0) hx hb dX4_isSame_32 (by decide) ?_
    rw [hQ]
    exact g_iret (wd := wC G ad) hx hb hr (by decide) hlocks hW hS (by refine ⟨?_, rfl⟩; simp_all [same0, bI, nI_0, nI_one]) dX4_isSame_33
  · refine lv_aload_n hx hb dX4_isSame_14 rfl (lv_at hl 0 rfl) ?_
    refine r_get hx hb hts hown hK hW 4 (ia) 1 (mC (by decide) (show ia < 59 by omega)) rfl rfl hinX4 (by decide) hf15 rfl rfl dX4_isSame_15 ?_
    refine lv_aload_n hx hb dX4_isSame_18 rfl (lv_at hl 1 rfl) ?_
    refine r_get hx hb hts hown hK hW 4 (ib) 1 (mC (by decide) (show ib < 59 by omega)) rfl rfl hinX4 (by decide) hf15 rfl rfl dX4_isSame_19 ?_
    refine g_ci (va_runSN (As := [.ref (ad 11 (ia)), .ref (ad 11 (ib))]) (rest := []) ⟨hx, hb, hml, hown, hts⟩ (c_X5_otherwise_11 l D G ad hI I ia ib (show ia < 59 by omega) (show ib < 59 by omega)) ⟨va_cnB 2 hts gX4_isSame_X5_otherwise_n18 rfl rfl rfl (hK.2 _ (List.mem_of_getElem? (i := 3) rfl)) (hts (.initialized RX5) (by decide +kernel)) (by decide +kernel) ⟨Nat.le_of_ble_eq_true rfl, Nat.le_of_ble_eq_true rfl⟩, hts (.static yX5_otherwise) (by decide +kernel), trivial⟩ (g_preS hK hW) rfl rfl hl.1 rfl (lv_room (Nat.le_of_ble_eq_true rfl)) dX4_isSame_22 ⟨Nat.le_refl _, Nat.le_refl _⟩) hS (fun x3 I3 H locs hp hW hS => ?_)
    obtain ⟨ex3, eI3⟩ := hp
    rw [eI3] at hW
    clear eI3
    refine lv_if_ne (tgt := 32) hx hb dX4_isSame_25 (by decide) (fun c25_3 => ?_) (fun c25_3 => ?_)
    · refine lv_iconst (v := nI 0) hx hb dX4_isSame_32 (by decide) ?_
      rw [hQ]
      exact g_iret (wd := wC G ad) hx hb hr (by decide) hlocks hW hS (by refine ⟨?_, rfl⟩; simp_all [same0, bI, nI_0, nI_one]) dX4_isSame_33
    · refine lv_iconst (v := nI 1) hx hb dX4_isSame_28 (by decide) ?_
      refine lv_goto (tgt := 33) hx hb dX4_isSame_29 (by decide) ?_
      rw [hQ]
      exact g_iret (wd := wC G ad) hx hb hr (by decide) hlocks hW hS (by refine ⟨?_, rfl⟩; simp_all [same0, bI, nI_0, nI_one]) dX4_isSame_33

set_option maxHeartbeats 4000000 in
set_option maxRecDepth 100000 in
theorem c_X0_madeInAll (l : Launch) (D : va_G) (G : Nat → ClassId) (ad : Nat → Nat → Nat) (hI : wI LC ad) (I : St)  : Met l yX0_madeInAll wsX0_madeInAll ({ frames := 0, cells := 0, slots := 0, locals := 0 } : Room) (gPre D G LC ad [.ref (ad 5 (0))] (wC G ad I)) (gQi D LC ad (wC G ad) (fun r u => r = mads I 4 ∧ u = I)) 0 0 (wA LC ad) := by
  refine g_entry (C := RX0) (cc := cX0_madeInAll) (maxL := 3) (ret := (some .int)) rfl (by decide) rfl (Nat.le_of_ble_eq_true rfl) (fun p e s m args below meth c Q ls hQ hx hb hr hts hown hlocks hml hW hK hl => ?_)
  have hl : lv_has ls 3 [(0, .ref (ad 5 (0)))] := hl
  have hS := va_S.rf (A := wA LC ad) (H0 := s.heap)
  have hinX0 : ∀ w ∈ wsX00, w ∈ wsX0_madeInAll := by decide +kernel
  have hf9 := hts (.fieldLink RX0 9 "JoinedStores$Dots" "made" "[I") (by decide +kernel)
  refine lv_iconst (v := nI 0) hx hb dX0_madeInAll_0 (by decide) ?_
  refine lv_istore_n (lv' := [(1, .int (nI (0))), (0, .ref (ad 5 (0)))]) hx hb dX0_madeInAll_1 rfl hl (by decide) rfl (fun ls hl => ?_)
  refine lv_iconst (v := nI 0) hx hb dX0_madeInAll_2 (by decide) ?_
  refine lv_istore_n (lv' := [(2, .int (nI (0))), (1, .int (nI (0))), (0, .ref (ad 5 (0)))]) hx hb dX0_madeInAll_3 rfl hl (by decide) rfl (fun ls hl => ?_)
  have K4 : ∀ (n : Nat) (i : Nat) (d : Int32), i ≤ 4 → d = mads I i → 4 < i + n → ∀ (H : Heap) (locs : List Loc), va_P D vwCl (wS LC ad (wC G ad I)) H → va_S (wA LC ad) s.heap H locs → ∀ (ls : Array Slot), lv_has ls 3 [(2, .int (nI (i))), (1, .int (d)), (0, .ref (ad 5 (0)))] → W p l e ({ frames := 0, cells := 0, slots := 0, locals := 0 } : Room) s m args below meth c H locs 0 0 Q (F0 m 4 ls []) := by
    intro n4
    induction n4 with
    | zero => intro i d hi hd hfu; exact absurd hfu (by omega)
    | succ n4 ih4 =>
      intro i d hi hd hfu H locs hW hS ls hl
      refine lv_iload_n hx hb dX0_madeInAll_4 rfl (lv_at hl 0 rfl) ?_
      refine lv_iconst (v := nI 4) hx hb dX0_madeInAll_5 (by decide) ?_
      refine lv_icmp_ge (tgt := 24) hx hb dX0_madeInAll_6 (by decide) (fun c6_0 => ?_) (fun c6_0 => ?_)
      · replace c6_0 : 4 ≤ i := (nI_leI (show 4 < 2147483648 by omega) (show i < 2147483648 by omega)).mp c6_0
        refine lv_iload_n hx hb dX0_madeInAll_24 rfl (lv_at hl 1 rfl) ?_
        rw [hQ]
        exact g_iret (wd := wC G ad) hx hb hr rfl hlocks hW hS (by have e4 : i = 4 := (by omega); subst e4; exact ⟨hd, rfl⟩) dX0_madeInAll_25
      · replace c6_0 : ¬ (4 ≤ i) := fun h => c6_0 ((nI_leI (show 4 < 2147483648 by omega) (show i < 2147483648 by omega)).mpr h)
        refine lv_iload_n hx hb dX0_madeInAll_9 rfl (lv_at hl 1 rfl) ?_
        refine lv_aload_n hx hb dX0_madeInAll_10 rfl (lv_at hl 2 rfl) ?_
        refine r_get hx hb hts hown hK hW 5 (0) 0 (mC (by decide) (by decide)) rfl rfl hinX0 (by decide) hf9 rfl rfl dX0_madeInAll_11 ?_
        refine lv_iload_n hx hb dX0_madeInAll_14 rfl (lv_at hl 0 rfl) ?_
        refine rC_iald hx hb hK hW 12 (0) (i) (by decide) (by decide) (by decide) (show i < 4 by omega) rfl dX0_madeInAll_15 (fun x2 ex2 => ?_)
        refine lv_iadd hx hb dX0_madeInAll_16 (lv_topi (fun x3 ex3 => ?_))
        refine lv_istore_n (lv' := [(1, .int (x3)), (2, .int (nI (i))), (0, .ref (ad 5 (0)))]) hx hb dX0_madeInAll_17 rfl hl (by decide) rfl (fun ls hl => ?_)
        refine lv_iinc (v := nI (i + 1)) (lv' := [(2, .int (nI (i + 1))), (1, .int (x3)), (0, .ref (ad 5 (0)))]) hx hb dX0_madeInAll_18 hl (k := 1) rfl (nI_inc i 1) (by decide) rfl (fun ls hl => ?_)
        refine lv_goto (tgt := 4) hx hb dX0_madeInAll_21 (by decide) ?_
        exact ih4 (i + 1) (x3) (by omega) (by subst ex3 ex2; rw [hd]; rfl) (by omega) _ _ hW hS _ (lv_sub hl [0, 1, 2] rfl)
  exact K4 (4 + 1) (0) (nI (0)) (by decide) rfl (by omega) _ _ hW hS _ (lv_sub hl [0, 1, 2] rfl)

set_option maxHeartbeats 4000000 in
set_option maxRecDepth 100000 in
theorem c_X0_greatestStampHeard (l : Launch) (D : va_G) (G : Nat → ClassId) (ad : Nat → Nat → Nat) (hI : wI LC ad) (I : St) (ia : Nat) (hia : ia < 59) (hM : okM I) : Met l yX0_greatestStampHeard wsX0_greatestStampHeard ({ frames := 1, cells := 0, slots := 0, locals := 32 } : Room) (gPre D G LC ad [.ref (ad 5 (0)), .ref (ad 4 (ia))] (wC G ad I)) (gQi D LC ad (wC G ad) (fun r u => r = gsr I ia 4 ∧ u = I)) 0 0 (wA LC ad) := by
  refine g_entry (C := RX0) (cc := cX0_greatestStampHeard) (maxL := 5) (ret := (some .int)) rfl (by decide) rfl (Nat.le_of_ble_eq_true rfl) (fun p e s m args below meth c Q ls hQ hx hb hr hts hown hlocks hml hW hK hl => ?_)
  have hl : lv_has ls 5 [(0, .ref (ad 5 (0))), (1, .ref (ad 4 (ia)))] := hl
  have hS := va_S.rf (A := wA LC ad) (H0 := s.heap)
  have hinX0 : ∀ w ∈ wsX00, w ∈ wsX0_greatestStampHeard := by decide +kernel
  have hinX4 : ∀ w ∈ wsX40, w ∈ wsX0_greatestStampHeard := by decide +kernel
  have hf9 := hts (.fieldLink RX0 9 "JoinedStores$Dots" "made" "[I") (by decide +kernel)
  have hf18 := hts (.fieldLink RX0 18 "JoinedStores$Dots" "stamps" "[I") (by decide +kernel)
  have hf41 := hts (.fieldLink RX0 41 "JoinedStores$Store" "heard" "[I") (by decide +kernel)
  refine lv_iconst (v := nI 0) hx hb dX0_greatestStampHeard_0 (by decide) ?_
  refine lv_istore_n (lv' := [(2, .int (nI (0))), (0, .ref (ad 5 (0))), (1, .ref (ad 4 (ia)))]) hx hb dX0_greatestStampHeard_1 rfl hl (by decide) rfl (fun ls hl => ?_)
  refine lv_iconst (v := nI 0) hx hb dX0_greatestStampHeard_2 (by decide) ?_
  refine lv_istore_n (lv' := [(3, .int (nI (0))), (2, .int (nI (0))), (0, .ref (ad 5 (0))), (1, .ref (ad 4 (ia)))]) hx hb dX0_greatestStampHeard_3 rfl hl (by decide) rfl (fun ls hl => ?_)
  have K4 : ∀ (n : Nat) (r : Nat) (d : Int32), r ≤ 4 → d = gsr I ia r → 4 < r + n → ∀ (H : Heap) (locs : List Loc), va_P D vwCl (wS LC ad (wC G ad I)) H → va_S (wA LC ad) s.heap H locs → ∀ (ls : Array Slot), lv_has ls 5 [(3, .int (nI (r))), (2, .int (d)), (0, .ref (ad 5 (0))), (1, .ref (ad 4 (ia)))] → W p l e ({ frames := 1, cells := 0, slots := 0, locals := 32 } : Room) s m args below meth c H locs 0 0 Q (F0 m 4 ls []) := by
    intro n4
    induction n4 with
    | zero => intro r d hr4 hd hfu; exact absurd hfu (by omega)
    | succ n4 ih4 =>
      intro r d hr4 hd hfu H locs hW hS ls hl
      refine lv_iload_n hx hb dX0_greatestStampHeard_4 rfl (lv_at hl 0 rfl) ?_
      refine lv_iconst (v := nI 4) hx hb dX0_greatestStampHeard_5 (by decide) ?_
      refine lv_icmp_ge (tgt := 66) hx hb dX0_greatestStampHeard_6 (by decide) (fun c6_0 => ?_) (fun c6_0 => ?_)
      · replace c6_0 : 4 ≤ r := (nI_leI (show 4 < 2147483648 by omega) (show r < 2147483648 by omega)).mp c6_0
        refine lv_iload_n hx hb dX0_greatestStampHeard_66 rfl (lv_at hl 1 rfl) ?_
        rw [hQ]
        exact g_iret (wd := wC G ad) hx hb hr rfl hlocks hW hS (by have e4 : r = 4 := (by omega); subst e4; exact ⟨hd, rfl⟩) dX0_greatestStampHeard_67
      · replace c6_0 : ¬ (4 ≤ r) := fun h => c6_0 ((nI_leI (show 4 < 2147483648 by omega) (show r < 2147483648 by omega)).mpr h)
        refine lv_iconst (v := nI 0) hx hb dX0_greatestStampHeard_9 (by decide) ?_
        refine lv_istore (lv' := [(4, .int (nI (0))), (3, .int (nI (r))), (2, .int (d)), (0, .ref (ad 5 (0))), (1, .ref (ad 4 (ia)))]) hx hb dX0_greatestStampHeard_10 hl (by decide) rfl (fun ls hl => ?_)
        have K12 : ∀ (n : Nat) (k : Nat) (q : Int32), k ≤ mk I r → q = gsk I ia r d k → (mk I r) < k + n → ∀ (H : Heap) (locs : List Loc), va_P D vwCl (wS LC ad (wC G ad I)) H → va_S (wA LC ad) s.heap H locs → ∀ (ls : Array Slot), lv_has ls 5 [(4, .int (nI (k))), (3, .int (nI (r))), (2, .int (q)), (0, .ref (ad 5 (0))), (1, .ref (ad 4 (ia)))] → W p l e ({ frames := 1, cells := 0, slots := 0, locals := 32 } : Room) s m args below meth c H locs 0 0 Q (F0 m 12 ls []) := by
          intro n12
          induction n12 with
          | zero => intro k q hk hq hfu; exact absurd hfu (by omega)
          | succ n12 ih12 =>
            intro k q hk hq hfu H locs hW hS ls hl
            refine lv_iload hx hb dX0_greatestStampHeard_12 (lv_at hl 0 rfl) ?_
            refine lv_aload_n hx hb dX0_greatestStampHeard_14 rfl (lv_at hl 3 rfl) ?_
            refine r_get hx hb hts hown hK hW 5 (0) 0 (mC (by decide) (by decide)) rfl rfl hinX0 (by decide) hf9 rfl rfl dX0_greatestStampHeard_15 ?_
            refine lv_iload_n hx hb dX0_greatestStampHeard_18 rfl (lv_at hl 1 rfl) ?_
            refine rC_iald hx hb hK hW 12 (0) (r) (by decide) (by decide) (by decide) (show r < 4 by omega) rfl dX0_greatestStampHeard_19 (fun x2 ex2 => ?_)
            have hm_r := (hM r (by omega)).2
            refine r_top (ex2.trans (hM r (by omega)).1) ?_
            refine lv_icmp_ge (tgt := 60) hx hb dX0_greatestStampHeard_20 (by decide) (fun c20_2 => ?_) (fun c20_2 => ?_)
            · replace c20_2 : mk I r ≤ k := (nI_leI (show mk I r < 2147483648 by omega) (show k < 2147483648 by omega)).mp c20_2
              refine lv_iinc (v := nI (r + 1)) (lv' := [(3, .int (nI (r + 1))), (4, .int (nI (k))), (2, .int (q)), (0, .ref (ad 5 (0))), (1, .ref (ad 4 (ia)))]) hx hb dX0_greatestStampHeard_60 hl (k := 1) rfl (nI_inc r 1) (by decide) rfl (fun ls hl => ?_)
              refine lv_goto (tgt := 4) hx hb dX0_greatestStampHeard_63 (by decide) ?_
              exact ih4 (r + 1) (q) (by omega) (by rw [hq]; have e9 : k = mk I r := (by omega); subst e9; rw [hd]; rfl) (by omega) _ _ hW hS _ (lv_sub hl [0, 2, 3, 4] rfl)
            · replace c20_2 : ¬ (mk I r ≤ k) := fun h => c20_2 ((nI_leI (show mk I r < 2147483648 by omega) (show k < 2147483648 by omega)).mpr h)
              refine lv_aload_n hx hb dX0_greatestStampHeard_23 rfl (lv_at hl 4 rfl) ?_
              refine r_get hx hb hts hown hK hW 4 (ia) 0 (mC (by decide) (show ia < 59 by omega)) rfl rfl hinX4 (by decide) hf41 rfl rfl dX0_greatestStampHeard_24 ?_
              refine lv_iload_n hx hb dX0_greatestStampHeard_27 rfl (lv_at hl 1 rfl) ?_
              refine rC_iald hx hb hK hW 10 (ia) (r) (by decide) (by decide) (show ia < 59 by omega) (show r < 4 by omega) rfl dX0_greatestStampHeard_28 (fun x4 ex4 => ?_)
              refine lv_iload hx hb dX0_greatestStampHeard_29 (lv_at hl 0 rfl) ?_
              refine lv_iushr hx hb dX0_greatestStampHeard_31 rfl (lv_topi (fun x5 ex5 => ?_))
              replace ex5 : x5 = us x4 (nI (k)) := ex5
              refine lv_iconst (v := nI 1) hx hb dX0_greatestStampHeard_32 (by decide) ?_
              refine lv_iand hx hb dX0_greatestStampHeard_33 (lv_topi (fun x6 ex6 => ?_))
              refine lv_iconst (v := nI 1) hx hb dX0_greatestStampHeard_34 (by decide) ?_
              refine lv_icmp_ne (tgt := 54) hx hb dX0_greatestStampHeard_35 (by decide) (fun c35_6 => ?_) (fun c35_6 => ?_)
              · refine lv_iinc (v := nI (k + 1)) (lv' := [(4, .int (nI (k + 1))), (3, .int (nI (r))), (2, .int (q)), (0, .ref (ad 5 (0))), (1, .ref (ad 4 (ia)))]) hx hb dX0_greatestStampHeard_54 hl (k := 0) rfl (nI_inc k 1) (by decide) rfl (fun ls hl => ?_)
                refine lv_goto (tgt := 12) hx hb dX0_greatestStampHeard_57 (by decide) ?_
                exact ih12 (k + 1) (q) (by omega) (by subst ex6 ex5 ex4 ex2; simp_all [gsk, tb, mx]) (by omega) _ _ hW hS _ (lv_sub hl [0, 1, 2, 3, 4] rfl)
              · refine lv_iload_n hx hb dX0_greatestStampHeard_38 rfl (lv_at hl 2 rfl) ?_
                refine lv_aload_n hx hb dX0_greatestStampHeard_39 rfl (lv_at hl 3 rfl) ?_
                refine r_get hx hb hts hown hK hW 5 (0) 2 (mC (by decide) (by decide)) rfl rfl hinX0 (by decide) hf18 rfl rfl dX0_greatestStampHeard_40 ?_
                refine lv_iload_n hx hb dX0_greatestStampHeard_43 rfl (lv_at hl 1 rfl) ?_
                refine lv_iload hx hb dX0_greatestStampHeard_44 (lv_at hl 0 rfl) ?_
                refine g_pi (va_runSN (As := [.int (nI (r)), .int (nI (k))]) (rest := [.ref (ad 14 (0)), .int (q)]) ⟨hx, hb, hml, hown, hts⟩ (c_X5_placeOf l (r) (k)) ⟨va_cnB 2 hts gX0_greatestStampHeard_X5_placeOf_n33 rfl rfl rfl (hK.2 _ (List.mem_of_getElem? (i := 0) rfl)) (hts (.initialized RX5) (by decide +kernel)) (by decide +kernel) ⟨Nat.le_of_ble_eq_true rfl, Nat.le_of_ble_eq_true rfl⟩, hts (.static yX5_placeOf) (by decide +kernel), trivial⟩ p_preS rfl rfl hl.1 rfl (lv_room (Nat.le_of_ble_eq_true rfl)) dX0_greatestStampHeard_46 ⟨Nat.le_refl _, Nat.le_refl _⟩) hW hS (fun H locs hW hS => ?_)
                refine rC_iald hx hb hK hW 14 (0) (r * 31 + k) (by decide) (by decide) (by decide) (show r * 31 + k < 124 by omega) rfl dX0_greatestStampHeard_49 (fun x8 ex8 => ?_)
                refine va_mmax hx hb (hml.trans hl.1.symm) hown (hts (.methodLink RX0 46 Lib.Math.max.name) (by decide +kernel)) (hts (.static Lib.Math.max.name) (by decide +kernel)) (hts (.initialized "java/lang/Math") (by decide +kernel)) (hts (.code Lib.Math.max.name Lib.Math.max.code 2 (some .int)) (by decide +kernel)) (by decide) (by decide) (Nat.zero_le _) (Nat.zero_le _) dX0_greatestStampHeard_50 (lv_topi (fun x9 ex9 => ?_))
                refine lv_istore_n (lv' := [(2, .int (x9)), (4, .int (nI (k))), (3, .int (nI (r))), (0, .ref (ad 5 (0))), (1, .ref (ad 4 (ia)))]) hx hb dX0_greatestStampHeard_53 rfl hl (by decide) rfl (fun ls hl => ?_)
                refine lv_iinc (v := nI (k + 1)) (lv' := [(4, .int (nI (k + 1))), (2, .int (x9)), (3, .int (nI (r))), (0, .ref (ad 5 (0))), (1, .ref (ad 4 (ia)))]) hx hb dX0_greatestStampHeard_54 hl (k := 1) rfl (nI_inc k 1) (by decide) rfl (fun ls hl => ?_)
                refine lv_goto (tgt := 12) hx hb dX0_greatestStampHeard_57 (by decide) ?_
                exact ih12 (k + 1) (x9) (by omega) (by subst ex9 ex8 ex6 ex5 ex4 ex2; simp_all [gsk, tb, mx]) (by omega) _ _ hW hS _ (lv_sub hl [0, 2, 1, 3, 4] rfl)
        exact K12 ((mk I r) + 1) (0) (d) (Nat.zero_le _) rfl (by omega) _ _ hW hS _ (lv_sub hl [0, 1, 2, 3, 4] rfl)
  exact K4 (4 + 1) (0) (nI (0)) (by decide) rfl (by omega) _ _ hW hS _ (lv_sub hl [0, 1, 2, 3] rfl)
