/-! ===== counts, Dots ===== -/
set_option maxHeartbeats 4000000 in
set_option maxRecDepth 100000 in
theorem c_X4_bitsIn_10 (l : Launch) (D : va_G) (G : Nat → ClassId) (ad : Nat → Nat → Nat) (hI : wI LC ad) (I : St) (ia : Nat) (hia : ia < 59) : Met l yX4_bitsIn wsX4_bitsIn ({ frames := 1, cells := 0, slots := 0, locals := 20 } : Room) (gPre D G LC ad [.ref (ad 10 (ia))] (wC G ad I)) (gQi D LC ad (wC G ad) (fun r u => r = bcs (I 10 ia) 4 ∧ u = I)) 0 0 (wA LC ad) := by
  refine g_entry (C := RX4) (cc := cX4_bitsIn) (maxL := 3) (ret := (some .int)) rfl (by decide) rfl (Nat.le_of_ble_eq_true rfl) (fun p e s m args below meth c Q ls hQ hx hb hr hts hown hlocks hml hW hK hl => ?_)
  have hl : lv_has ls 3 [(0, .ref (ad 10 (ia)))] := hl
  have hS := va_S.rf (A := wA LC ad) (H0 := s.heap)
  refine lv_iconst (v := nI 0) hx hb dX4_bitsIn_0 (by decide) ?_
  refine lv_istore_n (lv' := [(1, .int (nI (0))), (0, .ref (ad 10 (ia)))]) hx hb dX4_bitsIn_1 rfl hl (by decide) rfl (fun ls hl => ?_)
  refine lv_iconst (v := nI 0) hx hb dX4_bitsIn_2 (by decide) ?_
  refine lv_istore_n (lv' := [(2, .int (nI (0))), (1, .int (nI (0))), (0, .ref (ad 10 (ia)))]) hx hb dX4_bitsIn_3 rfl hl (by decide) rfl (fun ls hl => ?_)
  have K4 : ∀ (n : Nat) (i : Nat) (d : Int32), (i ≤ 4) → (d = bcs (I 10 ia) i) → 4 < i + n → ∀ (H : Heap) (locs : List Loc), va_P D vwCl (wS LC ad (wC G ad I)) H → va_S (wA LC ad) s.heap H locs → ∀ (ls : Array Slot), lv_has ls 3 [(2, .int (nI (i))), (1, .int (d)), (0, .ref (ad 10 (ia)))] → W p l e ({ frames := 1, cells := 0, slots := 0, locals := 20 } : Room) s m args below meth c H locs 0 0 Q (F0 m 4 ls []) := by
    intro n4
    induction n4 with
    | zero => intro i d hi hd hfu; exact absurd hfu (by omega)
    | succ n4 ih4 =>
      intro i d hi hd hfu H locs hW hS ls hl
      refine lv_iload_n hx hb dX4_bitsIn_4 rfl (lv_at hl 0 rfl) ?_
      refine lv_iconst (v := nI 4) hx hb dX4_bitsIn_5 (by decide) ?_
      refine lv_icmp_ge (tgt := 24) hx hb dX4_bitsIn_6 (by decide) (fun c6_0 => ?_) (fun c6_0 => ?_)
      · replace c6_0 : 4 ≤ i := (nI_leI (show 4 < 2147483648 by omega) (show i < 2147483648 by omega)).mp c6_0
        refine lv_iload_n hx hb dX4_bitsIn_24 rfl (lv_at hl 1 rfl) ?_
        rw [hQ]
        exact g_iret (wd := wC G ad) hx hb hr rfl hlocks hW hS (by have e4 : i = 4 := (by omega); subst e4; exact ⟨hd, rfl⟩) dX4_bitsIn_25
      · replace c6_0 : ¬ (4 ≤ i) := fun h => c6_0 ((nI_leI (show 4 < 2147483648 by omega) (show i < 2147483648 by omega)).mpr h)
        refine lv_iload_n hx hb dX4_bitsIn_9 rfl (lv_at hl 1 rfl) ?_
        refine lv_aload_n hx hb dX4_bitsIn_10 rfl (lv_at hl 2 rfl) ?_
        refine lv_iload_n hx hb dX4_bitsIn_11 rfl (lv_at hl 0 rfl) ?_
        refine rC_iald hx hb hK hW 10 (ia) (i) (by decide) (by decide) (show ia < 59 by omega) (show i < 4 by omega) rfl dX4_bitsIn_12 (fun x2 ex2 => ?_)
        refine g_pi (va_runS (As := [.int (x2)]) (rest := [.int (d)]) ⟨hx, hb, hml, hown, hts⟩ (c_J6_bitCount_0f7a4 l x2) (va_cwS 1 hts gX4_bitsIn_J6_bitCount_0f7a4 rfl rfl rfl (by decide +kernel) ⟨Nat.le_of_ble_eq_true rfl, Nat.le_of_ble_eq_true rfl⟩) p_preS rfl rfl hl.1 rfl (lv_room (Nat.le_of_ble_eq_true rfl)) dX4_bitsIn_13 ⟨Nat.le_refl _, Nat.le_refl _⟩) hW hS (fun H locs hW hS => ?_)
        refine lv_iadd hx hb dX4_bitsIn_16 (lv_topi (fun x3 ex3 => ?_))
        refine lv_istore_n (lv' := [(1, .int (x3)), (2, .int (nI (i))), (0, .ref (ad 10 (ia)))]) hx hb dX4_bitsIn_17 rfl hl (by decide) rfl (fun ls hl => ?_)
        refine lv_iinc (v := nI (i + 1)) (lv' := [(2, .int (nI (i + 1))), (1, .int (x3)), (0, .ref (ad 10 (ia)))]) hx hb dX4_bitsIn_18 hl (k := 1) rfl (nI_inc i 1) (by decide) rfl (fun ls hl => ?_)
        refine lv_goto (tgt := 4) hx hb dX4_bitsIn_21 (by decide) ?_
        exact ih4 (i + 1) (x3) (by omega) (by subst ex3 ex2; rw [hd]; rfl) (by omega) _ _ hW hS _ (lv_sub hl [0, 1, 2] rfl)
  exact K4 (4 + 1) (0) (nI (0)) (by decide) rfl (by omega) _ _ hW hS _ (lv_sub hl [0, 1, 2] rfl)

set_option maxHeartbeats 4000000 in
set_option maxRecDepth 100000 in
theorem c_X5_otherwise_10 (l : Launch) (D : va_G) (G : Nat → ClassId) (ad : Nat → Nat → Nat) (hI : wI LC ad) (I : St) (ia ib : Nat) (hia : ia < 59) (hib : ib < 59) : Met l yX5_otherwise wsX5_otherwise ({ frames := 1, cells := 0, slots := 0, locals := 20 } : Room) (gPre D G LC ad [.ref (ad 10 (ia)), .ref (ad 10 (ib))] (wC G ad I)) (gQi D LC ad (wC G ad) (fun r u => r = oth (I 10 ia) (I 10 ib) 4 ∧ u = I)) 0 0 (wA LC ad) := by
  refine g_entry (C := RX5) (cc := cX5_otherwise) (maxL := 4) (ret := (some .int)) rfl (by decide) rfl (Nat.le_of_ble_eq_true rfl) (fun p e s m args below meth c Q ls hQ hx hb hr hts hown hlocks hml hW hK hl => ?_)
  have hl : lv_has ls 4 [(0, .ref (ad 10 (ia))), (1, .ref (ad 10 (ib)))] := hl
  have hS := va_S.rf (A := wA LC ad) (H0 := s.heap)
  refine lv_iconst (v := nI 0) hx hb dX5_otherwise_0 (by decide) ?_
  refine lv_istore_n (lv' := [(2, .int (nI (0))), (0, .ref (ad 10 (ia))), (1, .ref (ad 10 (ib)))]) hx hb dX5_otherwise_1 rfl hl (by decide) rfl (fun ls hl => ?_)
  refine lv_iconst (v := nI 0) hx hb dX5_otherwise_2 (by decide) ?_
  refine lv_istore_n (lv' := [(3, .int (nI (0))), (2, .int (nI (0))), (0, .ref (ad 10 (ia))), (1, .ref (ad 10 (ib)))]) hx hb dX5_otherwise_3 rfl hl (by decide) rfl (fun ls hl => ?_)
  have K4 : ∀ (n : Nat) (i : Nat) (d : Int32), (i ≤ 4) → (d = oth (I 10 ia) (I 10 ib) i) → 4 < i + n → ∀ (H : Heap) (locs : List Loc), va_P D vwCl (wS LC ad (wC G ad I)) H → va_S (wA LC ad) s.heap H locs → ∀ (ls : Array Slot), lv_has ls 4 [(3, .int (nI (i))), (2, .int (d)), (0, .ref (ad 10 (ia))), (1, .ref (ad 10 (ib)))] → W p l e ({ frames := 1, cells := 0, slots := 0, locals := 20 } : Room) s m args below meth c H locs 0 0 Q (F0 m 4 ls []) := by
    intro n4
    induction n4 with
    | zero => intro i d hi hd hfu; exact absurd hfu (by omega)
    | succ n4 ih4 =>
      intro i d hi hd hfu H locs hW hS ls hl
      refine lv_iload_n hx hb dX5_otherwise_4 rfl (lv_at hl 0 rfl) ?_
      refine lv_iconst (v := nI 4) hx hb dX5_otherwise_5 (by decide) ?_
      refine lv_icmp_ge (tgt := 28) hx hb dX5_otherwise_6 (by decide) (fun c6_0 => ?_) (fun c6_0 => ?_)
      · replace c6_0 : 4 ≤ i := (nI_leI (show 4 < 2147483648 by omega) (show i < 2147483648 by omega)).mp c6_0
        refine lv_iload_n hx hb dX5_otherwise_28 rfl (lv_at hl 1 rfl) ?_
        rw [hQ]
        exact g_iret (wd := wC G ad) hx hb hr rfl hlocks hW hS (by have e4 : i = 4 := (by omega); subst e4; exact ⟨hd, rfl⟩) dX5_otherwise_29
      · replace c6_0 : ¬ (4 ≤ i) := fun h => c6_0 ((nI_leI (show 4 < 2147483648 by omega) (show i < 2147483648 by omega)).mpr h)
        refine lv_iload_n hx hb dX5_otherwise_9 rfl (lv_at hl 1 rfl) ?_
        refine lv_aload_n hx hb dX5_otherwise_10 rfl (lv_at hl 2 rfl) ?_
        refine lv_iload_n hx hb dX5_otherwise_11 rfl (lv_at hl 0 rfl) ?_
        refine rC_iald hx hb hK hW 10 (ia) (i) (by decide) (by decide) (show ia < 59 by omega) (show i < 4 by omega) rfl dX5_otherwise_12 (fun x2 ex2 => ?_)
        refine lv_aload_n hx hb dX5_otherwise_13 rfl (lv_at hl 3 rfl) ?_
        refine lv_iload_n hx hb dX5_otherwise_14 rfl (lv_at hl 0 rfl) ?_
        refine rC_iald hx hb hK hW 10 (ib) (i) (by decide) (by decide) (show ib < 59 by omega) (show i < 4 by omega) rfl dX5_otherwise_15 (fun x3 ex3 => ?_)
        refine lv_ixor hx hb dX5_otherwise_16 (lv_topi (fun x4 ex4 => ?_))
        refine g_pi (va_runS (As := [.int (x4)]) (rest := [.int (d)]) ⟨hx, hb, hml, hown, hts⟩ (c_J6_bitCount_0f7a4 l x4) (va_cwS 1 hts gX5_otherwise_J6_bitCount_0f7a4 rfl rfl rfl (by decide +kernel) ⟨Nat.le_of_ble_eq_true rfl, Nat.le_of_ble_eq_true rfl⟩) p_preS rfl rfl hl.1 rfl (lv_room (Nat.le_of_ble_eq_true rfl)) dX5_otherwise_17 ⟨Nat.le_refl _, Nat.le_refl _⟩) hW hS (fun H locs hW hS => ?_)
        refine lv_iadd hx hb dX5_otherwise_20 (lv_topi (fun x5 ex5 => ?_))
        refine lv_istore_n (lv' := [(2, .int (x5)), (3, .int (nI (i))), (0, .ref (ad 10 (ia))), (1, .ref (ad 10 (ib)))]) hx hb dX5_otherwise_21 rfl hl (by decide) rfl (fun ls hl => ?_)
        refine lv_iinc (v := nI (i + 1)) (lv' := [(3, .int (nI (i + 1))), (2, .int (x5)), (0, .ref (ad 10 (ia))), (1, .ref (ad 10 (ib)))]) hx hb dX5_otherwise_22 hl (k := 1) rfl (nI_inc i 1) (by decide) rfl (fun ls hl => ?_)
        refine lv_goto (tgt := 4) hx hb dX5_otherwise_25 (by decide) ?_
        exact ih4 (i + 1) (x5) (by omega) (by subst ex5 ex4 ex3 ex2; rw [hd]; rfl) (by omega) _ _ hW hS _ (lv_sub hl [0, 1, 2, 3] rfl)
  exact K4 (4 + 1) (0) (nI (0)) (by decide) rfl (by omega) _ _ hW hS _ (lv_sub hl [0, 1, 2, 3] rfl)

set_option maxHeartbeats 4000000 in
set_option maxRecDepth 100000 in
theorem c_X4_bitsIn_11 (l : Launch) (D : va_G) (G : Nat → ClassId) (ad : Nat → Nat → Nat) (hI : wI LC ad) (I : St) (ia : Nat) (hia : ia < 59) : Met l yX4_bitsIn wsX4_bitsIn ({ frames := 1, cells := 0, slots := 0, locals := 20 } : Room) (gPre D G LC ad [.ref (ad 11 (ia))] (wC G ad I)) (gQi D LC ad (wC G ad) (fun r u => r = bcs (I 11 ia) 4 ∧ u = I)) 0 0 (wA LC ad) := by
  refine g_entry (C := RX4) (cc := cX4_bitsIn) (maxL := 3) (ret := (some .int)) rfl (by decide) rfl (Nat.le_of_ble_eq_true rfl) (fun p e s m args below meth c Q ls hQ hx hb hr hts hown hlocks hml hW hK hl => ?_)
  have hl : lv_has ls 3 [(0, .ref (ad 11 (ia)))] := hl
  have hS := va_S.rf (A := wA LC ad) (H0 := s.heap)
  refine lv_iconst (v := nI 0) hx hb dX4_bitsIn_0 (by decide) ?_
  refine lv_istore_n (lv' := [(1, .int (nI (0))), (0, .ref (ad 11 (ia)))]) hx hb dX4_bitsIn_1 rfl hl (by decide) rfl (fun ls hl => ?_)
  refine lv_iconst (v := nI 0) hx hb dX4_bitsIn_2 (by decide) ?_
  refine lv_istore_n (lv' := [(2, .int (nI (0))), (1, .int (nI (0))), (0, .ref (ad 11 (ia)))]) hx hb dX4_bitsIn_3 rfl hl (by decide) rfl (fun ls hl => ?_)
  have K4 : ∀ (n : Nat) (i : Nat) (d : Int32), (i ≤ 4) → (d = bcs (I 11 ia) i) → 4 < i + n → ∀ (H : Heap) (locs : List Loc), va_P D vwCl (wS LC ad (wC G ad I)) H → va_S (wA LC ad) s.heap H locs → ∀ (ls : Array Slot), lv_has ls 3 [(2, .int (nI (i))), (1, .int (d)), (0, .ref (ad 11 (ia)))] → W p l e ({ frames := 1, cells := 0, slots := 0, locals := 20 } : Room) s m args below meth c H locs 0 0 Q (F0 m 4 ls []) := by
    intro n4
    induction n4 with
    | zero => intro i d hi hd hfu; exact absurd hfu (by omega)
    | succ n4 ih4 =>
      intro i d hi hd hfu H locs hW hS ls hl
      refine lv_iload_n hx hb dX4_bitsIn_4 rfl (lv_at hl 0 rfl) ?_
      refine lv_iconst (v := nI 4) hx hb dX4_bitsIn_5 (by decide) ?_
      refine lv_icmp_ge (tgt := 24) hx hb dX4_bitsIn_6 (by decide) (fun c6_0 => ?_) (fun c6_0 => ?_)
      · replace c6_0 : 4 ≤ i := (nI_leI (show 4 < 2147483648 by omega) (show i < 2147483648 by omega)).mp c6_0
        refine lv_iload_n hx hb dX4_bitsIn_24 rfl (lv_at hl 1 rfl) ?_
        rw [hQ]
        exact g_iret (wd := wC G ad) hx hb hr rfl hlocks hW hS (by have e4 : i = 4 := (by omega); subst e4; exact ⟨hd, rfl⟩) dX4_bitsIn_25
      · replace c6_0 : ¬ (4 ≤ i) := fun h => c6_0 ((nI_leI (show 4 < 2147483648 by omega) (show i < 2147483648 by omega)).mpr h)
        refine lv_iload_n hx hb dX4_bitsIn_9 rfl (lv_at hl 1 rfl) ?_
        refine lv_aload_n hx hb dX4_bitsIn_10 rfl (lv_at hl 2 rfl) ?_
        refine lv_iload_n hx hb dX4_bitsIn_11 rfl (lv_at hl 0 rfl) ?_
        refine rC_iald hx hb hK hW 11 (ia) (i) (by decide) (by decide) (show ia < 59 by omega) (show i < 4 by omega) rfl dX4_bitsIn_12 (fun x2 ex2 => ?_)
        refine g_pi (va_runS (As := [.int (x2)]) (rest := [.int (d)]) ⟨hx, hb, hml, hown, hts⟩ (c_J6_bitCount_0f7a4 l x2) (va_cwS 1 hts gX4_bitsIn_J6_bitCount_0f7a4 rfl rfl rfl (by decide +kernel) ⟨Nat.le_of_ble_eq_true rfl, Nat.le_of_ble_eq_true rfl⟩) p_preS rfl rfl hl.1 rfl (lv_room (Nat.le_of_ble_eq_true rfl)) dX4_bitsIn_13 ⟨Nat.le_refl _, Nat.le_refl _⟩) hW hS (fun H locs hW hS => ?_)
        refine lv_iadd hx hb dX4_bitsIn_16 (lv_topi (fun x3 ex3 => ?_))
        refine lv_istore_n (lv' := [(1, .int (x3)), (2, .int (nI (i))), (0, .ref (ad 11 (ia)))]) hx hb dX4_bitsIn_17 rfl hl (by decide) rfl (fun ls hl => ?_)
        refine lv_iinc (v := nI (i + 1)) (lv' := [(2, .int (nI (i + 1))), (1, .int (x3)), (0, .ref (ad 11 (ia)))]) hx hb dX4_bitsIn_18 hl (k := 1) rfl (nI_inc i 1) (by decide) rfl (fun ls hl => ?_)
        refine lv_goto (tgt := 4) hx hb dX4_bitsIn_21 (by decide) ?_
        exact ih4 (i + 1) (x3) (by omega) (by subst ex3 ex2; rw [hd]; rfl) (by omega) _ _ hW hS _ (lv_sub hl [0, 1, 2] rfl)
  exact K4 (4 + 1) (0) (nI (0)) (by decide) rfl (by omega) _ _ hW hS _ (lv_sub hl [0, 1, 2] rfl)

set_option maxHeartbeats 4000000 in
set_option maxRecDepth 100000 in
theorem c_X5_otherwise_11 (l : Launch) (D : va_G) (G : Nat → ClassId) (ad : Nat → Nat → Nat) (hI : wI LC ad) (I : St) (ia ib : Nat) (hia : ia < 59) (hib : ib < 59) : Met l yX5_otherwise wsX5_otherwise ({ frames := 1, cells := 0, slots := 0, locals := 20 } : Room) (gPre D G LC ad [.ref (ad 11 (ia)), .ref (ad 11 (ib))] (wC G ad I)) (gQi D LC ad (wC G ad) (fun r u => r = oth (I 11 ia) (I 11 ib) 4 ∧ u = I)) 0 0 (wA LC ad) := by
  refine g_entry (C := RX5) (cc := cX5_otherwise) (maxL := 4) (ret := (some .int)) rfl (by decide) rfl (Nat.le_of_ble_eq_true rfl) (fun p e s m args below meth c Q ls hQ hx hb hr hts hown hlocks hml hW hK hl => ?_)
  have hl : lv_has ls 4 [(0, .ref (ad 11 (ia))), (1, .ref (ad 11 (ib)))] := hl
  have hS := va_S.rf (A := wA LC ad) (H0 := s.heap)
  refine lv_iconst (v := nI 0) hx hb dX5_otherwise_0 (by decide) ?_
  refine lv_istore_n (lv' := [(2, .int (nI (0))), (0, .ref (ad 11 (ia))), (1, .ref (ad 11 (ib)))]) hx hb dX5_otherwise_1 rfl hl (by decide) rfl (fun ls hl => ?_)
  refine lv_iconst (v := nI 0) hx hb dX5_otherwise_2 (by decide) ?_
  refine lv_istore_n (lv' := [(3, .int (nI (0))), (2, .int (nI (0))), (0, .ref (ad 11 (ia))), (1, .ref (ad 11 (ib)))]) hx hb dX5_otherwise_3 rfl hl (by decide) rfl (fun ls hl => ?_)
  have K4 : ∀ (n : Nat) (i : Nat) (d : Int32), (i ≤ 4) → (d = oth (I 11 ia) (I 11 ib) i) → 4 < i + n → ∀ (H : Heap) (locs : List Loc), va_P D vwCl (wS LC ad (wC G ad I)) H → va_S (wA LC ad) s.heap H locs → ∀ (ls : Array Slot), lv_has ls 4 [(3, .int (nI (i))), (2, .int (d)), (0, .ref (ad 11 (ia))), (1, .ref (ad 11 (ib)))] → W p l e ({ frames := 1, cells := 0, slots := 0, locals := 20 } : Room) s m args below meth c H locs 0 0 Q (F0 m 4 ls []) := by
    intro n4
    induction n4 with
    | zero => intro i d hi hd hfu; exact absurd hfu (by omega)
    | succ n4 ih4 =>
      intro i d hi hd hfu H locs hW hS ls hl
      refine lv_iload_n hx hb dX5_otherwise_4 rfl (lv_at hl 0 rfl) ?_
      refine lv_iconst (v := nI 4) hx hb dX5_otherwise_5 (by decide) ?_
      refine lv_icmp_ge (tgt := 28) hx hb dX5_otherwise_6 (by decide) (fun c6_0 => ?_) (fun c6_0 => ?_)
      · replace c6_0 : 4 ≤ i := (nI_leI (show 4 < 2147483648 by omega) (show i < 2147483648 by omega)).mp c6_0
        refine lv_iload_n hx hb dX5_otherwise_28 rfl (lv_at hl 1 rfl) ?_
        rw [hQ]
        exact g_iret (wd := wC G ad) hx hb hr rfl hlocks hW hS (by have e4 : i = 4 := (by omega); subst e4; exact ⟨hd, rfl⟩) dX5_otherwise_29
      · replace c6_0 : ¬ (4 ≤ i) := fun h => c6_0 ((nI_leI (show 4 < 2147483648 by omega) (show i < 2147483648 by omega)).mpr h)
        refine lv_iload_n hx hb dX5_otherwise_9 rfl (lv_at hl 1 rfl) ?_
        refine lv_aload_n hx hb dX5_otherwise_10 rfl (lv_at hl 2 rfl) ?_
        refine lv_iload_n hx hb dX5_otherwise_11 rfl (lv_at hl 0 rfl) ?_
        refine rC_iald hx hb hK hW 11 (ia) (i) (by decide) (by decide) (show ia < 59 by omega) (show i < 4 by omega) rfl dX5_otherwise_12 (fun x2 ex2 => ?_)
        refine lv_aload_n hx hb dX5_otherwise_13 rfl (lv_at hl 3 rfl) ?_
        refine lv_iload_n hx hb dX5_otherwise_14 rfl (lv_at hl 0 rfl) ?_
        refine rC_iald hx hb hK hW 11 (ib) (i) (by decide) (by decide) (show ib < 59 by omega) (show i < 4 by omega) rfl dX5_otherwise_15 (fun x3 ex3 => ?_)
        refine lv_ixor hx hb dX5_otherwise_16 (lv_topi (fun x4 ex4 => ?_))
        refine g_pi (va_runS (As := [.int (x4)]) (rest := [.int (d)]) ⟨hx, hb, hml, hown, hts⟩ (c_J6_bitCount_0f7a4 l x4) (va_cwS 1 hts gX5_otherwise_J6_bitCount_0f7a4 rfl rfl rfl (by decide +kernel) ⟨Nat.le_of_ble_eq_true rfl, Nat.le_of_ble_eq_true rfl⟩) p_preS rfl rfl hl.1 rfl (lv_room (Nat.le_of_ble_eq_true rfl)) dX5_otherwise_17 ⟨Nat.le_refl _, Nat.le_refl _⟩) hW hS (fun H locs hW hS => ?_)
        refine lv_iadd hx hb dX5_otherwise_20 (lv_topi (fun x5 ex5 => ?_))
        refine lv_istore_n (lv' := [(2, .int (x5)), (3, .int (nI (i))), (0, .ref (ad 11 (ia))), (1, .ref (ad 11 (ib)))]) hx hb dX5_otherwise_21 rfl hl (by decide) rfl (fun ls hl => ?_)
        refine lv_iinc (v := nI (i + 1)) (lv' := [(3, .int (nI (i + 1))), (2, .int (x5)), (0, .ref (ad 11 (ia))), (1, .ref (ad 11 (ib)))]) hx hb dX5_otherwise_22 hl (k := 1) rfl (nI_inc i 1) (by decide) rfl (fun ls hl => ?_)
        refine lv_goto (tgt := 4) hx hb dX5_otherwise_25 (by decide) ?_
        exact ih4 (i + 1) (x5) (by omega) (by subst ex5 ex4 ex3 ex2; rw [hd]; rfl) (by omega) _ _ hW hS _ (lv_sub hl [0, 1, 2, 3] rfl)
  exact K4 (4 + 1) (0) (nI (0)) (by decide) rfl (by omega) _ _ hW hS _ (lv_sub hl [0, 1, 2, 3] rfl)

set_option maxHeartbeats 4000000 in
set_option maxRecDepth 100000 in
theorem c_X4_heardInAll (l : Launch) (D : va_G) (G : Nat → ClassId) (ad : Nat → Nat → Nat) (hI : wI LC ad) (I : St) (ia : Nat) (hia : ia < 59) : Met l yX4_heardInAll wsX4_heardInAll ({ frames := 2, cells := 0, slots := 0, locals := 42 } : Room) (gPre D G LC ad [.ref (ad 4 (ia))] (wC G ad I)) (gQi D LC ad (wC G ad) (fun r u => r = bcs (I 10 ia) 4 ∧ u = I)) 0 0 (wA LC ad) := by
  refine g_entry (C := RX4) (cc := cX4_heardInAll) (maxL := 1) (ret := (some .int)) rfl (by decide) rfl (Nat.le_of_ble_eq_true rfl) (fun p e s m args below meth c Q ls hQ hx hb hr hts hown hlocks hml hW hK hl => ?_)
  have hl : lv_has ls 1 [(0, .ref (ad 4 (ia)))] := hl
  have hS := va_S.rf (A := wA LC ad) (H0 := s.heap)
  have hinX4 : ∀ w ∈ wsX40, w ∈ wsX4_heardInAll := by decide +kernel
  have hf9 := hts (.fieldLink RX4 9 "JoinedStores$Store" "heard" "[I") (by decide +kernel)
  refine lv_aload_n hx hb dX4_heardInAll_0 rfl (lv_at hl 0 rfl) ?_
  refine r_get hx hb hts hown hK hW 4 (ia) 0 (mC (by decide) (show ia < 59 by omega)) rfl rfl hinX4 (by decide) hf9 rfl rfl dX4_heardInAll_1 ?_
  refine g_ci (va_runS (As := [.ref (ad 10 (ia))]) (rest := []) ⟨hx, hb, hml, hown, hts⟩ (c_X4_bitsIn_10 l D G ad hI I ia (show ia < 59 by omega)) (va_cwS 1 hts gX4_heardInAll_X4_bitsIn rfl rfl rfl (by decide +kernel) ⟨Nat.le_of_ble_eq_true rfl, Nat.le_of_ble_eq_true rfl⟩) (g_preS hK hW) rfl rfl hl.1 rfl (lv_room (Nat.le_of_ble_eq_true rfl)) dX4_heardInAll_4 ⟨Nat.le_refl _, Nat.le_refl _⟩) hS (fun x1 I1 H locs hp hW hS => ?_)
  obtain ⟨ex1, eI1⟩ := hp
  rw [eI1] at hW
  clear eI1
  rw [hQ]
  exact g_iret (wd := wC G ad) hx hb hr rfl hlocks hW hS (by subst ex1; exact ⟨rfl, rfl⟩) dX4_heardInAll_7

set_option maxHeartbeats 4000000 in
set_option maxRecDepth 100000 in
theorem c_X4_aliveInAll (l : Launch) (D : va_G) (G : Nat → ClassId) (ad : Nat → Nat → Nat) (hI : wI LC ad) (I : St) (ia : Nat) (hia : ia < 59) : Met l yX4_aliveInAll wsX4_aliveInAll ({ frames := 2, cells := 0, slots := 0, locals := 42 } : Room) (gPre D G LC ad [.ref (ad 4 (ia))] (wC G ad I)) (gQi D LC ad (wC G ad) (fun r u => r = bcs (I 11 ia) 4 ∧ u = I)) 0 0 (wA LC ad) := by
  refine g_entry (C := RX4) (cc := cX4_aliveInAll) (maxL := 1) (ret := (some .int)) rfl (by decide) rfl (Nat.le_of_ble_eq_true rfl) (fun p e s m args below meth c Q ls hQ hx hb hr hts hown hlocks hml hW hK hl => ?_)
  have hl : lv_has ls 1 [(0, .ref (ad 4 (ia)))] := hl
  have hS := va_S.rf (A := wA LC ad) (H0 := s.heap)
  have hinX4 : ∀ w ∈ wsX40, w ∈ wsX4_aliveInAll := by decide +kernel
  have hf15 := hts (.fieldLink RX4 15 "JoinedStores$Store" "alive" "[I") (by decide +kernel)
  refine lv_aload_n hx hb dX4_aliveInAll_0 rfl (lv_at hl 0 rfl) ?_
  refine r_get hx hb hts hown hK hW 4 (ia) 1 (mC (by decide) (show ia < 59 by omega)) rfl rfl hinX4 (by decide) hf15 rfl rfl dX4_aliveInAll_1 ?_
  refine g_ci (va_runS (As := [.ref (ad 11 (ia))]) (rest := []) ⟨hx, hb, hml, hown, hts⟩ (c_X4_bitsIn_11 l D G ad hI I ia (show ia < 59 by omega)) (va_cwS 1 hts gX4_aliveInAll_X4_bitsIn rfl rfl rfl (by decide +kernel) ⟨Nat.le_of_ble_eq_true rfl, Nat.le_of_ble_eq_true rfl⟩) (g_preS hK hW) rfl rfl hl.1 rfl (lv_room (Nat.le_of_ble_eq_true rfl)) dX4_aliveInAll_4 ⟨Nat.le_refl _, Nat.le_refl _⟩) hS (fun x1 I1 H locs hp hW hS => ?_)
  obtain ⟨ex1, eI1⟩ := hp
  rw [eI1] at hW
  clear eI1
  rw [hQ]
  exact g_iret (wd := wC G ad) hx hb hr rfl hlocks hW hS (by subst ex1; exact ⟨rfl, rfl⟩) dX4_aliveInAll_7

set_option maxHeartbeats 4000000 in
set_option maxRecDepth 100000 in
theorem c_X4_isSame (l : Launch) (D : va_G) (G : Nat → ClassId) (ad : Nat → Nat → Nat) (hI : wI LC ad) (I : St) (ia ib : Nat) (hia : ia < 59) (hib : ib < 59) : Met l yX4_isSame wsX4_isSame ({ frames := 2, cells := 0, slots := 0, locals := 43 } : Room) (gPre D G LC ad [.ref (ad 4 (ia)), .ref (ad 4 (ib))] (wC G ad I)) (gQi D LC ad (wC G ad) (fun r u => r = bI (same0 I ia ib) ∧ u = I)) 0 0 (wA LC ad) := by
  refine g_entry (C := RX4) (cc := cX4_isSame) (maxL := 2) (ret := (some .boolean)) rfl (by decide) rfl (Nat.le_of_ble_eq_true rfl) (fun p e s m args below meth c Q ls hQ hx hb hr hts hown hlocks hml hW hK hl => ?_)
  have hl : lv_has ls 2 [(0, .ref (ad 4 (ia))), (1, .ref (ad 4 (ib)))] := hl
  have hS := va_S.rf (A := wA LC ad) (H0 := s.heap)
  have hinX4 : ∀ w ∈ wsX40, w ∈ wsX4_isSame := by decide +kernel
  have hf9 := hts (.fieldLink RX4 9 "JoinedStores$Store" "heard" "[I") (by decide +kernel)
  have hf15 := hts (.fieldLink RX4 15 "JoinedStores$Store" "alive" "[I") (by decide +kernel)
  refine lv_aload_n hx hb dX4_isSame_0 rfl (lv_at hl 0 rfl) ?_
  refine r_get hx hb hts hown hK hW 4 (ia) 0 (mC (by decide) (show ia < 59 by omega)) rfl rfl hinX4 (by decide) hf9 rfl rfl dX4_isSame_1 ?_
  refine lv_aload_n hx hb dX4_isSame_4 rfl (lv_at hl 1 rfl) ?_
  refine r_get hx hb hts hown hK hW 4 (ib) 0 (mC (by decide) (show ib < 59 by omega)) rfl rfl hinX4 (by decide) hf9 rfl rfl dX4_isSame_5 ?_
  refine g_ci (va_runSN (As := [.ref (ad 10 (ia)), .ref (ad 10 (ib))]) (rest := []) ⟨hx, hb, hml, hown, hts⟩ (c_X5_otherwise_10 l D G ad hI I ia ib (show ia < 59 by omega) (show ib < 59 by omega)) ⟨va_cnB 2 hts gX4_isSame_X5_otherwise_n18 rfl rfl rfl (hK.2 _ (List.mem_of_getElem? (i := 3) rfl)) (hts (.initialized RX5) (by decide +kernel)) (by decide +kernel) ⟨Nat.le_of_ble_eq_true rfl, Nat.le_of_ble_eq_true rfl⟩, hts (.static yX5_otherwise) (by decide +kernel), trivial⟩ (g_preS hK hW) rfl rfl hl.1 rfl (lv_room (Nat.le_of_ble_eq_true rfl)) dX4_isSame_8 ⟨Nat.le_refl _, Nat.le_refl _⟩) hS (fun x1 I1 H locs hp hW hS => ?_)
  obtain ⟨ex1, eI1⟩ := hp
  rw [eI1] at hW
  clear eI1
  refine lv_if_ne (tgt := 32) hx hb dX4_isSame_11 (by decide) (fun c11_1 => ?_) (fun c11_1 => ?_)
  · refine lv_iconst (v := nI 0) hx hb dX4_isSame_32 (by decide) ?_
    rw [hQ]
    exact g_iret (wd := wC G ad) hx hb hr (by decide) hlocks hW hS (by refine ⟨?_, rfl⟩; simp_all [same0, bI, nI_0, nI_one]) dX4_isSame_33
  · refine lv_aload_n hx hb dX4_isSame_14 rfl (lv_at hl 0 rfl) ?_
    refine r_get hx hb hts hown hK hW 4 (ia) 1 (mC (by decide) (show ia < 59 by omega)) rfl rfl hinX4 (by decide) hf15 rfl rfl dX4_isSame_15 ?_
    refine lv_aload_n hx hb dX4_isSame_18 rfl (lv_at hl 1 rfl) ?_
    refine r_get hx hb hts hown hK hW 4 (ib) 1 (mC (by decide) (show ib < 59 by omega)) rfl rfl hinX4 (by decide) hf15 rfl rfl dX4_isSame_19 ?_
    refine g_ci (va_runSN (As := [.ref (ad 11 (ia)), .ref (ad 11 (ib))]) (rest := []) ⟨hx, hb, hml, hown, hts⟩ (c_X5_otherwise_11 l D G ad hI I ia ib (show ia < 59 by omega) (show ib < 59 by omega)) ⟨va_cnB 2 hts gX4_isSame_X5_otherwise_n18 rfl rfl rfl (hK.2 _ (List.mem_of_getElem? (i := 3) rfl)) (hts (.initialized RX5) (by decide +kernel)) (by decide +kernel) ⟨Nat.le_of_ble_eq_true rfl, Nat.le_of_ble_eq_true rfl⟩, hts (.static yX5_otherwise) (by decide +kernel), trivial⟩ (g_preS hK hW) rfl rfl hl.1 rfl (lv_room (Nat.le_of_ble_eq_true rfl)) dX4_isSame_22 ⟨Nat.le_refl _, Nat.le_refl _⟩) hS (fun x3 I3 H locs hp hW hS => ?_)
    obtain ⟨ex3, eI3⟩ := hp
    rw [eI3] at hW
    clear eI3
    refine lv_if_ne (tgt := 32) hx hb dX4_isSame_25 (by decide) (fun c25_3 => ?_) (fun c25_3 => ?_)
    · refine lv_iconst (v := nI 0) hx hb dX4_isSame_32 (by decide) ?_
      rw [hQ]
      exact g_iret (wd := wC G ad) hx hb hr (by decide) hlocks hW hS (by refine ⟨?_, rfl⟩; simp_all [same0, bI, nI_0, nI_one]) dX4_isSame_33
    · refine lv_iconst (v := nI 1) hx hb dX4_isSame_28 (by decide) ?_
      refine lv_goto (tgt := 33) hx hb dX4_isSame_29 (by decide) ?_
      rw [hQ]
      exact g_iret (wd := wC G ad) hx hb hr (by decide) hlocks hW hS (by refine ⟨?_, rfl⟩; simp_all [same0, bI, nI_0, nI_one]) dX4_isSame_33

set_option maxHeartbeats 4000000 in
set_option maxRecDepth 100000 in
theorem c_X0_madeInAll (l : Launch) (D : va_G) (G : Nat → ClassId) (ad : Nat → Nat → Nat) (hI : wI LC ad) (I : St)  : Met l yX0_madeInAll wsX0_madeInAll ({ frames := 0, cells := 0, slots := 0, locals := 0 } : Room) (gPre D G LC ad [.ref (ad 5 (0))] (wC G ad I)) (gQi D LC ad (wC G ad) (fun r u => r = mads I 4 ∧ u = I)) 0 0 (wA LC ad) := by
  refine g_entry (C := RX0) (cc := cX0_madeInAll) (maxL := 3) (ret := (some .int)) rfl (by decide) rfl (Nat.le_of_ble_eq_true rfl) (fun p e s m args below meth c Q ls hQ hx hb hr hts hown hlocks hml hW hK hl => ?_)
  have hl : lv_has ls 3 [(0, .ref (ad 5 (0)))] := hl
  have hS := va_S.rf (A := wA LC ad) (H0 := s.heap)
  have hinX0 : ∀ w ∈ wsX00, w ∈ wsX0_madeInAll := by decide +kernel
  have hf9 := hts (.fieldLink RX0 9 "JoinedStores$Dots" "made" "[I") (by decide +kernel)
  refine lv_iconst (v := nI 0) hx hb dX0_madeInAll_0 (by decide) ?_
  refine lv_istore_n (lv' := [(1, .int (nI (0))), (0, .ref (ad 5 (0)))]) hx hb dX0_madeInAll_1 rfl hl (by decide) rfl (fun ls hl => ?_)
  refine lv_iconst (v := nI 0) hx hb dX0_madeInAll_2 (by decide) ?_
  refine lv_istore_n (lv' := [(2, .int (nI (0))), (1, .int (nI (0))), (0, .ref (ad 5 (0)))]) hx hb dX0_madeInAll_3 rfl hl (by decide) rfl (fun ls hl => ?_)
  have K4 : ∀ (n : Nat) (i : Nat) (d : Int32), (i ≤ 4) → (d = mads I i) → 4 < i + n → ∀ (H : Heap) (locs : List Loc), va_P D vwCl (wS LC ad (wC G ad I)) H → va_S (wA LC ad) s.heap H locs → ∀ (ls : Array Slot), lv_has ls 3 [(2, .int (nI (i))), (1, .int (d)), (0, .ref (ad 5 (0)))] → W p l e ({ frames := 0, cells := 0, slots := 0, locals := 0 } : Room) s m args below meth c H locs 0 0 Q (F0 m 4 ls []) := by
    intro n4
    induction n4 with
    | zero => intro i d hi hd hfu; exact absurd hfu (by omega)
    | succ n4 ih4 =>
      intro i d hi hd hfu H locs hW hS ls hl
      refine lv_iload_n hx hb dX0_madeInAll_4 rfl (lv_at hl 0 rfl) ?_
      refine lv_iconst (v := nI 4) hx hb dX0_madeInAll_5 (by decide) ?_
      refine lv_icmp_ge (tgt := 24) hx hb dX0_madeInAll_6 (by decide) (fun c6_0 => ?_) (fun c6_0 => ?_)
      · replace c6_0 : 4 ≤ i := (nI_leI (show 4 < 2147483648 by omega) (show i < 2147483648 by omega)).mp c6_0
        refine lv_iload_n hx hb dX0_madeInAll_24 rfl (lv_at hl 1 rfl) ?_
        rw [hQ]
        exact g_iret (wd := wC G ad) hx hb hr rfl hlocks hW hS (by have e4 : i = 4 := (by omega); subst e4; exact ⟨hd, rfl⟩) dX0_madeInAll_25
      · replace c6_0 : ¬ (4 ≤ i) := fun h => c6_0 ((nI_leI (show 4 < 2147483648 by omega) (show i < 2147483648 by omega)).mpr h)
        refine lv_iload_n hx hb dX0_madeInAll_9 rfl (lv_at hl 1 rfl) ?_
        refine lv_aload_n hx hb dX0_madeInAll_10 rfl (lv_at hl 2 rfl) ?_
        refine r_get hx hb hts hown hK hW 5 (0) 0 (mC (by decide) (by decide)) rfl rfl hinX0 (by decide) hf9 rfl rfl dX0_madeInAll_11 ?_
        refine lv_iload_n hx hb dX0_madeInAll_14 rfl (lv_at hl 0 rfl) ?_
        refine rC_iald hx hb hK hW 12 (0) (i) (by decide) (by decide) (by decide) (show i < 4 by omega) rfl dX0_madeInAll_15 (fun x2 ex2 => ?_)
        refine lv_iadd hx hb dX0_madeInAll_16 (lv_topi (fun x3 ex3 => ?_))
        refine lv_istore_n (lv' := [(1, .int (x3)), (2, .int (nI (i))), (0, .ref (ad 5 (0)))]) hx hb dX0_madeInAll_17 rfl hl (by decide) rfl (fun ls hl => ?_)
        refine lv_iinc (v := nI (i + 1)) (lv' := [(2, .int (nI (i + 1))), (1, .int (x3)), (0, .ref (ad 5 (0)))]) hx hb dX0_madeInAll_18 hl (k := 1) rfl (nI_inc i 1) (by decide) rfl (fun ls hl => ?_)
        refine lv_goto (tgt := 4) hx hb dX0_madeInAll_21 (by decide) ?_
        exact ih4 (i + 1) (x3) (by omega) (by subst ex3 ex2; rw [hd]; rfl) (by omega) _ _ hW hS _ (lv_sub hl [0, 1, 2] rfl)
  exact K4 (4 + 1) (0) (nI (0)) (by decide) rfl (by omega) _ _ hW hS _ (lv_sub hl [0, 1, 2] rfl)

set_option maxHeartbeats 4000000 in
set_option maxRecDepth 100000 in
theorem c_X0_greatestStampHeard (l : Launch) (D : va_G) (G : Nat → ClassId) (ad : Nat → Nat → Nat) (hI : wI LC ad) (I : St) (ia : Nat) (hia : ia < 59) (hM : okM I) : Met l yX0_greatestStampHeard wsX0_greatestStampHeard ({ frames := 1, cells := 0, slots := 0, locals := 32 } : Room) (gPre D G LC ad [.ref (ad 5 (0)), .ref (ad 4 (ia))] (wC G ad I)) (gQi D LC ad (wC G ad) (fun r u => r = gsr I ia 4 ∧ u = I)) 0 0 (wA LC ad) := by
  refine g_entry (C := RX0) (cc := cX0_greatestStampHeard) (maxL := 5) (ret := (some .int)) rfl (by decide) rfl (Nat.le_of_ble_eq_true rfl) (fun p e s m args below meth c Q ls hQ hx hb hr hts hown hlocks hml hW hK hl => ?_)
  have hl : lv_has ls 5 [(0, .ref (ad 5 (0))), (1, .ref (ad 4 (ia)))] := hl
  have hS := va_S.rf (A := wA LC ad) (H0 := s.heap)
  have hinX0 : ∀ w ∈ wsX00, w ∈ wsX0_greatestStampHeard := by decide +kernel
  have hinX4 : ∀ w ∈ wsX40, w ∈ wsX0_greatestStampHeard := by decide +kernel
  have hf9 := hts (.fieldLink RX0 9 "JoinedStores$Dots" "made" "[I") (by decide +kernel)
  have hf18 := hts (.fieldLink RX0 18 "JoinedStores$Dots" "stamps" "[I") (by decide +kernel)
  have hf41 := hts (.fieldLink RX0 41 "JoinedStores$Store" "heard" "[I") (by decide +kernel)
  refine lv_iconst (v := nI 0) hx hb dX0_greatestStampHeard_0 (by decide) ?_
  refine lv_istore_n (lv' := [(2, .int (nI (0))), (0, .ref (ad 5 (0))), (1, .ref (ad 4 (ia)))]) hx hb dX0_greatestStampHeard_1 rfl hl (by decide) rfl (fun ls hl => ?_)
  refine lv_iconst (v := nI 0) hx hb dX0_greatestStampHeard_2 (by decide) ?_
  refine lv_istore_n (lv' := [(3, .int (nI (0))), (2, .int (nI (0))), (0, .ref (ad 5 (0))), (1, .ref (ad 4 (ia)))]) hx hb dX0_greatestStampHeard_3 rfl hl (by decide) rfl (fun ls hl => ?_)
  have K4 : ∀ (n : Nat) (r : Nat) (d : Int32), (r ≤ 4) → (d = gsr I ia r) → 4 < r + n → ∀ (H : Heap) (locs : List Loc), va_P D vwCl (wS LC ad (wC G ad I)) H → va_S (wA LC ad) s.heap H locs → ∀ (ls : Array Slot), lv_has ls 5 [(3, .int (nI (r))), (2, .int (d)), (0, .ref (ad 5 (0))), (1, .ref (ad 4 (ia)))] → W p l e ({ frames := 1, cells := 0, slots := 0, locals := 32 } : Room) s m args below meth c H locs 0 0 Q (F0 m 4 ls []) := by
    intro n4
    induction n4 with
    | zero => intro r d hr4 hd hfu; exact absurd hfu (by omega)
    | succ n4 ih4 =>
      intro r d hr4 hd hfu H locs hW hS ls hl
      refine lv_iload_n hx hb dX0_greatestStampHeard_4 rfl (lv_at hl 0 rfl) ?_
      refine lv_iconst (v := nI 4) hx hb dX0_greatestStampHeard_5 (by decide) ?_
      refine lv_icmp_ge (tgt := 66) hx hb dX0_greatestStampHeard_6 (by decide) (fun c6_0 => ?_) (fun c6_0 => ?_)
      · replace c6_0 : 4 ≤ r := (nI_leI (show 4 < 2147483648 by omega) (show r < 2147483648 by omega)).mp c6_0
        refine lv_iload_n hx hb dX0_greatestStampHeard_66 rfl (lv_at hl 1 rfl) ?_
        rw [hQ]
        exact g_iret (wd := wC G ad) hx hb hr rfl hlocks hW hS (by have e4 : r = 4 := (by omega); subst e4; exact ⟨hd, rfl⟩) dX0_greatestStampHeard_67
      · replace c6_0 : ¬ (4 ≤ r) := fun h => c6_0 ((nI_leI (show 4 < 2147483648 by omega) (show r < 2147483648 by omega)).mpr h)
        refine lv_iconst (v := nI 0) hx hb dX0_greatestStampHeard_9 (by decide) ?_
        refine lv_istore (lv' := [(4, .int (nI (0))), (3, .int (nI (r))), (2, .int (d)), (0, .ref (ad 5 (0))), (1, .ref (ad 4 (ia)))]) hx hb dX0_greatestStampHeard_10 hl (by decide) rfl (fun ls hl => ?_)
        have K12 : ∀ (n : Nat) (k : Nat) (q : Int32), (k ≤ mk I r) → (q = gsk I ia r d k) → (mk I r) < k + n → ∀ (H : Heap) (locs : List Loc), va_P D vwCl (wS LC ad (wC G ad I)) H → va_S (wA LC ad) s.heap H locs → ∀ (ls : Array Slot), lv_has ls 5 [(4, .int (nI (k))), (3, .int (nI (r))), (2, .int (q)), (0, .ref (ad 5 (0))), (1, .ref (ad 4 (ia)))] → W p l e ({ frames := 1, cells := 0, slots := 0, locals := 32 } : Room) s m args below meth c H locs 0 0 Q (F0 m 12 ls []) := by
          intro n12
          induction n12 with
          | zero => intro k q hk hq hfu; exact absurd hfu (by omega)
          | succ n12 ih12 =>
            intro k q hk hq hfu H locs hW hS ls hl
            refine lv_iload hx hb dX0_greatestStampHeard_12 (lv_at hl 0 rfl) ?_
            refine lv_aload_n hx hb dX0_greatestStampHeard_14 rfl (lv_at hl 3 rfl) ?_
            refine r_get hx hb hts hown hK hW 5 (0) 0 (mC (by decide) (by decide)) rfl rfl hinX0 (by decide) hf9 rfl rfl dX0_greatestStampHeard_15 ?_
            refine lv_iload_n hx hb dX0_greatestStampHeard_18 rfl (lv_at hl 1 rfl) ?_
            refine rC_iald hx hb hK hW 12 (0) (r) (by decide) (by decide) (by decide) (show r < 4 by omega) rfl dX0_greatestStampHeard_19 (fun x2 ex2 => ?_)
            have hm_r := (hM r (by omega)).2
            refine r_top (show x2 = nI (mk I r) from (ex2.trans (hM r (by omega)).1)) ?_
            refine lv_icmp_ge (tgt := 60) hx hb dX0_greatestStampHeard_20 (by decide) (fun c20_2 => ?_) (fun c20_2 => ?_)
            · replace c20_2 : mk I r ≤ k := (nI_leI (show mk I r < 2147483648 by omega) (show k < 2147483648 by omega)).mp c20_2
              refine lv_iinc (v := nI (r + 1)) (lv' := [(3, .int (nI (r + 1))), (4, .int (nI (k))), (2, .int (q)), (0, .ref (ad 5 (0))), (1, .ref (ad 4 (ia)))]) hx hb dX0_greatestStampHeard_60 hl (k := 1) rfl (nI_inc r 1) (by decide) rfl (fun ls hl => ?_)
              refine lv_goto (tgt := 4) hx hb dX0_greatestStampHeard_63 (by decide) ?_
              exact ih4 (r + 1) (q) (by omega) (by rw [hq]; have e9 : k = mk I r := (by omega); subst e9; rw [hd]; rfl) (by omega) _ _ hW hS _ (lv_sub hl [0, 2, 3, 4] rfl)
            · replace c20_2 : ¬ (mk I r ≤ k) := fun h => c20_2 ((nI_leI (show mk I r < 2147483648 by omega) (show k < 2147483648 by omega)).mpr h)
              refine lv_aload_n hx hb dX0_greatestStampHeard_23 rfl (lv_at hl 4 rfl) ?_
              refine r_get hx hb hts hown hK hW 4 (ia) 0 (mC (by decide) (show ia < 59 by omega)) rfl rfl hinX4 (by decide) hf41 rfl rfl dX0_greatestStampHeard_24 ?_
              refine lv_iload_n hx hb dX0_greatestStampHeard_27 rfl (lv_at hl 1 rfl) ?_
              refine rC_iald hx hb hK hW 10 (ia) (r) (by decide) (by decide) (show ia < 59 by omega) (show r < 4 by omega) rfl dX0_greatestStampHeard_28 (fun x4 ex4 => ?_)
              refine lv_iload hx hb dX0_greatestStampHeard_29 (lv_at hl 0 rfl) ?_
              refine lv_iushr hx hb dX0_greatestStampHeard_31 rfl (lv_topi (fun x5 ex5 => ?_))
              replace ex5 : x5 = us x4 (nI (k)) := ex5
              refine lv_iconst (v := nI 1) hx hb dX0_greatestStampHeard_32 (by decide) ?_
              refine lv_iand hx hb dX0_greatestStampHeard_33 (lv_topi (fun x6 ex6 => ?_))
              refine lv_iconst (v := nI 1) hx hb dX0_greatestStampHeard_34 (by decide) ?_
              refine lv_icmp_ne (tgt := 54) hx hb dX0_greatestStampHeard_35 (by decide) (fun c35_6 => ?_) (fun c35_6 => ?_)
              · refine lv_iinc (v := nI (k + 1)) (lv' := [(4, .int (nI (k + 1))), (3, .int (nI (r))), (2, .int (q)), (0, .ref (ad 5 (0))), (1, .ref (ad 4 (ia)))]) hx hb dX0_greatestStampHeard_54 hl (k := 0) rfl (nI_inc k 1) (by decide) rfl (fun ls hl => ?_)
                refine lv_goto (tgt := 12) hx hb dX0_greatestStampHeard_57 (by decide) ?_
                exact ih12 (k + 1) (q) (by omega) (by subst ex6 ex5 ex4 ex2; simp_all [gsk, tb, mx]) (by omega) _ _ hW hS _ (lv_sub hl [0, 1, 2, 3, 4] rfl)
              · refine lv_iload_n hx hb dX0_greatestStampHeard_38 rfl (lv_at hl 2 rfl) ?_
                refine lv_aload_n hx hb dX0_greatestStampHeard_39 rfl (lv_at hl 3 rfl) ?_
                refine r_get hx hb hts hown hK hW 5 (0) 2 (mC (by decide) (by decide)) rfl rfl hinX0 (by decide) hf18 rfl rfl dX0_greatestStampHeard_40 ?_
                refine lv_iload_n hx hb dX0_greatestStampHeard_43 rfl (lv_at hl 1 rfl) ?_
                refine lv_iload hx hb dX0_greatestStampHeard_44 (lv_at hl 0 rfl) ?_
                refine g_pi (va_runSN (As := [.int (nI (r)), .int (nI (k))]) (rest := [.ref (ad 14 (0)), .int (q)]) ⟨hx, hb, hml, hown, hts⟩ (c_X5_placeOf l (r) (k)) ⟨va_cnB 2 hts gX0_greatestStampHeard_X5_placeOf_n33 rfl rfl rfl (hK.2 _ (List.mem_of_getElem? (i := 0) rfl)) (hts (.initialized RX5) (by decide +kernel)) (by decide +kernel) ⟨Nat.le_of_ble_eq_true rfl, Nat.le_of_ble_eq_true rfl⟩, hts (.static yX5_placeOf) (by decide +kernel), trivial⟩ p_preS rfl rfl hl.1 rfl (lv_room (Nat.le_of_ble_eq_true rfl)) dX0_greatestStampHeard_46 ⟨Nat.le_refl _, Nat.le_refl _⟩) hW hS (fun H locs hW hS => ?_)
                refine rC_iald hx hb hK hW 14 (0) (r * 31 + k) (by decide) (by decide) (by decide) (show r * 31 + k < 124 by omega) rfl dX0_greatestStampHeard_49 (fun x8 ex8 => ?_)
                refine va_mmax hx hb (hml.trans hl.1.symm) hown (hts (.methodLink RX0 46 Lib.Math.max.name) (by decide +kernel)) (hts (.static Lib.Math.max.name) (by decide +kernel)) (hts (.initialized "java/lang/Math") (by decide +kernel)) (hts (.code Lib.Math.max.name Lib.Math.max.code 2 (some .int)) (by decide +kernel)) (by decide) (by decide) (Nat.zero_le _) (Nat.zero_le _) dX0_greatestStampHeard_50 (lv_topi (fun x9 ex9 => ?_))
                refine lv_istore_n (lv' := [(2, .int (x9)), (4, .int (nI (k))), (3, .int (nI (r))), (0, .ref (ad 5 (0))), (1, .ref (ad 4 (ia)))]) hx hb dX0_greatestStampHeard_53 rfl hl (by decide) rfl (fun ls hl => ?_)
                refine lv_iinc (v := nI (k + 1)) (lv' := [(4, .int (nI (k + 1))), (2, .int (x9)), (3, .int (nI (r))), (0, .ref (ad 5 (0))), (1, .ref (ad 4 (ia)))]) hx hb dX0_greatestStampHeard_54 hl (k := 1) rfl (nI_inc k 1) (by decide) rfl (fun ls hl => ?_)
                refine lv_goto (tgt := 12) hx hb dX0_greatestStampHeard_57 (by decide) ?_
                exact ih12 (k + 1) (x9) (by omega) (by subst ex9 ex8 ex6 ex5 ex4 ex2; simp_all [gsk, tb, mx]) (by omega) _ _ hW hS _ (lv_sub hl [0, 2, 1, 3, 4] rfl)
        exact K12 ((mk I r) + 1) (0) (d) (Nat.zero_le _) rfl (by omega) _ _ hW hS _ (lv_sub hl [0, 1, 2, 3, 4] rfl)
  exact K4 (4 + 1) (0) (nI (0)) (by decide) rfl (by omega) _ _ hW hS _ (lv_sub hl [0, 1, 2, 3] rfl)

set_option maxHeartbeats 4000000 in
set_option maxRecDepth 100000 in
theorem c_X0_gather (l : Launch) (D : va_G) (G : Nat → ClassId) (ad : Nat → Nat → Nat) (hI : wI LC ad) (I : St) (ia o : Nat) (hia : ia < 59) (hM : okM I) : Met l yX0_gather wsX0_gather ({ frames := 1, cells := 0, slots := 0, locals := 21 } : Room) (gPre D G LC ad [.ref (ad 5 (0)), .ref (ad 4 (ia)), .int (nI (o))] (wC G ad I)) (gQi D LC ad (wC G ad) (fun r u => r = nI (gl I ia o).length ∧ u = gst I (gl I ia o))) 0 0 (wA LC ad) := by
  refine g_entry (C := RX0) (cc := cX0_gather) (maxL := 7) (ret := (some .int)) rfl (by decide) rfl (Nat.le_of_ble_eq_true rfl) (fun p e s m args below meth c Q ls hQ hx hb hr hts hown hlocks hml hW hK hl => ?_)
  have hl : lv_has ls 7 [(0, .ref (ad 5 (0))), (1, .ref (ad 4 (ia))), (2, .int (nI (o)))] := hl
  have hS := va_S.rf (A := wA LC ad) (H0 := s.heap)
  have hinX0 : ∀ w ∈ wsX00, w ∈ wsX0_gather := by decide +kernel
  have hinX4 : ∀ w ∈ wsX40, w ∈ wsX0_gather := by decide +kernel
  have hf9 := hts (.fieldLink RX0 9 "JoinedStores$Dots" "made" "[I") (by decide +kernel)
  have hf21 := hts (.fieldLink RX0 21 "JoinedStores$Dots" "objects" "[I") (by decide +kernel)
  have hf24 := hts (.fieldLink RX0 24 "JoinedStores$Dots" "gathered" "[I") (by decide +kernel)
  have hf51 := hts (.fieldLink RX0 51 "JoinedStores$Store" "alive" "[I") (by decide +kernel)
  refine lv_iconst (v := nI 0) hx hb dX0_gather_0 (by decide) ?_
  refine lv_istore_n (lv' := [(3, .int (nI (0))), (0, .ref (ad 5 (0))), (1, .ref (ad 4 (ia))), (2, .int (nI (o)))]) hx hb dX0_gather_1 rfl hl (by decide) rfl (fun ls hl => ?_)
  refine lv_iconst (v := nI 0) hx hb dX0_gather_2 (by decide) ?_
  refine lv_istore (lv' := [(4, .int (nI (0))), (3, .int (nI (0))), (0, .ref (ad 5 (0))), (1, .ref (ad 4 (ia))), (2, .int (nI (o)))]) hx hb dX0_gather_3 hl (by decide) rfl (fun ls hl => ?_)
  have K5 : ∀ (n : Nat) (r : Nat) (z : Nat) (g : List Nat), (r ≤ 4) → (z = g.length) → (g = flt I ia o (als I r)) → 4 < r + n → ∀ (H : Heap) (locs : List Loc), va_P D vwCl (wS LC ad (wC G ad (gst I g))) H → va_S (wA LC ad) s.heap H locs → ∀ (ls : Array Slot), lv_has ls 7 [(4, .int (nI (r))), (3, .int (nI (z))), (0, .ref (ad 5 (0))), (1, .ref (ad 4 (ia))), (2, .int (nI (o)))] → W p l e ({ frames := 1, cells := 0, slots := 0, locals := 21 } : Room) s m args below meth c H locs 0 0 Q (F0 m 5 ls []) := by
    intro n5
    induction n5 with
    | zero => intro r z g hr4 hz hg hfu; exact absurd hfu (by omega)
    | succ n5 ih5 =>
      intro r z g hr4 hz hg hfu H locs hW hS ls hl
      refine lv_iload hx hb dX0_gather_5 (lv_at hl 0 rfl) ?_
      refine lv_iconst (v := nI 4) hx hb dX0_gather_7 (by decide) ?_
      refine lv_icmp_ge (tgt := 85) hx hb dX0_gather_8 (by decide) (fun c8_0 => ?_) (fun c8_0 => ?_)
      · replace c8_0 : 4 ≤ r := (nI_leI (show 4 < 2147483648 by omega) (show r < 2147483648 by omega)).mp c8_0
        refine lv_iload_n hx hb dX0_gather_85 rfl (lv_at hl 1 rfl) ?_
        rw [hQ]
        exact g_iret (wd := wC G ad) hx hb hr rfl hlocks hW hS (by have e4 : r = 4 := (by omega); subst e4; subst hg; exact ⟨by rw [hz]; rfl, rfl⟩) dX0_gather_86
      · replace c8_0 : ¬ (4 ≤ r) := fun h => c8_0 ((nI_leI (show 4 < 2147483648 by omega) (show r < 2147483648 by omega)).mpr h)
        refine lv_iconst (v := nI 0) hx hb dX0_gather_11 (by decide) ?_
        refine lv_istore (lv' := [(5, .int (nI (0))), (4, .int (nI (r))), (3, .int (nI (z))), (0, .ref (ad 5 (0))), (1, .ref (ad 4 (ia))), (2, .int (nI (o)))]) hx hb dX0_gather_12 hl (by decide) rfl (fun ls hl => ?_)
        have K14 : ∀ (n : Nat) (k : Nat) (z : Nat) (g : List Nat), (k ≤ mk I r) → (z = g.length) → (g = flt I ia o (als I r ++ rowl k r)) → (mk I r) < k + n → ∀ (H : Heap) (locs : List Loc), va_P D vwCl (wS LC ad (wC G ad (gst I g))) H → va_S (wA LC ad) s.heap H locs → ∀ (ls : Array Slot), lv_has ls 7 [(5, .int (nI (k))), (4, .int (nI (r))), (3, .int (nI (z))), (0, .ref (ad 5 (0))), (1, .ref (ad 4 (ia))), (2, .int (nI (o)))] → W p l e ({ frames := 1, cells := 0, slots := 0, locals := 21 } : Room) s m args below meth c H locs 0 0 Q (F0 m 14 ls []) := by
          intro n14
          induction n14 with
          | zero => intro k z g hk hz hg hfu; exact absurd hfu (by omega)
          | succ n14 ih14 =>
            intro k z g hk hz hg hfu H locs hW hS ls hl
            refine lv_iload hx hb dX0_gather_14 (lv_at hl 0 rfl) ?_
            refine lv_aload_n hx hb dX0_gather_16 rfl (lv_at hl 3 rfl) ?_
            refine r_get hx hb hts hown hK hW 5 (0) 0 (mC (by decide) (by decide)) rfl rfl hinX0 (by decide) hf9 rfl rfl dX0_gather_17 ?_
            refine lv_iload hx hb dX0_gather_20 (lv_at hl 1 rfl) ?_
            refine rC_iald hx hb hK hW 12 (0) (r) (by decide) (by decide) (by decide) (show r < 4 by omega) rfl dX0_gather_22 (fun x2 ex2 => ?_)
            have hm_r := (hM r (by omega)).2
            refine r_top (show x2 = nI (mk I r) from (ex2.trans ((gst_n (by decide)).trans (hM r (by omega)).1))) ?_
            refine lv_icmp_ge (tgt := 79) hx hb dX0_gather_23 (by decide) (fun c23_2 => ?_) (fun c23_2 => ?_)
            · replace c23_2 : mk I r ≤ k := (nI_leI (show mk I r < 2147483648 by omega) (show k < 2147483648 by omega)).mp c23_2
              refine lv_iinc (v := nI (r + 1)) (lv' := [(4, .int (nI (r + 1))), (5, .int (nI (k))), (3, .int (nI (z))), (0, .ref (ad 5 (0))), (1, .ref (ad 4 (ia))), (2, .int (nI (o)))]) hx hb dX0_gather_79 hl (k := 1) rfl (nI_inc r 1) (by decide) rfl (fun ls hl => ?_)
              refine lv_goto (tgt := 5) hx hb dX0_gather_82 (by decide) ?_
              exact ih5 (r + 1) (z) (g) (by omega) hz (by have e9 : k = mk I r := (by omega); subst e9; exact hg) (by omega) _ _ hW hS _ (lv_sub hl [0, 2, 3, 4, 5] rfl)
            · replace c23_2 : ¬ (mk I r ≤ k) := fun h => c23_2 ((nI_leI (show mk I r < 2147483648 by omega) (show k < 2147483648 by omega)).mpr h)
              have hzz : z ≤ r * 31 + k := hz ▸ hg ▸ Nat.le_trans (flt_len _ _ _ _) (by have q1 := als_len hM r hr4; simp only [List.length_append, rowl_len]; omega)
              have hd1 : (r * 31 + k) / 31 = r := by omega
              have hd2 : (r * 31 + k) % 31 = k := by omega
              refine lv_iload hx hb dX0_gather_26 (lv_at hl 1 rfl) ?_
              refine lv_iload hx hb dX0_gather_28 (lv_at hl 0 rfl) ?_
              refine g_pi (va_runSN (As := [.int (nI (r)), .int (nI (k))]) (rest := []) ⟨hx, hb, hml, hown, hts⟩ (c_X5_placeOf l (r) (k)) ⟨va_cnB 2 hts gX0_gather_X5_placeOf_n33 rfl rfl rfl (hK.2 _ (List.mem_of_getElem? (i := 0) rfl)) (hts (.initialized RX5) (by decide +kernel)) (by decide +kernel) ⟨Nat.le_of_ble_eq_true rfl, Nat.le_of_ble_eq_true rfl⟩, hts (.static yX5_placeOf) (by decide +kernel), trivial⟩ p_preS rfl rfl hl.1 rfl (lv_room (Nat.le_of_ble_eq_true rfl)) dX0_gather_30 ⟨Nat.le_refl _, Nat.le_refl _⟩) hW hS (fun H locs hW hS => ?_)
              refine lv_istore (lv' := [(6, .int (nI (r * 31 + k))), (5, .int (nI (k))), (4, .int (nI (r))), (3, .int (nI (z))), (0, .ref (ad 5 (0))), (1, .ref (ad 4 (ia))), (2, .int (nI (o)))]) hx hb dX0_gather_33 hl (by decide) rfl (fun ls hl => ?_)
              refine lv_aload_n hx hb dX0_gather_35 rfl (lv_at hl 5 rfl) ?_
              refine r_get hx hb hts hown hK hW 4 (ia) 1 (mC (by decide) (show ia < 59 by omega)) rfl rfl hinX4 (by decide) hf51 rfl rfl dX0_gather_36 ?_
              refine lv_iload hx hb dX0_gather_39 (lv_at hl 2 rfl) ?_
              refine rC_iald hx hb hK hW 11 (ia) (r) (by decide) (by decide) (show ia < 59 by omega) (show r < 4 by omega) rfl dX0_gather_41 (fun x4 ex4 => ?_)
              refine lv_iload hx hb dX0_gather_42 (lv_at hl 1 rfl) ?_
              refine lv_iushr hx hb dX0_gather_44 rfl (lv_topi (fun x5 ex5 => ?_))
              replace ex5 : x5 = us x4 (nI (k)) := ex5
              refine lv_iconst (v := nI 1) hx hb dX0_gather_45 (by decide) ?_
              refine lv_iand hx hb dX0_gather_46 (lv_topi (fun x6 ex6 => ?_))
              refine lv_iconst (v := nI 1) hx hb dX0_gather_47 (by decide) ?_
              refine lv_icmp_ne (tgt := 73) hx hb dX0_gather_48 (by decide) (fun c48_6 => ?_) (fun c48_6 => ?_)
              · refine lv_iinc (v := nI (k + 1)) (lv' := [(5, .int (nI (k + 1))), (6, .int (nI (r * 31 + k))), (4, .int (nI (r))), (3, .int (nI (z))), (0, .ref (ad 5 (0))), (1, .ref (ad 4 (ia))), (2, .int (nI (o)))]) hx hb dX0_gather_73 hl (k := 1) rfl (nI_inc k 1) (by decide) rfl (fun ls hl => ?_)
                refine lv_goto (tgt := 14) hx hb dX0_gather_76 (by decide) ?_
                exact ih14 (k + 1) (z) (g) (by omega) hz (by rw [rowl_s, ← List.append_assoc, flt_snoc, if_neg (gp_a hd1 hd2 (ex4.trans (gst_n (by decide))) ex5 ex6 c48_6), hg]) (by omega) _ _ hW hS _ (lv_sub hl [0, 2, 3, 4, 5, 6] rfl)
              · refine lv_aload_n hx hb dX0_gather_51 rfl (lv_at hl 4 rfl) ?_
                refine r_get hx hb hts hown hK hW 5 (0) 3 (mC (by decide) (by decide)) rfl rfl hinX0 (by decide) hf21 rfl rfl dX0_gather_52 ?_
                refine lv_iload hx hb dX0_gather_55 (lv_at hl 0 rfl) ?_
                refine rC_iald hx hb hK hW 15 (0) (r * 31 + k) (by decide) (by decide) (by decide) (show r * 31 + k < 124 by omega) rfl dX0_gather_57 (fun x8 ex8 => ?_)
                refine lv_iload_n hx hb dX0_gather_58 rfl (lv_at hl 6 rfl) ?_
                refine lv_icmp_ne (tgt := 73) hx hb dX0_gather_59 (by decide) (fun c59_8 => ?_) (fun c59_8 => ?_)
                · refine lv_iinc (v := nI (k + 1)) (lv' := [(5, .int (nI (k + 1))), (6, .int (nI (r * 31 + k))), (4, .int (nI (r))), (3, .int (nI (z))), (0, .ref (ad 5 (0))), (1, .ref (ad 4 (ia))), (2, .int (nI (o)))]) hx hb dX0_gather_73 hl (k := 1) rfl (nI_inc k 1) (by decide) rfl (fun ls hl => ?_)
                  refine lv_goto (tgt := 14) hx hb dX0_gather_76 (by decide) ?_
                  exact ih14 (k + 1) (z) (g) (by omega) hz (by rw [rowl_s, ← List.append_assoc, flt_snoc, if_neg (gp_b (ex8.trans (gst_n (by decide))) c59_8), hg]) (by omega) _ _ hW hS _ (lv_sub hl [0, 2, 3, 4, 5, 6] rfl)
                · refine lv_aload_n hx hb dX0_gather_62 rfl (lv_at hl 4 rfl) ?_
                  refine r_get hx hb hts hown hK hW 5 (0) 4 (mC (by decide) (by decide)) rfl rfl hinX0 (by decide) hf24 rfl rfl dX0_gather_63 ?_
                  refine lv_iload_n hx hb dX0_gather_66 rfl (lv_at hl 3 rfl) ?_
                  refine lv_iload hx hb dX0_gather_67 (lv_at hl 0 rfl) ?_
                  refine rC_iast hx hb hK hI hW hS 20 (0) (z) (by decide) (by decide) (by decide) (show z < 124 by omega) rfl dX0_gather_69 (fun I10 H locs eI10 hW hS => ?_)
                  refine lv_iinc (v := nI (z + 1)) (lv' := [(3, .int (nI (z + 1))), (6, .int (nI (r * 31 + k))), (5, .int (nI (k))), (4, .int (nI (r))), (0, .ref (ad 5 (0))), (1, .ref (ad 4 (ia))), (2, .int (nI (o)))]) hx hb dX0_gather_70 hl (k := 3) rfl (nI_inc z 1) (by decide) rfl (fun ls hl => ?_)
                  refine lv_iinc (v := nI (k + 1)) (lv' := [(5, .int (nI (k + 1))), (3, .int (nI (z + 1))), (6, .int (nI (r * 31 + k))), (4, .int (nI (r))), (0, .ref (ad 5 (0))), (1, .ref (ad 4 (ia))), (2, .int (nI (o)))]) hx hb dX0_gather_73 hl (k := 2) rfl (nI_inc k 1) (by decide) rfl (fun ls hl => ?_)
                  refine lv_goto (tgt := 14) hx hb dX0_gather_76 (by decide) ?_
                  have e9 : I10 = gst I (g ++ [r * 31 + k]) := by
                    subst eI10 ex8 ex6 ex5 ex4 ex2
                    exact gst_s _ _ _ _ hz
                  have hW9 := hW
                  rw [e9] at hW9
                  exact ih14 (k + 1) (z + 1) (g ++ [r * 31 + k]) (by omega) (by simp [hz]) (by rw [rowl_s, ← List.append_assoc, flt_snoc, if_pos (gp_y hd1 hd2 (ex4.trans (gst_n (by decide))) ex5 ex6 c48_6 (ex8.trans (gst_n (by decide))) c59_8), hg]) (by omega) _ _ hW9 hS _ (lv_sub hl [0, 3, 1, 4, 5, 6] rfl)
        exact K14 ((mk I r) + 1) (0) (z) (g) (Nat.zero_le _) hz (by rw [rowl_0, List.append_nil]; exact hg) (by omega) _ _ hW hS _ (lv_sub hl [0, 1, 2, 3, 4, 5] rfl)
  have e9 : I = gst I ([]) := by
    exact (gst_0 I).symm
  have hW9 := hW
  rw [e9] at hW9
  exact K5 (4 + 1) (0) (0) ([]) (by decide) rfl rfl (by omega) _ _ hW9 hS _ (lv_sub hl [0, 1, 2, 3, 4] rfl)

set_option maxHeartbeats 4000000 in
set_option maxRecDepth 100000 in
theorem c_X0_markBetween (l : Launch) (D : va_G) (G : Nat → ClassId) (ad : Nat → Nat → Nat) (hI : wI LC ad) (I : St) (ia o ib : Nat) (lo hi : Int32) (hia : ia < 59) (hib : ib < 59) (hM : okM I) : Met l yX0_markBetween wsX0_markBetween ({ frames := 2, cells := 0, slots := 0, locals := 47 } : Room) (gPre D G LC ad [.ref (ad 5 (0)), .ref (ad 4 (ia)), .int (nI (o)), .int (lo), .int (hi), .ref (ad 4 (ib))] (wC G ad I)) (gQv D LC ad (wC G ad) (fun u => u = mb I ia o lo hi ib)) 0 0 (wA LC ad) := by
  refine g_entry (C := RX0) (cc := cX0_markBetween) (maxL := 9) (ret := none) rfl (by decide) rfl (Nat.le_of_ble_eq_true rfl) (fun p e s m args below meth c Q ls hQ hx hb hr hts hown hlocks hml hW hK hl => ?_)
  have hl : lv_has ls 9 [(0, .ref (ad 5 (0))), (1, .ref (ad 4 (ia))), (2, .int (nI (o))), (3, .int (lo)), (4, .int (hi)), (5, .ref (ad 4 (ib)))] := hl
  have hS := va_S.rf (A := wA LC ad) (H0 := s.heap)
  have hinX0 : ∀ w ∈ wsX00, w ∈ wsX0_markBetween := by decide +kernel
  have hf15 := hts (.fieldLink RX0 15 "JoinedStores$Dots" "values" "[I") (by decide +kernel)
  have hf24 := hts (.fieldLink RX0 24 "JoinedStores$Dots" "gathered" "[I") (by decide +kernel)
  refine lv_aload_n hx hb dX0_markBetween_0 rfl (lv_at hl 0 rfl) ?_
  refine lv_aload_n hx hb dX0_markBetween_1 rfl (lv_at hl 1 rfl) ?_
  refine lv_iload_n hx hb dX0_markBetween_2 rfl (lv_at hl 2 rfl) ?_
  refine g_ci (va_runV (As := [.ref (ad 4 (ia)), .int (nI (o))]) (rest := []) ⟨hx, hb, hml, hown, hts⟩ (c_X0_gather l D G ad hI I ia o (show ia < 59 by omega) hM) (cwV 2 hts gX0_markBetween_X0_gather rfl rfl rfl (by decide +kernel) ⟨Nat.le_of_ble_eq_true rfl, Nat.le_of_ble_eq_true rfl⟩) (g_preV hK hW 5 (0) (mC (by decide) (by decide)) rfl rfl) rfl rfl hl.1 rfl (lv_room (Nat.le_of_ble_eq_true rfl)) dX0_markBetween_3 ⟨Nat.le_refl _, Nat.le_refl _⟩) hS (fun x1 I1 H locs hp hW hS => ?_)
  obtain ⟨ex1, eI1⟩ := hp
  refine r_top ex1 ?_
  have hgl := gl_len hM ia o
  refine lv_istore (lv' := [(6, .int (nI ((gl I ia o).length))), (0, .ref (ad 5 (0))), (1, .ref (ad 4 (ia))), (2, .int (nI (o))), (3, .int (lo)), (4, .int (hi)), (5, .ref (ad 4 (ib)))]) hx hb dX0_markBetween_6 hl (by decide) rfl (fun ls hl => ?_)
  refine lv_iconst (v := nI 0) hx hb dX0_markBetween_8 (by decide) ?_
  refine lv_istore (lv' := [(7, .int (nI (0))), (6, .int (nI ((gl I ia o).length))), (0, .ref (ad 5 (0))), (1, .ref (ad 4 (ia))), (2, .int (nI (o))), (3, .int (lo)), (4, .int (hi)), (5, .ref (ad 4 (ib)))]) hx hb dX0_markBetween_9 hl (by decide) rfl (fun ls hl => ?_)
  have K11 : ∀ (n : Nat) (i : Nat), (i ≤ (gl I ia o).length) → (gl I ia o).length < i + n → ∀ (H : Heap) (locs : List Loc), va_P D vwCl (wS LC ad (wC G ad (mbS I lo hi ib (gst I (gl I ia o)) ((gl I ia o).take i)))) H → va_S (wA LC ad) s.heap H locs → ∀ (ls : Array Slot), lv_has ls 9 [(7, .int (nI (i))), (6, .int (nI ((gl I ia o).length))), (0, .ref (ad 5 (0))), (1, .ref (ad 4 (ia))), (2, .int (nI (o))), (3, .int (lo)), (4, .int (hi)), (5, .ref (ad 4 (ib)))] → W p l e ({ frames := 2, cells := 0, slots := 0, locals := 47 } : Room) s m args below meth c H locs 0 0 Q (F0 m 11 ls []) := by
    intro n11
    induction n11 with
    | zero => intro i hi9 hfu; exact absurd hfu (by omega)
    | succ n11 ih11 =>
      intro i hi9 hfu H locs hW hS ls hl
      refine lv_iload hx hb dX0_markBetween_11 (lv_at hl 0 rfl) ?_
      refine lv_iload hx hb dX0_markBetween_13 (lv_at hl 1 rfl) ?_
      refine lv_icmp_ge (tgt := 76) hx hb dX0_markBetween_15 (by decide) (fun c15_1 => ?_) (fun c15_1 => ?_)
      · replace c15_1 : (gl I ia o).length ≤ i := (nI_leI (show (gl I ia o).length < 2147483648 by omega) (show i < 2147483648 by omega)).mp c15_1
        rw [hQ]
        exact g_vret (wd := wC G ad) hx hb hr hlocks hW hS (by have e4 : i = (gl I ia o).length := (by omega); subst e4; rw [List.take_length]; rfl) dX0_markBetween_76
      · replace c15_1 : ¬ ((gl I ia o).length ≤ i) := fun h => c15_1 ((nI_leI (show (gl I ia o).length < 2147483648 by omega) (show i < 2147483648 by omega)).mpr h)
        refine lv_aload_n hx hb dX0_markBetween_18 rfl (lv_at hl 2 rfl) ?_
        refine r_get hx hb hts hown hK hW 5 (0) 1 (mC (by decide) (by decide)) rfl rfl hinX0 (by decide) hf15 rfl rfl dX0_markBetween_19 ?_
        refine lv_aload_n hx hb dX0_markBetween_22 rfl (lv_at hl 2 rfl) ?_
        refine r_get hx hb hts hown hK hW 5 (0) 4 (mC (by decide) (by decide)) rfl rfl hinX0 (by decide) hf24 rfl rfl dX0_markBetween_23 ?_
        refine lv_iload hx hb dX0_markBetween_26 (lv_at hl 0 rfl) ?_
        refine rC_iald hx hb hK hW 20 (0) (i) (by decide) (by decide) (by decide) (show i < 124 by omega) rfl dX0_markBetween_28 (fun x3 ex3 => ?_)
        have hg1 := ((okG_gl hM ia o).2 i (by omega)).2
        refine r_top (show x3 = nI ((gl I ia o).getD i 0) from (ex3.trans ((mbS_n (by decide) _).trans ((okG_gl hM ia o).2 i (by omega)).1))) ?_
        refine rC_iald hx hb hK hW 13 (0) ((gl I ia o).getD i 0) (by decide) (by decide) (by decide) (show (gl I ia o).getD i 0 < 124 by omega) rfl dX0_markBetween_29 (fun x4 ex4 => ?_)
        refine lv_istore (lv' := [(8, .int (x4)), (7, .int (nI (i))), (6, .int (nI ((gl I ia o).length))), (0, .ref (ad 5 (0))), (1, .ref (ad 4 (ia))), (2, .int (nI (o))), (3, .int (lo)), (4, .int (hi)), (5, .ref (ad 4 (ib)))]) hx hb dX0_markBetween_30 hl (by decide) rfl (fun ls hl => ?_)
        refine lv_iload hx hb dX0_markBetween_32 (lv_at hl 0 rfl) ?_
        refine lv_iload_n hx hb dX0_markBetween_34 rfl (lv_at hl 6 rfl) ?_
        refine lv_icmp_lt (tgt := 70) hx hb dX0_markBetween_35 (by decide) (fun c35_4 => ?_) (fun c35_4 => ?_)
        · refine lv_iinc (v := nI (i + 1)) (lv' := [(7, .int (nI (i + 1))), (8, .int (x4)), (6, .int (nI ((gl I ia o).length))), (0, .ref (ad 5 (0))), (1, .ref (ad 4 (ia))), (2, .int (nI (o))), (3, .int (lo)), (4, .int (hi)), (5, .ref (ad 4 (ib)))]) hx hb dX0_markBetween_70 hl (k := 1) rfl (nI_inc i 1) (by decide) rfl (fun ls hl => ?_)
          refine lv_goto (tgt := 11) hx hb dX0_markBetween_73 (by decide) ?_
          have e9 : mbS I lo hi ib (gst I (gl I ia o)) ((gl I ia o).take i) = mbS I lo hi ib (gst I (gl I ia o)) ((gl I ia o).take (i + 1)) := by
            rw [mbS_t (by omega)]
            exact hearf_a (ex4.trans ((mbS_n (by decide) _).trans (gst_n (by decide)))) c35_4
          have hW9 := hW
          rw [e9] at hW9
          exact ih11 (i + 1) (by omega) (by omega) _ _ hW9 hS _ (lv_sub hl [0, 2, 3, 4, 5, 6, 7, 8] rfl)
        · refine lv_iload hx hb dX0_markBetween_38 (lv_at hl 0 rfl) ?_
          refine lv_iload hx hb dX0_markBetween_40 (lv_at hl 7 rfl) ?_
          refine lv_icmp_gt (tgt := 70) hx hb dX0_markBetween_42 (by decide) (fun c42_5 => ?_) (fun c42_5 => ?_)
          · refine lv_iinc (v := nI (i + 1)) (lv' := [(7, .int (nI (i + 1))), (8, .int (x4)), (6, .int (nI ((gl I ia o).length))), (0, .ref (ad 5 (0))), (1, .ref (ad 4 (ia))), (2, .int (nI (o))), (3, .int (lo)), (4, .int (hi)), (5, .ref (ad 4 (ib)))]) hx hb dX0_markBetween_70 hl (k := 1) rfl (nI_inc i 1) (by decide) rfl (fun ls hl => ?_)
            refine lv_goto (tgt := 11) hx hb dX0_markBetween_73 (by decide) ?_
            have e9 : mbS I lo hi ib (gst I (gl I ia o)) ((gl I ia o).take i) = mbS I lo hi ib (gst I (gl I ia o)) ((gl I ia o).take (i + 1)) := by
              rw [mbS_t (by omega)]
              exact hearf_b (ex4.trans ((mbS_n (by decide) _).trans (gst_n (by decide)))) c42_5
            have hW9 := hW
            rw [e9] at hW9
            exact ih11 (i + 1) (by omega) (by omega) _ _ hW9 hS _ (lv_sub hl [0, 2, 3, 4, 5, 6, 7, 8] rfl)
          · refine lv_aload hx hb dX0_markBetween_45 (lv_at hl 8 rfl) ?_
            refine lv_aload_n hx hb dX0_markBetween_47 rfl (lv_at hl 3 rfl) ?_
            refine r_get hx hb hts hown hK hW 5 (0) 4 (mC (by decide) (by decide)) rfl rfl hinX0 (by decide) hf24 rfl rfl dX0_markBetween_48 ?_
            refine lv_iload hx hb dX0_markBetween_51 (lv_at hl 1 rfl) ?_
            refine rC_iald hx hb hK hW 20 (0) (i) (by decide) (by decide) (by decide) (show i < 124 by omega) rfl dX0_markBetween_53 (fun x7 ex7 => ?_)
            have hg1 := ((okG_gl hM ia o).2 i (by omega)).2
            refine r_top (show x7 = nI ((gl I ia o).getD i 0) from (ex7.trans ((mbS_n (by decide) _).trans ((okG_gl hM ia o).2 i (by omega)).1))) ?_
            refine lv_bipush (v := nI 31) hx hb dX0_markBetween_54 (by decide) ?_
            refine lv_idiv hx hb dX0_markBetween_56 (by decide) (r_top (pk_div (show (gl I ia o).getD i 0 < 2147483648 by omega) (by decide) (by decide)) ?_)
            refine lv_aload_n hx hb dX0_markBetween_57 rfl (lv_at hl 3 rfl) ?_
            refine r_get hx hb hts hown hK hW 5 (0) 4 (mC (by decide) (by decide)) rfl rfl hinX0 (by decide) hf24 rfl rfl dX0_markBetween_58 ?_
            refine lv_iload hx hb dX0_markBetween_61 (lv_at hl 1 rfl) ?_
            refine rC_iald hx hb hK hW 20 (0) (i) (by decide) (by decide) (by decide) (show i < 124 by omega) rfl dX0_markBetween_63 (fun x8 ex8 => ?_)
            have hg1 := ((okG_gl hM ia o).2 i (by omega)).2
            refine r_top (show x8 = nI ((gl I ia o).getD i 0) from (ex8.trans ((mbS_n (by decide) _).trans ((okG_gl hM ia o).2 i (by omega)).1))) ?_
            refine lv_bipush (v := nI 31) hx hb dX0_markBetween_64 (by decide) ?_
            refine lv_irem hx hb dX0_markBetween_66 (by decide) (r_top (pk_rem (show (gl I ia o).getD i 0 < 2147483648 by omega) (by decide) (by decide)) ?_)
            refine g_cv (va_runV (As := [.int (nI (((gl I ia o).getD i 0) / 31)), .int (nI (((gl I ia o).getD i 0) % 31))]) (rest := []) ⟨hx, hb, hml, hown, hts⟩ (c_X4_hear l D G ad hI (mbS I lo hi ib (gst I (gl I ia o)) ((gl I ia o).take i)) ib (((gl I ia o).getD i 0) / 31) (((gl I ia o).getD i 0) % 31) (show ib < 59 by omega) (show ((gl I ia o).getD i 0) / 31 < 4 by omega)) (cwV 2 hts gX0_markBetween_X4_hear rfl rfl rfl (by decide +kernel) ⟨Nat.le_of_ble_eq_true rfl, Nat.le_of_ble_eq_true rfl⟩) (g_preV hK hW 4 (ib) (mC (by decide) (show ib < 59 by omega)) rfl rfl) rfl rfl hl.1 rfl (lv_room (Nat.le_of_ble_eq_true rfl)) dX0_markBetween_67 ⟨Nat.le_refl _, Nat.le_refl _⟩) hS (fun I9 H locs hp hW hS => ?_)
            have eI9 : I9 = up3 (mbS I lo hi ib (gst I (gl I ia o)) ((gl I ia o).take i)) 10 ib (((gl I ia o).getD i 0) / 31) ((mbS I lo hi ib (gst I (gl I ia o)) ((gl I ia o).take i)) 10 ib (((gl I ia o).getD i 0) / 31) ||| b1 (((gl I ia o).getD i 0) % 31)) := hp
            refine lv_iinc (v := nI (i + 1)) (lv' := [(7, .int (nI (i + 1))), (8, .int (x4)), (6, .int (nI ((gl I ia o).length))), (0, .ref (ad 5 (0))), (1, .ref (ad 4 (ia))), (2, .int (nI (o))), (3, .int (lo)), (4, .int (hi)), (5, .ref (ad 4 (ib)))]) hx hb dX0_markBetween_70 hl (k := 1) rfl (nI_inc i 1) (by decide) rfl (fun ls hl => ?_)
            refine lv_goto (tgt := 11) hx hb dX0_markBetween_73 (by decide) ?_
            have e9 : I9 = mbS I lo hi ib (gst I (gl I ia o)) ((gl I ia o).take (i + 1)) := by
              rw [mbS_t (by omega), eI9]
              exact hearf_y (ex4.trans ((mbS_n (by decide) _).trans (gst_n (by decide)))) c35_4 c42_5
            have hW9 := hW
            rw [e9] at hW9
            exact ih11 (i + 1) (by omega) (by omega) _ _ hW9 hS _ (lv_sub hl [0, 2, 3, 4, 5, 6, 7, 8] rfl)
  have e9 : I1 = mbS I lo hi ib (gst I (gl I ia o)) ((gl I ia o).take 0) := by
    subst eI1 ex1
    rfl
  have hW9 := hW
  rw [e9] at hW9
  exact K11 ((gl I ia o).length + 1) (0) (Nat.zero_le _) (by omega) _ _ hW9 hS _ (lv_sub hl [0, 1, 2, 3, 4, 5, 6, 7] rfl)

set_option maxHeartbeats 4000000 in
set_option maxRecDepth 100000 in
theorem c_X0_markAll (l : Launch) (D : va_G) (G : Nat → ClassId) (ad : Nat → Nat → Nat) (hI : wI LC ad) (I : St) (ia o ib : Nat) (hia : ia < 59) (hib : ib < 59) (hM : okM I) : Met l yX0_markAll wsX0_markAll ({ frames := 3, cells := 0, slots := 0, locals := 75 } : Room) (gPre D G LC ad [.ref (ad 5 (0)), .ref (ad 4 (ia)), .int (nI (o)), .ref (ad 4 (ib))] (wC G ad I)) (gQv D LC ad (wC G ad) (fun u => u = mb I ia o (-2147483648) 2147483647 ib)) 0 0 (wA LC ad) := by
  refine g_entry (C := RX0) (cc := cX0_markAll) (maxL := 4) (ret := none) rfl (by decide) rfl (Nat.le_of_ble_eq_true rfl) (fun p e s m args below meth c Q ls hQ hx hb hr hts hown hlocks hml hW hK hl => ?_)
  have hl : lv_has ls 4 [(0, .ref (ad 5 (0))), (1, .ref (ad 4 (ia))), (2, .int (nI (o))), (3, .ref (ad 4 (ib)))] := hl
  have hS := va_S.rf (A := wA LC ad) (H0 := s.heap)
  refine lv_aload_n hx hb dX0_markAll_0 rfl (lv_at hl 0 rfl) ?_
  refine lv_aload_n hx hb dX0_markAll_1 rfl (lv_at hl 1 rfl) ?_
  refine lv_iload_n hx hb dX0_markAll_2 rfl (lv_at hl 2 rfl) ?_
  refine lv_ldc (v := (-2147483648)) hx hb hown (hts (.constant RX0 54 (-2147483648)) (by decide +kernel)) dX0_markAll_3 ?_
  refine lv_ldc (v := (2147483647)) hx hb hown (hts (.constant RX0 55 (2147483647)) (by decide +kernel)) dX0_markAll_5 ?_
  refine lv_aload_n hx hb dX0_markAll_7 rfl (lv_at hl 3 rfl) ?_
  refine g_cv (va_runV (As := [.ref (ad 4 (ia)), .int (nI (o)), .int ((-2147483648)), .int ((2147483647)), .ref (ad 4 (ib))]) (rest := []) ⟨hx, hb, hml, hown, hts⟩ (c_X0_markBetween l D G ad hI I ia o ib ((-2147483648)) ((2147483647)) (show ia < 59 by omega) (show ib < 59 by omega) hM) (cwV 5 hts gX0_markAll_X0_markBetween rfl rfl rfl (by decide +kernel) ⟨Nat.le_of_ble_eq_true rfl, Nat.le_of_ble_eq_true rfl⟩) (g_preV hK hW 5 (0) (mC (by decide) (by decide)) rfl rfl) rfl rfl hl.1 rfl (lv_room (Nat.le_of_ble_eq_true rfl)) dX0_markAll_8 ⟨Nat.le_refl _, Nat.le_refl _⟩) hS (fun I1 H locs hp hW hS => ?_)
  have eI1 : I1 = mb I ia o ((-2147483648)) ((2147483647)) ib := hp
  rw [hQ]
  exact g_vret (wd := wC G ad) hx hb hr hlocks hW hS (by subst eI1; rfl) dX0_markAll_11

set_option maxHeartbeats 4000000 in
set_option maxRecDepth 100000 in
theorem c_X0_markOfValue (l : Launch) (D : va_G) (G : Nat → ClassId) (ad : Nat → Nat → Nat) (hI : wI LC ad) (I : St) (ia o ib : Nat) (v : Int32) (hia : ia < 59) (hib : ib < 59) (hM : okM I) : Met l yX0_markOfValue wsX0_markOfValue ({ frames := 3, cells := 0, slots := 0, locals := 75 } : Room) (gPre D G LC ad [.ref (ad 5 (0)), .ref (ad 4 (ia)), .int (nI (o)), .int (v), .ref (ad 4 (ib))] (wC G ad I)) (gQv D LC ad (wC G ad) (fun u => u = mb I ia o v v ib)) 0 0 (wA LC ad) := by
  refine g_entry (C := RX0) (cc := cX0_markOfValue) (maxL := 5) (ret := none) rfl (by decide) rfl (Nat.le_of_ble_eq_true rfl) (fun p e s m args below meth c Q ls hQ hx hb hr hts hown hlocks hml hW hK hl => ?_)
  have hl : lv_has ls 5 [(0, .ref (ad 5 (0))), (1, .ref (ad 4 (ia))), (2, .int (nI (o))), (3, .int (v)), (4, .ref (ad 4 (ib)))] := hl
  have hS := va_S.rf (A := wA LC ad) (H0 := s.heap)
  refine lv_aload_n hx hb dX0_markOfValue_0 rfl (lv_at hl 0 rfl) ?_
  refine lv_aload_n hx hb dX0_markOfValue_1 rfl (lv_at hl 1 rfl) ?_
  refine lv_iload_n hx hb dX0_markOfValue_2 rfl (lv_at hl 2 rfl) ?_
  refine lv_iload_n hx hb dX0_markOfValue_3 rfl (lv_at hl 3 rfl) ?_
  refine lv_iload_n hx hb dX0_markOfValue_4 rfl (lv_at hl 3 rfl) ?_
  refine lv_aload hx hb dX0_markOfValue_5 (lv_at hl 4 rfl) ?_
  refine g_cv (va_runV (As := [.ref (ad 4 (ia)), .int (nI (o)), .int (v), .int (v), .ref (ad 4 (ib))]) (rest := []) ⟨hx, hb, hml, hown, hts⟩ (c_X0_markBetween l D G ad hI I ia o ib v v (show ia < 59 by omega) (show ib < 59 by omega) hM) (cwV 5 hts gX0_markOfValue_X0_markBetween rfl rfl rfl (by decide +kernel) ⟨Nat.le_of_ble_eq_true rfl, Nat.le_of_ble_eq_true rfl⟩) (g_preV hK hW 5 (0) (mC (by decide) (by decide)) rfl rfl) rfl rfl hl.1 rfl (lv_room (Nat.le_of_ble_eq_true rfl)) dX0_markOfValue_7 ⟨Nat.le_refl _, Nat.le_refl _⟩) hS (fun I1 H locs hp hW hS => ?_)
  have eI1 : I1 = mb I ia o v v ib := hp
  rw [hQ]
  exact g_vret (wd := wC G ad) hx hb hr hlocks hW hS (by subst eI1; rfl) dX0_markOfValue_10

set_option maxHeartbeats 4000000 in
set_option maxRecDepth 100000 in
theorem c_X0_sumOfGathered (l : Launch) (D : va_G) (G : Nat → ClassId) (ad : Nat → Nat → Nat) (hI : wI LC ad) (I : St) (g : List Nat) (hG : okG I g) : Met l yX0_sumOfGathered wsX0_sumOfGathered ({ frames := 0, cells := 0, slots := 0, locals := 0 } : Room) (gPre D G LC ad [.ref (ad 5 (0)), .int (nI (g.length))] (wC G ad I)) (gQl D LC ad (wC G ad) (fun r u => r = sumG I g ∧ u = I)) 0 0 (wA LC ad) := by
  refine g_entry (C := RX0) (cc := cX0_sumOfGathered) (maxL := 5) (ret := (some .long)) rfl (by decide) rfl (Nat.le_of_ble_eq_true rfl) (fun p e s m args below meth c Q ls hQ hx hb hr hts hown hlocks hml hW hK hl => ?_)
  have hl : lv_has ls 5 [(0, .ref (ad 5 (0))), (1, .int (nI (g.length)))] := hl
  have hS := va_S.rf (A := wA LC ad) (H0 := s.heap)
  have hinX0 : ∀ w ∈ wsX00, w ∈ wsX0_sumOfGathered := by decide +kernel
  have hf15 := hts (.fieldLink RX0 15 "JoinedStores$Dots" "values" "[I") (by decide +kernel)
  have hf24 := hts (.fieldLink RX0 24 "JoinedStores$Dots" "gathered" "[I") (by decide +kernel)
  have hgl := hG.1
  refine lv_lconst (v := lN 0) hx hb dX0_sumOfGathered_0 (by decide) ?_
  refine lv_lstore_n (lv' := [(2, .long (lN 0)), (0, .ref (ad 5 (0))), (1, .int (nI (g.length)))]) hx hb dX0_sumOfGathered_1 rfl hl (by decide) rfl (fun ls hl => ?_)
  refine lv_iconst (v := nI 0) hx hb dX0_sumOfGathered_2 (by decide) ?_
  refine lv_istore (lv' := [(4, .int (nI (0))), (2, .long (lN 0)), (0, .ref (ad 5 (0))), (1, .int (nI (g.length)))]) hx hb dX0_sumOfGathered_3 hl (by decide) rfl (fun ls hl => ?_)
  have K5 : ∀ (n : Nat) (i : Nat) (d : Int64), (i ≤ g.length) → (d = sumG I (g.take i)) → g.length < i + n → ∀ (H : Heap) (locs : List Loc), va_P D vwCl (wS LC ad (wC G ad I)) H → va_S (wA LC ad) s.heap H locs → ∀ (ls : Array Slot), lv_has ls 5 [(4, .int (nI (i))), (2, .long (d)), (0, .ref (ad 5 (0))), (1, .int (nI (g.length)))] → W p l e ({ frames := 0, cells := 0, slots := 0, locals := 0 } : Room) s m args below meth c H locs 0 0 Q (F0 m 5 ls []) := by
    intro n5
    induction n5 with
    | zero => intro i d hi hd hfu; exact absurd hfu (by omega)
    | succ n5 ih5 =>
      intro i d hi hd hfu H locs hW hS ls hl
      refine lv_iload hx hb dX0_sumOfGathered_5 (lv_at hl 0 rfl) ?_
      refine lv_iload_n hx hb dX0_sumOfGathered_7 rfl (lv_at hl 3 rfl) ?_
      refine lv_icmp_ge (tgt := 33) hx hb dX0_sumOfGathered_8 (by decide) (fun c8_0 => ?_) (fun c8_0 => ?_)
      · replace c8_0 : g.length ≤ i := (nI_leI (show g.length < 2147483648 by omega) (show i < 2147483648 by omega)).mp c8_0
        refine lv_lload_n hx hb dX0_sumOfGathered_33 rfl (lv_at hl 1 rfl) ?_
        rw [hQ]
        exact g_lret (wd := wC G ad) hx hb hr hlocks hW hS (by have e4 : i = g.length := (by omega); subst e4; rw [List.take_length] at hd; exact ⟨hd, rfl⟩) dX0_sumOfGathered_34
      · replace c8_0 : ¬ (g.length ≤ i) := fun h => c8_0 ((nI_leI (show g.length < 2147483648 by omega) (show i < 2147483648 by omega)).mpr h)
        refine lv_lload_n hx hb dX0_sumOfGathered_11 rfl (lv_at hl 1 rfl) ?_
        refine lv_aload_n hx hb dX0_sumOfGathered_12 rfl (lv_at hl 2 rfl) ?_
        refine r_get hx hb hts hown hK hW 5 (0) 1 (mC (by decide) (by decide)) rfl rfl hinX0 (by decide) hf15 rfl rfl dX0_sumOfGathered_13 ?_
        refine lv_aload_n hx hb dX0_sumOfGathered_16 rfl (lv_at hl 2 rfl) ?_
        refine r_get hx hb hts hown hK hW 5 (0) 4 (mC (by decide) (by decide)) rfl rfl hinX0 (by decide) hf24 rfl rfl dX0_sumOfGathered_17 ?_
        refine lv_iload hx hb dX0_sumOfGathered_20 (lv_at hl 0 rfl) ?_
        refine rC_iald hx hb hK hW 20 (0) (i) (by decide) (by decide) (by decide) (show i < 124 by omega) rfl dX0_sumOfGathered_22 (fun x2 ex2 => ?_)
        have hg1 := (hG.2 i (by omega)).2
        refine r_top (show x2 = nI (g.getD i 0) from (ex2.trans (hG.2 i (by omega)).1)) ?_
        refine rC_iald hx hb hK hW 13 (0) (g.getD i 0) (by decide) (by decide) (by decide) (show g.getD i 0 < 124 by omega) rfl dX0_sumOfGathered_23 (fun x3 ex3 => ?_)
        refine lv_i2l hx hb dX0_sumOfGathered_24 rfl ?_
        refine lv_ladd hx hb dX0_sumOfGathered_25 ?_
        refine lv_lstore_n (lv' := [(2, .long (d + x3.toInt64)), (4, .int (nI (i))), (0, .ref (ad 5 (0))), (1, .int (nI (g.length)))]) hx hb dX0_sumOfGathered_26 rfl hl (by decide) rfl (fun ls hl => ?_)
        refine lv_iinc (v := nI (i + 1)) (lv' := [(4, .int (nI (i + 1))), (2, .long (d + x3.toInt64)), (0, .ref (ad 5 (0))), (1, .int (nI (g.length)))]) hx hb dX0_sumOfGathered_27 hl (k := 1) rfl (nI_inc i 1) (by decide) rfl (fun ls hl => ?_)
        refine lv_goto (tgt := 5) hx hb dX0_sumOfGathered_30 (by decide) ?_
        exact ih5 (i + 1) (d + x3.toInt64) (by omega) (by subst ex3 ex2; rw [hd, sumG_t (by omega)]) (by omega) _ _ hW hS _ (lv_sub hl [0, 1, 2, 3] rfl)
  exact K5 (g.length + 1) (0) (lN 0) (Nat.zero_le _) rfl (by omega) _ _ hW hS _ (lv_sub hl [0, 1, 2, 3] rfl)

set_option maxHeartbeats 4000000 in
set_option maxRecDepth 100000 in
theorem c_X0_latestOfGathered (l : Launch) (D : va_G) (G : Nat → ClassId) (ad : Nat → Nat → Nat) (hI : wI LC ad) (I : St) (g : List Nat) (hG : okG I g) : Met l yX0_latestOfGathered wsX0_latestOfGathered ({ frames := 0, cells := 0, slots := 0, locals := 0 } : Room) (gPre D G LC ad [.ref (ad 5 (0)), .int (nI (g.length))] (wC G ad I)) (gQi D LC ad (wC G ad) (fun r u => r = (latG I g).2 ∧ u = I)) 0 0 (wA LC ad) := by
  refine g_entry (C := RX0) (cc := cX0_latestOfGathered) (maxL := 6) (ret := (some .int)) rfl (by decide) rfl (Nat.le_of_ble_eq_true rfl) (fun p e s m args below meth c Q ls hQ hx hb hr hts hown hlocks hml hW hK hl => ?_)
  have hl : lv_has ls 6 [(0, .ref (ad 5 (0))), (1, .int (nI (g.length)))] := hl
  have hS := va_S.rf (A := wA LC ad) (H0 := s.heap)
  have hinX0 : ∀ w ∈ wsX00, w ∈ wsX0_latestOfGathered := by decide +kernel
  have hf15 := hts (.fieldLink RX0 15 "JoinedStores$Dots" "values" "[I") (by decide +kernel)
  have hf18 := hts (.fieldLink RX0 18 "JoinedStores$Dots" "stamps" "[I") (by decide +kernel)
  have hf24 := hts (.fieldLink RX0 24 "JoinedStores$Dots" "gathered" "[I") (by decide +kernel)
  have hgl := hG.1
  refine lv_iconst (v := nI 0) hx hb dX0_latestOfGathered_0 (by decide) ?_
  refine lv_istore_n (lv' := [(2, .int (nI (0))), (0, .ref (ad 5 (0))), (1, .int (nI (g.length)))]) hx hb dX0_latestOfGathered_1 rfl hl (by decide) rfl (fun ls hl => ?_)
  refine lv_iconst (v := nI 0) hx hb dX0_latestOfGathered_2 (by decide) ?_
  refine lv_istore_n (lv' := [(3, .int (nI (0))), (2, .int (nI (0))), (0, .ref (ad 5 (0))), (1, .int (nI (g.length)))]) hx hb dX0_latestOfGathered_3 rfl hl (by decide) rfl (fun ls hl => ?_)
  refine lv_iconst (v := nI 0) hx hb dX0_latestOfGathered_4 (by decide) ?_
  refine lv_istore (lv' := [(4, .int (nI (0))), (3, .int (nI (0))), (2, .int (nI (0))), (0, .ref (ad 5 (0))), (1, .int (nI (g.length)))]) hx hb dX0_latestOfGathered_5 hl (by decide) rfl (fun ls hl => ?_)
  have K7 : ∀ (n : Nat) (i : Nat) (a : Int32) (b : Int32), (i ≤ g.length) → ((a, b) = latG I (g.take i)) → g.length < i + n → ∀ (H : Heap) (locs : List Loc), va_P D vwCl (wS LC ad (wC G ad I)) H → va_S (wA LC ad) s.heap H locs → ∀ (ls : Array Slot), lv_has ls 6 [(4, .int (nI (i))), (3, .int (b)), (2, .int (a)), (0, .ref (ad 5 (0))), (1, .int (nI (g.length)))] → W p l e ({ frames := 0, cells := 0, slots := 0, locals := 0 } : Room) s m args below meth c H locs 0 0 Q (F0 m 7 ls []) := by
    intro n7
    induction n7 with
    | zero => intro i a b hi hd hfu; exact absurd hfu (by omega)
    | succ n7 ih7 =>
      intro i a b hi hd hfu H locs hW hS ls hl
      refine lv_iload hx hb dX0_latestOfGathered_7 (lv_at hl 0 rfl) ?_
      refine lv_iload_n hx hb dX0_latestOfGathered_9 rfl (lv_at hl 4 rfl) ?_
      refine lv_icmp_ge (tgt := 55) hx hb dX0_latestOfGathered_10 (by decide) (fun c10_0 => ?_) (fun c10_0 => ?_)
      · replace c10_0 : g.length ≤ i := (nI_leI (show g.length < 2147483648 by omega) (show i < 2147483648 by omega)).mp c10_0
        refine lv_iload_n hx hb dX0_latestOfGathered_55 rfl (lv_at hl 1 rfl) ?_
        rw [hQ]
        exact g_iret (wd := wC G ad) hx hb hr rfl hlocks hW hS (by have e4 : i = g.length := (by omega); subst e4; rw [List.take_length] at hd; exact ⟨by rw [← hd], rfl⟩) dX0_latestOfGathered_56
      · replace c10_0 : ¬ (g.length ≤ i) := fun h => c10_0 ((nI_leI (show g.length < 2147483648 by omega) (show i < 2147483648 by omega)).mpr h)
        refine lv_aload_n hx hb dX0_latestOfGathered_13 rfl (lv_at hl 3 rfl) ?_
        refine r_get hx hb hts hown hK hW 5 (0) 4 (mC (by decide) (by decide)) rfl rfl hinX0 (by decide) hf24 rfl rfl dX0_latestOfGathered_14 ?_
        refine lv_iload hx hb dX0_latestOfGathered_17 (lv_at hl 0 rfl) ?_
        refine rC_iald hx hb hK hW 20 (0) (i) (by decide) (by decide) (by decide) (show i < 124 by omega) rfl dX0_latestOfGathered_19 (fun x2 ex2 => ?_)
        have hg1 := (hG.2 i (by omega)).2
        refine r_top (show x2 = nI (g.getD i 0) from (ex2.trans (hG.2 i (by omega)).1)) ?_
        refine lv_istore (lv' := [(5, .int (nI (g.getD i 0))), (4, .int (nI (i))), (3, .int (b)), (2, .int (a)), (0, .ref (ad 5 (0))), (1, .int (nI (g.length)))]) hx hb dX0_latestOfGathered_20 hl (by decide) rfl (fun ls hl => ?_)
        refine lv_aload_n hx hb dX0_latestOfGathered_22 rfl (lv_at hl 4 rfl) ?_
        refine r_get hx hb hts hown hK hW 5 (0) 2 (mC (by decide) (by decide)) rfl rfl hinX0 (by decide) hf18 rfl rfl dX0_latestOfGathered_23 ?_
        refine lv_iload hx hb dX0_latestOfGathered_26 (lv_at hl 0 rfl) ?_
        refine rC_iald hx hb hK hW 14 (0) (g.getD i 0) (by decide) (by decide) (by decide) (show g.getD i 0 < 124 by omega) rfl dX0_latestOfGathered_28 (fun x3 ex3 => ?_)
        refine lv_iload_n hx hb dX0_latestOfGathered_29 rfl (lv_at hl 3 rfl) ?_
        refine lv_icmp_lt (tgt := 49) hx hb dX0_latestOfGathered_30 (by decide) (fun c30_3 => ?_) (fun c30_3 => ?_)
        · refine lv_iinc (v := nI (i + 1)) (lv' := [(4, .int (nI (i + 1))), (5, .int (nI (g.getD i 0))), (3, .int (b)), (2, .int (a)), (0, .ref (ad 5 (0))), (1, .int (nI (g.length)))]) hx hb dX0_latestOfGathered_49 hl (k := 1) rfl (nI_inc i 1) (by decide) rfl (fun ls hl => ?_)
          refine lv_goto (tgt := 7) hx hb dX0_latestOfGathered_52 (by decide) ?_
          exact ih7 (i + 1) (a) (b) (by omega) (by subst ex3 ex2; rw [latG_t (by omega), ← hd]; first | (rw [if_neg (Int32.not_le.mpr (by assumption))]) | (rw [if_pos (Int32.not_lt.mp (by assumption))])) (by omega) _ _ hW hS _ (lv_sub hl [0, 2, 3, 4, 5] rfl)
        · refine lv_aload_n hx hb dX0_latestOfGathered_33 rfl (lv_at hl 4 rfl) ?_
          refine r_get hx hb hts hown hK hW 5 (0) 2 (mC (by decide) (by decide)) rfl rfl hinX0 (by decide) hf18 rfl rfl dX0_latestOfGathered_34 ?_
          refine lv_iload hx hb dX0_latestOfGathered_37 (lv_at hl 0 rfl) ?_
          refine rC_iald hx hb hK hW 14 (0) (g.getD i 0) (by decide) (by decide) (by decide) (show g.getD i 0 < 124 by omega) rfl dX0_latestOfGathered_39 (fun x5 ex5 => ?_)
          refine lv_istore_n (lv' := [(2, .int (x5)), (5, .int (nI (g.getD i 0))), (4, .int (nI (i))), (3, .int (b)), (0, .ref (ad 5 (0))), (1, .int (nI (g.length)))]) hx hb dX0_latestOfGathered_40 rfl hl (by decide) rfl (fun ls hl => ?_)
          refine lv_aload_n hx hb dX0_latestOfGathered_41 rfl (lv_at hl 4 rfl) ?_
          refine r_get hx hb hts hown hK hW 5 (0) 1 (mC (by decide) (by decide)) rfl rfl hinX0 (by decide) hf15 rfl rfl dX0_latestOfGathered_42 ?_
          refine lv_iload hx hb dX0_latestOfGathered_45 (lv_at hl 1 rfl) ?_
          refine rC_iald hx hb hK hW 13 (0) (g.getD i 0) (by decide) (by decide) (by decide) (show g.getD i 0 < 124 by omega) rfl dX0_latestOfGathered_47 (fun x6 ex6 => ?_)
          refine lv_istore_n (lv' := [(3, .int (x6)), (2, .int (x5)), (5, .int (nI (g.getD i 0))), (4, .int (nI (i))), (0, .ref (ad 5 (0))), (1, .int (nI (g.length)))]) hx hb dX0_latestOfGathered_48 rfl hl (by decide) rfl (fun ls hl => ?_)
          refine lv_iinc (v := nI (i + 1)) (lv' := [(4, .int (nI (i + 1))), (3, .int (x6)), (2, .int (x5)), (5, .int (nI (g.getD i 0))), (0, .ref (ad 5 (0))), (1, .int (nI (g.length)))]) hx hb dX0_latestOfGathered_49 hl (k := 3) rfl (nI_inc i 1) (by decide) rfl (fun ls hl => ?_)
          refine lv_goto (tgt := 7) hx hb dX0_latestOfGathered_52 (by decide) ?_
          exact ih7 (i + 1) (x5) (x6) (by omega) (by subst ex6 ex5 ex3 ex2; rw [latG_t (by omega), ← hd]; first | (rw [if_neg (Int32.not_le.mpr (by assumption))]) | (rw [if_pos (Int32.not_lt.mp (by assumption))])) (by omega) _ _ hW hS _ (lv_sub hl [0, 1, 2, 4, 5] rfl)
  exact K7 (g.length + 1) (0) (nI (0)) (nI (0)) (Nat.zero_le _) rfl (by omega) _ _ hW hS _ (lv_sub hl [0, 1, 2, 3, 4] rfl)

set_option maxHeartbeats 4000000 in
set_option maxRecDepth 100000 in
theorem c_X0_mostOfGathered (l : Launch) (D : va_G) (G : Nat → ClassId) (ad : Nat → Nat → Nat) (hI : wI LC ad) (I : St) (g : List Nat) (hG : okG I g) : Met l yX0_mostOfGathered wsX0_mostOfGathered ({ frames := 1, cells := 0, slots := 0, locals := 32 } : Room) (gPre D G LC ad [.ref (ad 5 (0)), .int (nI (g.length))] (wC G ad I)) (gQi D LC ad (wC G ad) (fun r u => r = mosR I g ∧ u = I)) 0 0 (wA LC ad) := by
  refine g_entry (C := RX0) (cc := cX0_mostOfGathered) (maxL := 4) (ret := (some .int)) rfl (by decide) rfl (Nat.le_of_ble_eq_true rfl) (fun p e s m args below meth c Q ls hQ hx hb hr hts hown hlocks hml hW hK hl => ?_)
  have hl : lv_has ls 4 [(0, .ref (ad 5 (0))), (1, .int (nI (g.length)))] := hl
  have hS := va_S.rf (A := wA LC ad) (H0 := s.heap)
  have hinX0 : ∀ w ∈ wsX00, w ∈ wsX0_mostOfGathered := by decide +kernel
  have hf15 := hts (.fieldLink RX0 15 "JoinedStores$Dots" "values" "[I") (by decide +kernel)
  have hf24 := hts (.fieldLink RX0 24 "JoinedStores$Dots" "gathered" "[I") (by decide +kernel)
  have hgl := hG.1
  refine lv_iload_n hx hb dX0_mostOfGathered_0 rfl (lv_at hl 1 rfl) ?_
  refine lv_if_ne (tgt := 6) hx hb dX0_mostOfGathered_1 (by decide) (fun c1_0 => ?_) (fun c1_0 => ?_)
  · replace c1_0 : ¬ g.length = 0 := fun h => c1_0 ((nI_eq (show g.length < 2147483648 by omega) (show 0 < 2147483648 by omega)).mpr h)
    refine lv_ldc (v := (-2147483648)) hx hb hown (hts (.constant RX0 54 (-2147483648)) (by decide +kernel)) dX0_mostOfGathered_6 ?_
    refine lv_istore_n (lv' := [(2, .int ((-2147483648))), (0, .ref (ad 5 (0))), (1, .int (nI (g.length)))]) hx hb dX0_mostOfGathered_8 rfl hl (by decide) rfl (fun ls hl => ?_)
    refine lv_iconst (v := nI 0) hx hb dX0_mostOfGathered_9 (by decide) ?_
    refine lv_istore_n (lv' := [(3, .int (nI (0))), (2, .int ((-2147483648))), (0, .ref (ad 5 (0))), (1, .int (nI (g.length)))]) hx hb dX0_mostOfGathered_10 rfl hl (by decide) rfl (fun ls hl => ?_)
    have K11 : ∀ (n : Nat) (i : Nat) (d : Int32), (i ≤ g.length) → (d = mosG I (g.take i)) → g.length < i + n → ∀ (H : Heap) (locs : List Loc), va_P D vwCl (wS LC ad (wC G ad I)) H → va_S (wA LC ad) s.heap H locs → ∀ (ls : Array Slot), lv_has ls 4 [(3, .int (nI (i))), (2, .int (d)), (0, .ref (ad 5 (0))), (1, .int (nI (g.length)))] → W p l e ({ frames := 1, cells := 0, slots := 0, locals := 32 } : Room) s m args below meth c H locs 0 0 Q (F0 m 11 ls []) := by
      intro n11
      induction n11 with
      | zero => intro i d hi hd hfu; exact absurd hfu (by omega)
      | succ n11 ih11 =>
        intro i d hi hd hfu H locs hW hS ls hl
        refine lv_iload_n hx hb dX0_mostOfGathered_11 rfl (lv_at hl 0 rfl) ?_
        refine lv_iload_n hx hb dX0_mostOfGathered_12 rfl (lv_at hl 3 rfl) ?_
        refine lv_icmp_ge (tgt := 38) hx hb dX0_mostOfGathered_13 (by decide) (fun c13_1 => ?_) (fun c13_1 => ?_)
        · replace c13_1 : g.length ≤ i := (nI_leI (show g.length < 2147483648 by omega) (show i < 2147483648 by omega)).mp c13_1
          refine lv_iload_n hx hb dX0_mostOfGathered_38 rfl (lv_at hl 1 rfl) ?_
          rw [hQ]
          exact g_iret (wd := wC G ad) hx hb hr rfl hlocks hW hS (by have e4 : i = g.length := (by omega); subst e4; rw [List.take_length] at hd; refine ⟨?_, rfl⟩; rw [mosR, if_neg (by omega)]; exact hd) dX0_mostOfGathered_39
        · replace c13_1 : ¬ (g.length ≤ i) := fun h => c13_1 ((nI_leI (show g.length < 2147483648 by omega) (show i < 2147483648 by omega)).mpr h)
          refine lv_iload_n hx hb dX0_mostOfGathered_16 rfl (lv_at hl 1 rfl) ?_
          refine lv_aload_n hx hb dX0_mostOfGathered_17 rfl (lv_at hl 2 rfl) ?_
          refine r_get hx hb hts hown hK hW 5 (0) 1 (mC (by decide) (by decide)) rfl rfl hinX0 (by decide) hf15 rfl rfl dX0_mostOfGathered_18 ?_
          refine lv_aload_n hx hb dX0_mostOfGathered_21 rfl (lv_at hl 2 rfl) ?_
          refine r_get hx hb hts hown hK hW 5 (0) 4 (mC (by decide) (by decide)) rfl rfl hinX0 (by decide) hf24 rfl rfl dX0_mostOfGathered_22 ?_
          refine lv_iload_n hx hb dX0_mostOfGathered_25 rfl (lv_at hl 0 rfl) ?_
          refine rC_iald hx hb hK hW 20 (0) (i) (by decide) (by decide) (by decide) (show i < 124 by omega) rfl dX0_mostOfGathered_26 (fun x3 ex3 => ?_)
          have hg1 := (hG.2 i (by omega)).2
          refine r_top (show x3 = nI (g.getD i 0) from (ex3.trans (hG.2 i (by omega)).1)) ?_
          refine rC_iald hx hb hK hW 13 (0) (g.getD i 0) (by decide) (by decide) (by decide) (show g.getD i 0 < 124 by omega) rfl dX0_mostOfGathered_27 (fun x4 ex4 => ?_)
          refine va_mmax hx hb (hml.trans hl.1.symm) hown (hts (.methodLink RX0 46 Lib.Math.max.name) (by decide +kernel)) (hts (.static Lib.Math.max.name) (by decide +kernel)) (hts (.initialized "java/lang/Math") (by decide +kernel)) (hts (.code Lib.Math.max.name Lib.Math.max.code 2 (some .int)) (by decide +kernel)) (by decide) (by decide) (Nat.zero_le _) (Nat.zero_le _) dX0_mostOfGathered_28 (lv_topi (fun x5 ex5 => ?_))
          refine lv_istore_n (lv' := [(2, .int (x5)), (3, .int (nI (i))), (0, .ref (ad 5 (0))), (1, .int (nI (g.length)))]) hx hb dX0_mostOfGathered_31 rfl hl (by decide) rfl (fun ls hl => ?_)
          refine lv_iinc (v := nI (i + 1)) (lv' := [(3, .int (nI (i + 1))), (2, .int (x5)), (0, .ref (ad 5 (0))), (1, .int (nI (g.length)))]) hx hb dX0_mostOfGathered_32 hl (k := 1) rfl (nI_inc i 1) (by decide) rfl (fun ls hl => ?_)
          refine lv_goto (tgt := 11) hx hb dX0_mostOfGathered_35 (by decide) ?_
          exact ih11 (i + 1) (x5) (by omega) (by subst ex5 ex4 ex3; rw [hd, mosG_t (by omega)]; rfl) (by omega) _ _ hW hS _ (lv_sub hl [0, 1, 2, 3] rfl)
    exact K11 (g.length + 1) (0) ((-2147483648)) (Nat.zero_le _) rfl (by omega) _ _ hW hS _ (lv_sub hl [0, 1, 2, 3] rfl)
  · replace c1_0 : g.length = 0 := (nI_eq (show g.length < 2147483648 by omega) (show 0 < 2147483648 by omega)).mp c1_0
    refine lv_iconst (v := nI 0) hx hb dX0_mostOfGathered_4 (by decide) ?_
    rw [hQ]
    exact g_iret (wd := wC G ad) hx hb hr rfl hlocks hW hS (by refine ⟨?_, rfl⟩; rw [mosR, if_pos (by omega)]) dX0_mostOfGathered_5

set_option maxHeartbeats 4000000 in
set_option maxRecDepth 100000 in
theorem c_X0_meanOfGathered (l : Launch) (D : va_G) (G : Nat → ClassId) (ad : Nat → Nat → Nat) (hI : wI LC ad) (I : St) (g : List Nat) (hG : okG I g) : Met l yX0_meanOfGathered wsX0_meanOfGathered ({ frames := 3, cells := 0, slots := 0, locals := 200 } : Room) (gPre D G LC ad [.ref (ad 5 (0)), .int (nI (g.length))] (wC G ad I)) (gQi D LC ad (wC G ad) (fun r u => r = menR I g ∧ u = I)) 0 0 (wA LC ad) := by
  refine g_entry (C := RX0) (cc := cX0_meanOfGathered) (maxL := 4) (ret := (some .int)) rfl (by decide) rfl (Nat.le_of_ble_eq_true rfl) (fun p e s m args below meth c Q ls hQ hx hb hr hts hown hlocks hml hW hK hl => ?_)
  have hl : lv_has ls 4 [(0, .ref (ad 5 (0))), (1, .int (nI (g.length)))] := hl
  have hS := va_S.rf (A := wA LC ad) (H0 := s.heap)
  have hinX0 : ∀ w ∈ wsX00, w ∈ wsX0_meanOfGathered := by decide +kernel
  have hf15 := hts (.fieldLink RX0 15 "JoinedStores$Dots" "values" "[I") (by decide +kernel)
  have hf24 := hts (.fieldLink RX0 24 "JoinedStores$Dots" "gathered" "[I") (by decide +kernel)
  have hgl := hG.1
  refine lv_iload_n hx hb dX0_meanOfGathered_0 rfl (lv_at hl 1 rfl) ?_
  refine lv_if_ne (tgt := 6) hx hb dX0_meanOfGathered_1 (by decide) (fun c1_0 => ?_) (fun c1_0 => ?_)
  · replace c1_0 : ¬ g.length = 0 := fun h => c1_0 ((nI_eq (show g.length < 2147483648 by omega) (show 0 < 2147483648 by omega)).mpr h)
    have hgz : ¬ g.length = 0 := c1_0
    refine lv_fconst0 hx hb dX0_meanOfGathered_6 ?_
    refine lv_fstore_n (lv' := [(2, .float (FP.fconst0)), (0, .ref (ad 5 (0))), (1, .int (nI (g.length)))]) hx hb dX0_meanOfGathered_7 rfl hl (by decide) rfl (fun ls hl => ?_)
    refine lv_iconst (v := nI 0) hx hb dX0_meanOfGathered_8 (by decide) ?_
    refine lv_istore_n (lv' := [(3, .int (nI (0))), (2, .float (FP.fconst0)), (0, .ref (ad 5 (0))), (1, .int (nI (g.length)))]) hx hb dX0_meanOfGathered_9 rfl hl (by decide) rfl (fun ls hl => ?_)
    have K10 : ∀ (n : Nat) (i : Nat) (d : UInt32), (i ≤ g.length) → (d = fsum I (g.take i)) → g.length < i + n → ∀ (H : Heap) (locs : List Loc), va_P D vwCl (wS LC ad (wC G ad I)) H → va_S (wA LC ad) s.heap H locs → ∀ (ls : Array Slot), lv_has ls 4 [(3, .int (nI (i))), (2, .float (d)), (0, .ref (ad 5 (0))), (1, .int (nI (g.length)))] → W p l e ({ frames := 3, cells := 0, slots := 0, locals := 200 } : Room) s m args below meth c H locs 0 0 Q (F0 m 10 ls []) := by
      intro n10
      induction n10 with
      | zero => intro i d hi hd hfu; exact absurd hfu (by omega)
      | succ n10 ih10 =>
        intro i d hi hd hfu H locs hW hS ls hl
        refine lv_iload_n hx hb dX0_meanOfGathered_10 rfl (lv_at hl 0 rfl) ?_
        refine lv_iload_n hx hb dX0_meanOfGathered_11 rfl (lv_at hl 3 rfl) ?_
        refine lv_icmp_ge (tgt := 36) hx hb dX0_meanOfGathered_12 (by decide) (fun c12_1 => ?_) (fun c12_1 => ?_)
        · replace c12_1 : g.length ≤ i := (nI_leI (show g.length < 2147483648 by omega) (show i < 2147483648 by omega)).mp c12_1
          refine lv_fload_n hx hb dX0_meanOfGathered_36 rfl (lv_at hl 1 rfl) ?_
          refine lv_iload_n hx hb dX0_meanOfGathered_37 rfl (lv_at hl 3 rfl) ?_
          refine lv_i2f hx hb dX0_meanOfGathered_38 ?_
          have e4 : i = g.length := (by omega)
          subst e4
          rw [List.take_length] at hd
          have hfo : okF (FP.fdiv d (FP.i2f (nI (g.length)))) := by rw [hd]; exact fmean_ok _ _ hG.1 hgz
          refine lv_fdiv hx hb dX0_meanOfGathered_39 (okF_nn hfo) ?_
          refine g_pi (va_runSN (As := [.float (FP.fdiv d (FP.i2f (nI (g.length))))]) (rest := []) ⟨hx, hb, hml, hown, hts⟩ (c_X5_bitsOf l (FP.fdiv d (FP.i2f (nI (g.length)))) hfo) ⟨va_cnB 1 hts gX0_meanOfGathered_X5_bitsOf_n82 rfl rfl rfl (hK.2 _ (List.mem_of_getElem? (i := 2) rfl)) (hts (.initialized RX5) (by decide +kernel)) (by decide +kernel) ⟨Nat.le_of_ble_eq_true rfl, Nat.le_of_ble_eq_true rfl⟩, hts (.static yX5_bitsOf) (by decide +kernel), trivial⟩ p_preS rfl rfl hl.1 rfl (lv_room (Nat.le_of_ble_eq_true rfl)) dX0_meanOfGathered_40 ⟨Nat.le_refl _, Nat.le_refl _⟩) hW hS (fun H locs hW hS => ?_)
          rw [hQ]
          exact g_iret (wd := wC G ad) hx hb hr rfl hlocks hW hS (by skip; exact ⟨by rw [menR, if_neg hgz, hd], rfl⟩) dX0_meanOfGathered_43
        · replace c12_1 : ¬ (g.length ≤ i) := fun h => c12_1 ((nI_leI (show g.length < 2147483648 by omega) (show i < 2147483648 by omega)).mpr h)
          refine lv_fload_n hx hb dX0_meanOfGathered_15 rfl (lv_at hl 1 rfl) ?_
          refine lv_aload_n hx hb dX0_meanOfGathered_16 rfl (lv_at hl 2 rfl) ?_
          refine r_get hx hb hts hown hK hW 5 (0) 1 (mC (by decide) (by decide)) rfl rfl hinX0 (by decide) hf15 rfl rfl dX0_meanOfGathered_17 ?_
          refine lv_aload_n hx hb dX0_meanOfGathered_20 rfl (lv_at hl 2 rfl) ?_
          refine r_get hx hb hts hown hK hW 5 (0) 4 (mC (by decide) (by decide)) rfl rfl hinX0 (by decide) hf24 rfl rfl dX0_meanOfGathered_21 ?_
          refine lv_iload_n hx hb dX0_meanOfGathered_24 rfl (lv_at hl 0 rfl) ?_
          refine rC_iald hx hb hK hW 20 (0) (i) (by decide) (by decide) (by decide) (show i < 124 by omega) rfl dX0_meanOfGathered_25 (fun x3 ex3 => ?_)
          have hg1 := (hG.2 i (by omega)).2
          refine r_top (show x3 = nI (g.getD i 0) from (ex3.trans (hG.2 i (by omega)).1)) ?_
          refine rC_iald hx hb hK hW 13 (0) (g.getD i 0) (by decide) (by decide) (by decide) (show g.getD i 0 < 124 by omega) rfl dX0_meanOfGathered_26 (fun x4 ex4 => ?_)
          refine lv_i2f hx hb dX0_meanOfGathered_27 ?_
          refine lv_fadd hx hb dX0_meanOfGathered_28 (by subst ex4 ex3; rw [hd]; exact FW_nn (FW_step I g hG.1 (by omega))) ?_
          refine lv_fstore_n (lv' := [(2, .float (FP.fadd d (FP.i2f x4))), (3, .int (nI (i))), (0, .ref (ad 5 (0))), (1, .int (nI (g.length)))]) hx hb dX0_meanOfGathered_29 rfl hl (by decide) rfl (fun ls hl => ?_)
          refine lv_iinc (v := nI (i + 1)) (lv' := [(3, .int (nI (i + 1))), (2, .float (FP.fadd d (FP.i2f x4))), (0, .ref (ad 5 (0))), (1, .int (nI (g.length)))]) hx hb dX0_meanOfGathered_30 hl (k := 1) rfl (nI_inc i 1) (by decide) rfl (fun ls hl => ?_)
          refine lv_goto (tgt := 10) hx hb dX0_meanOfGathered_33 (by decide) ?_
          exact ih10 (i + 1) (FP.fadd d (FP.i2f x4)) (by omega) (by subst ex4 ex3; rw [hd]; exact (fold_t (f := fun a q => FP.fadd a (FP.i2f (I 13 0 q))) (a := FP.fconst0) (g := g) (i := i) (by omega)).symm) (by omega) _ _ hW hS _ (lv_sub hl [0, 1, 2, 3] rfl)
    exact K10 (g.length + 1) (0) (FP.fconst0) (Nat.zero_le _) rfl (by omega) _ _ hW hS _ (lv_sub hl [0, 1, 2, 3] rfl)
  · replace c1_0 : g.length = 0 := (nI_eq (show g.length < 2147483648 by omega) (show 0 < 2147483648 by omega)).mp c1_0
    have hgz : g.length = 0 := c1_0
    refine lv_iconst (v := nI 0) hx hb dX0_meanOfGathered_4 (by decide) ?_
    rw [hQ]
    exact g_iret (wd := wC G ad) hx hb hr rfl hlocks hW hS (by skip; exact ⟨by rw [menR, if_pos hgz], rfl⟩) dX0_meanOfGathered_5

set_option maxHeartbeats 4000000 in
set_option maxRecDepth 100000 in
theorem c_X0_worthAs (l : Launch) (D : va_G) (G : Nat → ClassId) (ad : Nat → Nat → Nat) (hI : wI LC ad) (I : St) (ia o k : Nat) (hia : ia < 59) (hk6 : k < 6) (hM : okM I) : Met l yX0_worthAs wsX0_worthAs ({ frames := 4, cells := 0, slots := 0, locals := 223 } : Room) (gPre D G LC ad [.ref (ad 5 (0)), .ref (ad 4 (ia)), .int (nI (o)), .int (nI (k))] (wC G ad I)) (gQl D LC ad (wC G ad) (fun r u => r = wth I ia o k ∧ u = gst I (gl I ia o))) 0 0 (wA LC ad) := by
  refine g_entry (C := RX0) (cc := cX0_worthAs) (maxL := 5) (ret := (some .long)) rfl (by decide) rfl (Nat.le_of_ble_eq_true rfl) (fun p e s m args below meth c Q ls hQ hx hb hr hts hown hlocks hml hW hK hl => ?_)
  have hl : lv_has ls 5 [(0, .ref (ad 5 (0))), (1, .ref (ad 4 (ia))), (2, .int (nI (o))), (3, .int (nI (k)))] := hl
  have hS := va_S.rf (A := wA LC ad) (H0 := s.heap)
  refine lv_aload_n hx hb dX0_worthAs_0 rfl (lv_at hl 0 rfl) ?_
  refine lv_aload_n hx hb dX0_worthAs_1 rfl (lv_at hl 1 rfl) ?_
  refine lv_iload_n hx hb dX0_worthAs_2 rfl (lv_at hl 2 rfl) ?_
  refine g_ci (va_runV (As := [.ref (ad 4 (ia)), .int (nI (o))]) (rest := []) ⟨hx, hb, hml, hown, hts⟩ (c_X0_gather l D G ad hI I ia o (show ia < 59 by omega) hM) (cwV 2 hts gX0_worthAs_X0_gather rfl rfl rfl (by decide +kernel) ⟨Nat.le_of_ble_eq_true rfl, Nat.le_of_ble_eq_true rfl⟩) (g_preV hK hW 5 (0) (mC (by decide) (by decide)) rfl rfl) rfl rfl hl.1 rfl (lv_room (Nat.le_of_ble_eq_true rfl)) dX0_worthAs_3 ⟨Nat.le_refl _, Nat.le_refl _⟩) hS (fun x1 I1 H locs hp hW hS => ?_)
  obtain ⟨ex1, eI1⟩ := hp
  refine r_top ex1 ?_
  have hG : okG I1 (gl I ia o) := by rw [eI1]; exact okG_gl hM ia o
  refine lv_istore (lv' := [(4, .int (nI ((gl I ia o).length))), (0, .ref (ad 5 (0))), (1, .ref (ad 4 (ia))), (2, .int (nI (o))), (3, .int (nI (k)))]) hx hb dX0_worthAs_6 hl (by decide) rfl (fun ls hl => ?_)
  refine lv_iload_n hx hb dX0_worthAs_8 rfl (lv_at hl 4 rfl) ?_
  by_cases c9_1_2 : nI (k) = nI 2
  · replace c9_1_2 : k = 2 := (nI_eq (show k < 2147483648 by omega) (by decide)).mp c9_1_2
    refine lv_tableIn (tgt := 40) (off := 31) hx hb dX0_worthAs_9 (by rw [c9_1_2]; decide) (by rw [c9_1_2]; decide) (by rw [c9_1_2]; rfl) (by decide) ?_
    refine lv_aload_n hx hb dX0_worthAs_40 rfl (lv_at hl 1 rfl) ?_
    refine lv_iload hx hb dX0_worthAs_41 (lv_at hl 0 rfl) ?_
    refine g_cl (va_runV (As := [.int (nI ((gl I ia o).length))]) (rest := []) ⟨hx, hb, hml, hown, hts⟩ (c_X0_sumOfGathered l D G ad hI I1 (gl I ia o) hG) (cwV 1 hts gX0_worthAs_X0_sumOfGathered rfl rfl rfl (by decide +kernel) ⟨Nat.le_of_ble_eq_true rfl, Nat.le_of_ble_eq_true rfl⟩) (g_preV hK hW 5 (0) (mC (by decide) (by decide)) rfl rfl) rfl rfl hl.1 rfl (lv_room (Nat.le_of_ble_eq_true rfl)) dX0_worthAs_43 ⟨Nat.le_refl _, Nat.le_refl _⟩) hS (fun x3 I3 H locs hp hW hS => ?_)
    obtain ⟨ex3, eI3⟩ := hp
    rw [eI3] at hW
    clear eI3
    rw [hQ]
    exact g_lret (wd := wC G ad) hx hb hr hlocks hW hS (by subst ex3 eI1 ex1; exact ⟨by rw [sumG_g, wth, if_pos (by omega)], rfl⟩) dX0_worthAs_46
  by_cases c9_1_3 : nI (k) = nI 3
  · replace c9_1_3 : k = 3 := (nI_eq (show k < 2147483648 by omega) (by decide)).mp c9_1_3
    refine lv_tableIn (tgt := 47) (off := 38) hx hb dX0_worthAs_9 (by rw [c9_1_3]; decide) (by rw [c9_1_3]; decide) (by rw [c9_1_3]; rfl) (by decide) ?_
    refine lv_aload_n hx hb dX0_worthAs_47 rfl (lv_at hl 1 rfl) ?_
    refine lv_iload hx hb dX0_worthAs_48 (lv_at hl 0 rfl) ?_
    refine g_ci (va_runV (As := [.int (nI ((gl I ia o).length))]) (rest := []) ⟨hx, hb, hml, hown, hts⟩ (c_X0_latestOfGathered l D G ad hI I1 (gl I ia o) hG) (cwV 1 hts gX0_worthAs_X0_latestOfGathered rfl rfl rfl (by decide +kernel) ⟨Nat.le_of_ble_eq_true rfl, Nat.le_of_ble_eq_true rfl⟩) (g_preV hK hW 5 (0) (mC (by decide) (by decide)) rfl rfl) rfl rfl hl.1 rfl (lv_room (Nat.le_of_ble_eq_true rfl)) dX0_worthAs_50 ⟨Nat.le_refl _, Nat.le_refl _⟩) hS (fun x4 I4 H locs hp hW hS => ?_)
    obtain ⟨ex4, eI4⟩ := hp
    rw [eI4] at hW
    clear eI4
    refine lv_i2l hx hb dX0_worthAs_53 rfl ?_
    rw [hQ]
    exact g_lret (wd := wC G ad) hx hb hr hlocks hW hS (by subst ex4 eI1 ex1; exact ⟨by rw [latG_g, wth, if_neg (by omega), if_pos (by omega)], rfl⟩) dX0_worthAs_54
  by_cases c9_1_4 : nI (k) = nI 4
  · replace c9_1_4 : k = 4 := (nI_eq (show k < 2147483648 by omega) (by decide)).mp c9_1_4
    refine lv_tableIn (tgt := 55) (off := 46) hx hb dX0_worthAs_9 (by rw [c9_1_4]; decide) (by rw [c9_1_4]; decide) (by rw [c9_1_4]; rfl) (by decide) ?_
    refine lv_aload_n hx hb dX0_worthAs_55 rfl (lv_at hl 1 rfl) ?_
    refine lv_iload hx hb dX0_worthAs_56 (lv_at hl 0 rfl) ?_
    refine g_ci (va_runV (As := [.int (nI ((gl I ia o).length))]) (rest := []) ⟨hx, hb, hml, hown, hts⟩ (c_X0_mostOfGathered l D G ad hI I1 (gl I ia o) hG) (cwV 1 hts gX0_worthAs_X0_mostOfGathered rfl rfl rfl (by decide +kernel) ⟨Nat.le_of_ble_eq_true rfl, Nat.le_of_ble_eq_true rfl⟩) (g_preV hK hW 5 (0) (mC (by decide) (by decide)) rfl rfl) rfl rfl hl.1 rfl (lv_room (Nat.le_of_ble_eq_true rfl)) dX0_worthAs_58 ⟨Nat.le_refl _, Nat.le_refl _⟩) hS (fun x5 I5 H locs hp hW hS => ?_)
    obtain ⟨ex5, eI5⟩ := hp
    rw [eI5] at hW
    clear eI5
    refine lv_i2l hx hb dX0_worthAs_61 rfl ?_
    rw [hQ]
    exact g_lret (wd := wC G ad) hx hb hr hlocks hW hS (by subst ex5 eI1 ex1; exact ⟨by rw [mosR_g, wth, if_neg (by omega), if_neg (by omega), if_pos (by omega)], rfl⟩) dX0_worthAs_62
  by_cases c9_1_5 : nI (k) = nI 5
  · replace c9_1_5 : k = 5 := (nI_eq (show k < 2147483648 by omega) (by decide)).mp c9_1_5
    refine lv_tableIn (tgt := 63) (off := 54) hx hb dX0_worthAs_9 (by rw [c9_1_5]; decide) (by rw [c9_1_5]; decide) (by rw [c9_1_5]; rfl) (by decide) ?_
    refine lv_aload_n hx hb dX0_worthAs_63 rfl (lv_at hl 1 rfl) ?_
    refine lv_iload hx hb dX0_worthAs_64 (lv_at hl 0 rfl) ?_
    refine g_ci (va_runV (As := [.int (nI ((gl I ia o).length))]) (rest := []) ⟨hx, hb, hml, hown, hts⟩ (c_X0_meanOfGathered l D G ad hI I1 (gl I ia o) hG) (cwV 1 hts gX0_worthAs_X0_meanOfGathered rfl rfl rfl (by decide +kernel) ⟨Nat.le_of_ble_eq_true rfl, Nat.le_of_ble_eq_true rfl⟩) (g_preV hK hW 5 (0) (mC (by decide) (by decide)) rfl rfl) rfl rfl hl.1 rfl (lv_room (Nat.le_of_ble_eq_true rfl)) dX0_worthAs_66 ⟨Nat.le_refl _, Nat.le_refl _⟩) hS (fun x6 I6 H locs hp hW hS => ?_)
    obtain ⟨ex6, eI6⟩ := hp
    rw [eI6] at hW
    clear eI6
    refine lv_i2l hx hb dX0_worthAs_69 rfl ?_
    rw [hQ]
    exact g_lret (wd := wC G ad) hx hb hr hlocks hW hS (by subst ex6 eI1 ex1; exact ⟨by rw [menR_g, wth, if_neg (by omega), if_neg (by omega), if_neg (by omega), if_pos (by omega)], rfl⟩) dX0_worthAs_70
  refine lv_tableOut (tgt := 71) hx hb dX0_worthAs_9 (sw_rng 2 5 (by decide) (fun j h1 h2 => by rcases (by omega : j = 2 ∨ j = 3 ∨ j = 4 ∨ j = 5) with rfl | rfl | rfl | rfl <;> assumption)) (by decide) ?_
  replace c9_1_2 : ¬ k = 2 := fun h => c9_1_2 (by rw [h])
  replace c9_1_3 : ¬ k = 3 := fun h => c9_1_3 (by rw [h])
  replace c9_1_4 : ¬ k = 4 := fun h => c9_1_4 (by rw [h])
  replace c9_1_5 : ¬ k = 5 := fun h => c9_1_5 (by rw [h])
  skip
  refine lv_iload hx hb dX0_worthAs_71 (lv_at hl 0 rfl) ?_
  refine lv_i2l hx hb dX0_worthAs_73 rfl ?_
  rw [hQ]
  exact g_lret (wd := wC G ad) hx hb hr hlocks hW hS (by subst eI1 ex1; exact ⟨by rw [wth, if_neg (by omega), if_neg (by omega), if_neg (by omega), if_neg (by omega)], rfl⟩) dX0_worthAs_74

set_option maxHeartbeats 4000000 in
set_option maxRecDepth 100000 in
theorem c_X0_make (l : Launch) (D : va_G) (G : Nat → ClassId) (ad : Nat → Nat → Nat) (hI : wI LC ad) (I : St) (r ia o : Nat) (v : Int32) (hr4 : r < 4) (hia : ia < 59) (hM : okM I) (hm31 : mk I r < 31) : Met l yX0_make wsX0_make ({ frames := 2, cells := 0, slots := 0, locals := 56 } : Room) (gPre D G LC ad [.ref (ad 5 (0)), .int (nI (r)), .ref (ad 4 (ia)), .int (nI (o)), .int (v)] (wC G ad I)) (gQi D LC ad (wC G ad) (fun r9 u => r9 = nI (mk I r) ∧ u = mkd I r ia o v)) 0 0 (wA LC ad) := by
  refine g_entry (C := RX0) (cc := cX0_make) (maxL := 7) (ret := (some .int)) rfl (by decide) rfl (Nat.le_of_ble_eq_true rfl) (fun p e s m args below meth c Q ls hQ hx hb hr hts hown hlocks hml hW hK hl => ?_)
  have hl : lv_has ls 7 [(0, .ref (ad 5 (0))), (1, .int (nI (r))), (2, .ref (ad 4 (ia))), (3, .int (nI (o))), (4, .int (v))] := hl
  have hS := va_S.rf (A := wA LC ad) (H0 := s.heap)
  have hinX0 : ∀ w ∈ wsX00, w ∈ wsX0_make := by decide +kernel
  have hf9 := hts (.fieldLink RX0 9 "JoinedStores$Dots" "made" "[I") (by decide +kernel)
  have hf15 := hts (.fieldLink RX0 15 "JoinedStores$Dots" "values" "[I") (by decide +kernel)
  have hf18 := hts (.fieldLink RX0 18 "JoinedStores$Dots" "stamps" "[I") (by decide +kernel)
  have hf21 := hts (.fieldLink RX0 21 "JoinedStores$Dots" "objects" "[I") (by decide +kernel)
  refine lv_aload_n hx hb dX0_make_0 rfl (lv_at hl 0 rfl) ?_
  refine r_get hx hb hts hown hK hW 5 (0) 0 (mC (by decide) (by decide)) rfl rfl hinX0 (by decide) hf9 rfl rfl dX0_make_1 ?_
  refine lv_iload_n hx hb dX0_make_4 rfl (lv_at hl 1 rfl) ?_
  refine rC_iald hx hb hK hW 12 (0) (r) (by decide) (by decide) (by decide) (show r < 4 by omega) rfl dX0_make_5 (fun x1 ex1 => ?_)
  refine r_top (show x1 = nI (mk I r) from (ex1.trans (hM r (by omega)).1)) ?_
  refine lv_istore (lv' := [(5, .int (nI (mk I r))), (0, .ref (ad 5 (0))), (1, .int (nI (r))), (2, .ref (ad 4 (ia))), (3, .int (nI (o))), (4, .int (v))]) hx hb dX0_make_6 hl (by decide) rfl (fun ls hl => ?_)
  refine lv_iload_n hx hb dX0_make_8 rfl (lv_at hl 2 rfl) ?_
  refine lv_iload hx hb dX0_make_9 (lv_at hl 0 rfl) ?_
  refine g_pi (va_runSN (As := [.int (nI (r)), .int (nI (mk I r))]) (rest := []) ⟨hx, hb, hml, hown, hts⟩ (c_X5_placeOf l (r) (mk I r)) ⟨va_cnB 2 hts gX0_make_X5_placeOf_n33 rfl rfl rfl (hK.2 _ (List.mem_of_getElem? (i := 0) rfl)) (hts (.initialized RX5) (by decide +kernel)) (by decide +kernel) ⟨Nat.le_of_ble_eq_true rfl, Nat.le_of_ble_eq_true rfl⟩, hts (.static yX5_placeOf) (by decide +kernel), trivial⟩ p_preS rfl rfl hl.1 rfl (lv_room (Nat.le_of_ble_eq_true rfl)) dX0_make_11 ⟨Nat.le_refl _, Nat.le_refl _⟩) hW hS (fun H locs hW hS => ?_)
  refine lv_istore (lv' := [(6, .int (nI (r * 31 + (mk I r)))), (5, .int (nI (mk I r))), (0, .ref (ad 5 (0))), (1, .int (nI (r))), (2, .ref (ad 4 (ia))), (3, .int (nI (o))), (4, .int (v))]) hx hb dX0_make_14 hl (by decide) rfl (fun ls hl => ?_)
  refine lv_aload_n hx hb dX0_make_16 rfl (lv_at hl 2 rfl) ?_
  refine r_get hx hb hts hown hK hW 5 (0) 2 (mC (by decide) (by decide)) rfl rfl hinX0 (by decide) hf18 rfl rfl dX0_make_17 ?_
  refine lv_iload hx hb dX0_make_20 (lv_at hl 0 rfl) ?_
  refine lv_iconst (v := nI 1) hx hb dX0_make_22 (by decide) ?_
  refine lv_aload_n hx hb dX0_make_23 rfl (lv_at hl 2 rfl) ?_
  refine lv_aload_n hx hb dX0_make_24 rfl (lv_at hl 4 rfl) ?_
  refine g_ci (va_runV (As := [.ref (ad 4 (ia))]) (rest := [.int (nI (1)), .int (nI (r * 31 + (mk I r))), .ref (ad 14 (0))]) ⟨hx, hb, hml, hown, hts⟩ (c_X0_greatestStampHeard l D G ad hI I ia (show ia < 59 by omega) hM) (cwV 1 hts gX0_make_X0_greatestStampHeard rfl rfl rfl (by decide +kernel) ⟨Nat.le_of_ble_eq_true rfl, Nat.le_of_ble_eq_true rfl⟩) (g_preV hK hW 5 (0) (mC (by decide) (by decide)) rfl rfl) rfl rfl hl.1 rfl (lv_room (Nat.le_of_ble_eq_true rfl)) dX0_make_25 ⟨Nat.le_refl _, Nat.le_refl _⟩) hS (fun x2 I2 H locs hp hW hS => ?_)
  obtain ⟨ex2, eI2⟩ := hp
  rw [eI2] at hW
  clear eI2
  refine lv_iadd hx hb dX0_make_28 (lv_topi (fun x3 ex3 => ?_))
  refine rC_iast hx hb hK hI hW hS 14 (0) (r * 31 + (mk I r)) (by decide) (by decide) (by decide) (show r * 31 + (mk I r) < 124 by omega) rfl dX0_make_29 (fun I4 H locs eI4 hW hS => ?_)
  refine lv_aload_n hx hb dX0_make_30 rfl (lv_at hl 2 rfl) ?_
  refine r_get hx hb hts hown hK hW 5 (0) 1 (mC (by decide) (by decide)) rfl rfl hinX0 (by decide) hf15 rfl rfl dX0_make_31 ?_
  refine lv_iload hx hb dX0_make_34 (lv_at hl 0 rfl) ?_
  refine lv_iload hx hb dX0_make_36 (lv_at hl 6 rfl) ?_
  refine rC_iast hx hb hK hI hW hS 13 (0) (r * 31 + (mk I r)) (by decide) (by decide) (by decide) (show r * 31 + (mk I r) < 124 by omega) rfl dX0_make_38 (fun I5 H locs eI5 hW hS => ?_)
  refine lv_aload_n hx hb dX0_make_39 rfl (lv_at hl 2 rfl) ?_
  refine r_get hx hb hts hown hK hW 5 (0) 3 (mC (by decide) (by decide)) rfl rfl hinX0 (by decide) hf21 rfl rfl dX0_make_40 ?_
  refine lv_iload hx hb dX0_make_43 (lv_at hl 0 rfl) ?_
  refine lv_iload_n hx hb dX0_make_45 rfl (lv_at hl 5 rfl) ?_
  refine rC_iast hx hb hK hI hW hS 15 (0) (r * 31 + (mk I r)) (by decide) (by decide) (by decide) (show r * 31 + (mk I r) < 124 by omega) rfl dX0_make_46 (fun I6 H locs eI6 hW hS => ?_)
  refine lv_aload_n hx hb dX0_make_47 rfl (lv_at hl 2 rfl) ?_
  refine r_get hx hb hts hown hK hW 5 (0) 0 (mC (by decide) (by decide)) rfl rfl hinX0 (by decide) hf9 rfl rfl dX0_make_48 ?_
  refine lv_iload_n hx hb dX0_make_51 rfl (lv_at hl 3 rfl) ?_
  refine lv_dup2_11 hx hb dX0_make_52 rfl rfl ?_
  refine rC_iald hx hb hK hW 12 (0) (r) (by decide) (by decide) (by decide) (show r < 4 by omega) rfl dX0_make_53 (fun x7 ex7 => ?_)
  refine r_top (show x7 = nI (mk I r) from (by subst ex7 eI6 eI5 eI4 ex3 ex2 ex1; rw [up3_f (by decide), up3_f (by decide), up3_f (by decide)]; exact (hM r (by omega)).1)) ?_
  refine lv_iconst (v := nI 1) hx hb dX0_make_54 (by decide) ?_
  refine lv_iadd hx hb dX0_make_55 (r_top (nI_add _ _) ?_)
  refine rC_iast hx hb hK hI hW hS 12 (0) (r) (by decide) (by decide) (by decide) (show r < 4 by omega) rfl dX0_make_56 (fun I8 H locs eI8 hW hS => ?_)
  refine lv_iload hx hb dX0_make_57 (lv_at hl 1 rfl) ?_
  rw [hQ]
  exact g_iret (wd := wC G ad) hx hb hr rfl hlocks hW hS (by subst eI8 ex7 eI6 eI5 eI4 ex3 ex2 ex1; exact ⟨rfl, rfl⟩) dX0_make_59

set_option maxHeartbeats 4000000 in
set_option maxRecDepth 100000 in
theorem c_X0_become_0 (l : Launch) (D : va_G) (G : Nat → ClassId) (ad : Nat → Nat → Nat) (hI : wI LC ad) (I : St)  : Met l yX0_become wsX0_become ({ frames := 1, cells := 0, slots := 0, locals := 64 } : Room) (gPre D G LC ad [.ref (ad 5 (0)), .ref (ad 5 (1))] (wC G ad I)) (gQv D LC ad (wC G ad) (fun u => u = dcp I 1 0)) 0 0 (wA LC ad) := by
  refine g_entry (C := RX0) (cc := cX0_become) (maxL := 2) (ret := none) rfl (by decide) rfl (Nat.le_of_ble_eq_true rfl) (fun p e s m args below meth c Q ls hQ hx hb hr hts hown hlocks hml hW hK hl => ?_)
  have hl : lv_has ls 2 [(0, .ref (ad 5 (0))), (1, .ref (ad 5 (1)))] := hl
  have hS := va_S.rf (A := wA LC ad) (H0 := s.heap)
  have hinX0 : ∀ w ∈ wsX00, w ∈ wsX0_become := by decide +kernel
  have hf9 := hts (.fieldLink RX0 9 "JoinedStores$Dots" "made" "[I") (by decide +kernel)
  have hf15 := hts (.fieldLink RX0 15 "JoinedStores$Dots" "values" "[I") (by decide +kernel)
  have hf18 := hts (.fieldLink RX0 18 "JoinedStores$Dots" "stamps" "[I") (by decide +kernel)
  have hf21 := hts (.fieldLink RX0 21 "JoinedStores$Dots" "objects" "[I") (by decide +kernel)
  refine lv_aload_n hx hb dX0_become_0 rfl (lv_at hl 1 rfl) ?_
  refine r_get hx hb hts hown hK hW 5 (1) 0 (mC (by decide) (by decide)) rfl rfl hinX0 (by decide) hf9 rfl rfl dX0_become_1 ?_
  refine lv_iconst (v := nI 0) hx hb dX0_become_4 (by decide) ?_
  refine lv_aload_n hx hb dX0_become_5 rfl (lv_at hl 0 rfl) ?_
  refine r_get hx hb hts hown hK hW 5 (0) 0 (mC (by decide) (by decide)) rfl rfl hinX0 (by decide) hf9 rfl rfl dX0_become_6 ?_
  refine lv_iconst (v := nI 0) hx hb dX0_become_9 (by decide) ?_
  refine lv_aload_n hx hb dX0_become_10 rfl (lv_at hl 0 rfl) ?_
  refine r_get hx hb hts hown hK hW 5 (0) 0 (mC (by decide) (by decide)) rfl rfl hinX0 (by decide) hf9 rfl rfl dX0_become_11 ?_
  refine r_alen hx hb hK hW 12 (0) (mC (by decide) (by decide)) (wC_arr (by decide)) dX0_become_14 ?_
  refine rC_copy hx hb (hml.trans hl.1.symm) hown (hts (.methodLink RX0 27 arraycopyName) (by decide +kernel)) (hts (.native arraycopyName) (by decide +kernel)) (hts (.static arraycopyName) (by decide +kernel)) (hts (.initialized "java/lang/System") (by decide +kernel)) hK hI hW hS 12 (1) 12 (0) (0) (0) (4) (by decide) (by decide) (by decide) (by decide) (by decide) (by decide) (by decide) (by decide) rfl rfl rfl (by decide) (by decide) dX0_become_15 (fun I1 H locs eI1 hW hS => ?_)
  refine lv_aload_n hx hb dX0_become_18 rfl (lv_at hl 1 rfl) ?_
  refine r_get hx hb hts hown hK hW 5 (1) 1 (mC (by decide) (by decide)) rfl rfl hinX0 (by decide) hf15 rfl rfl dX0_become_19 ?_
  refine lv_iconst (v := nI 0) hx hb dX0_become_22 (by decide) ?_
  refine lv_aload_n hx hb dX0_become_23 rfl (lv_at hl 0 rfl) ?_
  refine r_get hx hb hts hown hK hW 5 (0) 1 (mC (by decide) (by decide)) rfl rfl hinX0 (by decide) hf15 rfl rfl dX0_become_24 ?_
  refine lv_iconst (v := nI 0) hx hb dX0_become_27 (by decide) ?_
  refine lv_aload_n hx hb dX0_become_28 rfl (lv_at hl 0 rfl) ?_
  refine r_get hx hb hts hown hK hW 5 (0) 1 (mC (by decide) (by decide)) rfl rfl hinX0 (by decide) hf15 rfl rfl dX0_become_29 ?_
  refine r_alen hx hb hK hW 13 (0) (mC (by decide) (by decide)) (wC_arr (by decide)) dX0_become_32 ?_
  refine rC_copy hx hb (hml.trans hl.1.symm) hown (hts (.methodLink RX0 27 arraycopyName) (by decide +kernel)) (hts (.native arraycopyName) (by decide +kernel)) (hts (.static arraycopyName) (by decide +kernel)) (hts (.initialized "java/lang/System") (by decide +kernel)) hK hI hW hS 13 (1) 13 (0) (0) (0) (124) (by decide) (by decide) (by decide) (by decide) (by decide) (by decide) (by decide) (by decide) rfl rfl rfl (by decide) (by decide) dX0_become_33 (fun I2 H locs eI2 hW hS => ?_)
  refine lv_aload_n hx hb dX0_become_36 rfl (lv_at hl 1 rfl) ?_
  refine r_get hx hb hts hown hK hW 5 (1) 2 (mC (by decide) (by decide)) rfl rfl hinX0 (by decide) hf18 rfl rfl dX0_become_37 ?_
  refine lv_iconst (v := nI 0) hx hb dX0_become_40 (by decide) ?_
  refine lv_aload_n hx hb dX0_become_41 rfl (lv_at hl 0 rfl) ?_
  refine r_get hx hb hts hown hK hW 5 (0) 2 (mC (by decide) (by decide)) rfl rfl hinX0 (by decide) hf18 rfl rfl dX0_become_42 ?_
  refine lv_iconst (v := nI 0) hx hb dX0_become_45 (by decide) ?_
  refine lv_aload_n hx hb dX0_become_46 rfl (lv_at hl 0 rfl) ?_
  refine r_get hx hb hts hown hK hW 5 (0) 2 (mC (by decide) (by decide)) rfl rfl hinX0 (by decide) hf18 rfl rfl dX0_become_47 ?_
  refine r_alen hx hb hK hW 14 (0) (mC (by decide) (by decide)) (wC_arr (by decide)) dX0_become_50 ?_
  refine rC_copy hx hb (hml.trans hl.1.symm) hown (hts (.methodLink RX0 27 arraycopyName) (by decide +kernel)) (hts (.native arraycopyName) (by decide +kernel)) (hts (.static arraycopyName) (by decide +kernel)) (hts (.initialized "java/lang/System") (by decide +kernel)) hK hI hW hS 14 (1) 14 (0) (0) (0) (124) (by decide) (by decide) (by decide) (by decide) (by decide) (by decide) (by decide) (by decide) rfl rfl rfl (by decide) (by decide) dX0_become_51 (fun I3 H locs eI3 hW hS => ?_)
  refine lv_aload_n hx hb dX0_become_54 rfl (lv_at hl 1 rfl) ?_
  refine r_get hx hb hts hown hK hW 5 (1) 3 (mC (by decide) (by decide)) rfl rfl hinX0 (by decide) hf21 rfl rfl dX0_become_55 ?_
  refine lv_iconst (v := nI 0) hx hb dX0_become_58 (by decide) ?_
  refine lv_aload_n hx hb dX0_become_59 rfl (lv_at hl 0 rfl) ?_
  refine r_get hx hb hts hown hK hW 5 (0) 3 (mC (by decide) (by decide)) rfl rfl hinX0 (by decide) hf21 rfl rfl dX0_become_60 ?_
  refine lv_iconst (v := nI 0) hx hb dX0_become_63 (by decide) ?_
  refine lv_aload_n hx hb dX0_become_64 rfl (lv_at hl 0 rfl) ?_
  refine r_get hx hb hts hown hK hW 5 (0) 3 (mC (by decide) (by decide)) rfl rfl hinX0 (by decide) hf21 rfl rfl dX0_become_65 ?_
  refine r_alen hx hb hK hW 15 (0) (mC (by decide) (by decide)) (wC_arr (by decide)) dX0_become_68 ?_
  refine rC_copy hx hb (hml.trans hl.1.symm) hown (hts (.methodLink RX0 27 arraycopyName) (by decide +kernel)) (hts (.native arraycopyName) (by decide +kernel)) (hts (.static arraycopyName) (by decide +kernel)) (hts (.initialized "java/lang/System") (by decide +kernel)) hK hI hW hS 15 (1) 15 (0) (0) (0) (124) (by decide) (by decide) (by decide) (by decide) (by decide) (by decide) (by decide) (by decide) rfl rfl rfl (by decide) (by decide) dX0_become_69 (fun I4 H locs eI4 hW hS => ?_)
  rw [hQ]
  exact g_vret (wd := wC G ad) hx hb hr hlocks hW hS (by subst eI4 eI3 eI2 eI1; rfl) dX0_become_72

set_option maxHeartbeats 4000000 in
set_option maxRecDepth 100000 in
theorem c_X0_become_1 (l : Launch) (D : va_G) (G : Nat → ClassId) (ad : Nat → Nat → Nat) (hI : wI LC ad) (I : St)  : Met l yX0_become wsX0_become ({ frames := 1, cells := 0, slots := 0, locals := 64 } : Room) (gPre D G LC ad [.ref (ad 5 (1)), .ref (ad 5 (0))] (wC G ad I)) (gQv D LC ad (wC G ad) (fun u => u = dcp I 0 1)) 0 0 (wA LC ad) := by
  refine g_entry (C := RX0) (cc := cX0_become) (maxL := 2) (ret := none) rfl (by decide) rfl (Nat.le_of_ble_eq_true rfl) (fun p e s m args below meth c Q ls hQ hx hb hr hts hown hlocks hml hW hK hl => ?_)
  have hl : lv_has ls 2 [(0, .ref (ad 5 (1))), (1, .ref (ad 5 (0)))] := hl
  have hS := va_S.rf (A := wA LC ad) (H0 := s.heap)
  have hinX0 : ∀ w ∈ wsX00, w ∈ wsX0_become := by decide +kernel
  have hf9 := hts (.fieldLink RX0 9 "JoinedStores$Dots" "made" "[I") (by decide +kernel)
  have hf15 := hts (.fieldLink RX0 15 "JoinedStores$Dots" "values" "[I") (by decide +kernel)
  have hf18 := hts (.fieldLink RX0 18 "JoinedStores$Dots" "stamps" "[I") (by decide +kernel)
  have hf21 := hts (.fieldLink RX0 21 "JoinedStores$Dots" "objects" "[I") (by decide +kernel)
  refine lv_aload_n hx hb dX0_become_0 rfl (lv_at hl 1 rfl) ?_
  refine r_get hx hb hts hown hK hW 5 (0) 0 (mC (by decide) (by decide)) rfl rfl hinX0 (by decide) hf9 rfl rfl dX0_become_1 ?_
  refine lv_iconst (v := nI 0) hx hb dX0_become_4 (by decide) ?_
  refine lv_aload_n hx hb dX0_become_5 rfl (lv_at hl 0 rfl) ?_
  refine r_get hx hb hts hown hK hW 5 (1) 0 (mC (by decide) (by decide)) rfl rfl hinX0 (by decide) hf9 rfl rfl dX0_become_6 ?_
  refine lv_iconst (v := nI 0) hx hb dX0_become_9 (by decide) ?_
  refine lv_aload_n hx hb dX0_become_10 rfl (lv_at hl 0 rfl) ?_
  refine r_get hx hb hts hown hK hW 5 (1) 0 (mC (by decide) (by decide)) rfl rfl hinX0 (by decide) hf9 rfl rfl dX0_become_11 ?_
  refine r_alen hx hb hK hW 12 (1) (mC (by decide) (by decide)) (wC_arr (by decide)) dX0_become_14 ?_
  refine rC_copy hx hb (hml.trans hl.1.symm) hown (hts (.methodLink RX0 27 arraycopyName) (by decide +kernel)) (hts (.native arraycopyName) (by decide +kernel)) (hts (.static arraycopyName) (by decide +kernel)) (hts (.initialized "java/lang/System") (by decide +kernel)) hK hI hW hS 12 (0) 12 (1) (0) (0) (4) (by decide) (by decide) (by decide) (by decide) (by decide) (by decide) (by decide) (by decide) rfl rfl rfl (by decide) (by decide) dX0_become_15 (fun I1 H locs eI1 hW hS => ?_)
  refine lv_aload_n hx hb dX0_become_18 rfl (lv_at hl 1 rfl) ?_
  refine r_get hx hb hts hown hK hW 5 (0) 1 (mC (by decide) (by decide)) rfl rfl hinX0 (by decide) hf15 rfl rfl dX0_become_19 ?_
  refine lv_iconst (v := nI 0) hx hb dX0_become_22 (by decide) ?_
  refine lv_aload_n hx hb dX0_become_23 rfl (lv_at hl 0 rfl) ?_
  refine r_get hx hb hts hown hK hW 5 (1) 1 (mC (by decide) (by decide)) rfl rfl hinX0 (by decide) hf15 rfl rfl dX0_become_24 ?_
  refine lv_iconst (v := nI 0) hx hb dX0_become_27 (by decide) ?_
  refine lv_aload_n hx hb dX0_become_28 rfl (lv_at hl 0 rfl) ?_
  refine r_get hx hb hts hown hK hW 5 (1) 1 (mC (by decide) (by decide)) rfl rfl hinX0 (by decide) hf15 rfl rfl dX0_become_29 ?_
  refine r_alen hx hb hK hW 13 (1) (mC (by decide) (by decide)) (wC_arr (by decide)) dX0_become_32 ?_
  refine rC_copy hx hb (hml.trans hl.1.symm) hown (hts (.methodLink RX0 27 arraycopyName) (by decide +kernel)) (hts (.native arraycopyName) (by decide +kernel)) (hts (.static arraycopyName) (by decide +kernel)) (hts (.initialized "java/lang/System") (by decide +kernel)) hK hI hW hS 13 (0) 13 (1) (0) (0) (124) (by decide) (by decide) (by decide) (by decide) (by decide) (by decide) (by decide) (by decide) rfl rfl rfl (by decide) (by decide) dX0_become_33 (fun I2 H locs eI2 hW hS => ?_)
  refine lv_aload_n hx hb dX0_become_36 rfl (lv_at hl 1 rfl) ?_
  refine r_get hx hb hts hown hK hW 5 (0) 2 (mC (by decide) (by decide)) rfl rfl hinX0 (by decide) hf18 rfl rfl dX0_become_37 ?_
  refine lv_iconst (v := nI 0) hx hb dX0_become_40 (by decide) ?_
  refine lv_aload_n hx hb dX0_become_41 rfl (lv_at hl 0 rfl) ?_
  refine r_get hx hb hts hown hK hW 5 (1) 2 (mC (by decide) (by decide)) rfl rfl hinX0 (by decide) hf18 rfl rfl dX0_become_42 ?_
  refine lv_iconst (v := nI 0) hx hb dX0_become_45 (by decide) ?_
  refine lv_aload_n hx hb dX0_become_46 rfl (lv_at hl 0 rfl) ?_
  refine r_get hx hb hts hown hK hW 5 (1) 2 (mC (by decide) (by decide)) rfl rfl hinX0 (by decide) hf18 rfl rfl dX0_become_47 ?_
  refine r_alen hx hb hK hW 14 (1) (mC (by decide) (by decide)) (wC_arr (by decide)) dX0_become_50 ?_
  refine rC_copy hx hb (hml.trans hl.1.symm) hown (hts (.methodLink RX0 27 arraycopyName) (by decide +kernel)) (hts (.native arraycopyName) (by decide +kernel)) (hts (.static arraycopyName) (by decide +kernel)) (hts (.initialized "java/lang/System") (by decide +kernel)) hK hI hW hS 14 (0) 14 (1) (0) (0) (124) (by decide) (by decide) (by decide) (by decide) (by decide) (by decide) (by decide) (by decide) rfl rfl rfl (by decide) (by decide) dX0_become_51 (fun I3 H locs eI3 hW hS => ?_)
  refine lv_aload_n hx hb dX0_become_54 rfl (lv_at hl 1 rfl) ?_
  refine r_get hx hb hts hown hK hW 5 (0) 3 (mC (by decide) (by decide)) rfl rfl hinX0 (by decide) hf21 rfl rfl dX0_become_55 ?_
  refine lv_iconst (v := nI 0) hx hb dX0_become_58 (by decide) ?_
  refine lv_aload_n hx hb dX0_become_59 rfl (lv_at hl 0 rfl) ?_
  refine r_get hx hb hts hown hK hW 5 (1) 3 (mC (by decide) (by decide)) rfl rfl hinX0 (by decide) hf21 rfl rfl dX0_become_60 ?_
  refine lv_iconst (v := nI 0) hx hb dX0_become_63 (by decide) ?_
  refine lv_aload_n hx hb dX0_become_64 rfl (lv_at hl 0 rfl) ?_
  refine r_get hx hb hts hown hK hW 5 (1) 3 (mC (by decide) (by decide)) rfl rfl hinX0 (by decide) hf21 rfl rfl dX0_become_65 ?_
  refine r_alen hx hb hK hW 15 (1) (mC (by decide) (by decide)) (wC_arr (by decide)) dX0_become_68 ?_
  refine rC_copy hx hb (hml.trans hl.1.symm) hown (hts (.methodLink RX0 27 arraycopyName) (by decide +kernel)) (hts (.native arraycopyName) (by decide +kernel)) (hts (.static arraycopyName) (by decide +kernel)) (hts (.initialized "java/lang/System") (by decide +kernel)) hK hI hW hS 15 (0) 15 (1) (0) (0) (124) (by decide) (by decide) (by decide) (by decide) (by decide) (by decide) (by decide) (by decide) rfl rfl rfl (by decide) (by decide) dX0_become_69 (fun I4 H locs eI4 hW hS => ?_)
  rw [hQ]
  exact g_vret (wd := wC G ad) hx hb hr hlocks hW hS (by subst eI4 eI3 eI2 eI1; rfl) dX0_become_72
