/-! ===== messages, the network, sheets ===== -/
set_option maxHeartbeats 4000000 in
set_option maxRecDepth 100000 in
theorem c_X1_become_10 (l : Launch) (D : va_G) (G : Nat → ClassId) (ad : Nat → Nat → Nat) (hI : wI LC ad) (I : St) (q ia ic : Nat) (a b : Int32) (hq : q < 12) (hia : ia < 59) (hic : ic < 59) : Met l yX1_become wsX1_become ({ frames := 1, cells := 0, slots := 0, locals := 64 } : Room) (gPre D G LC ad [.ref (ad 8 (q)), .int (a), .int (b), .ref (ad 4 (ia)), .ref (ad 10 (ic))] (wC G ad I)) (gQv D LC ad (wC G ad) (fun u => u = mset I q a b ia 10 ic)) 0 0 (wA LC ad) := by
  refine g_entry (C := RX1) (cc := cX1_become) (maxL := 5) (ret := none) rfl (by decide) rfl (Nat.le_of_ble_eq_true rfl) (fun p e s m args below meth c Q ls hQ hx hb hr hts hown hlocks hml hW hK hl => ?_)
  have hl : lv_has ls 5 [(0, .ref (ad 8 (q))), (1, .int (a)), (2, .int (b)), (3, .ref (ad 4 (ia))), (4, .ref (ad 10 (ic)))] := hl
  have hS := va_S.rf (A := wA LC ad) (H0 := s.heap)
  have hinX1 : ∀ w ∈ wsX10, w ∈ wsX1_become := by decide +kernel
  have hf12 := hts (.fieldLink RX1 12 "JoinedStores$Message" "store" "LJoinedStores$Store;") (by decide +kernel)
  have hf18 := hts (.fieldLink RX1 18 "JoinedStores$Message" "had" "[I") (by decide +kernel)
  have hf22 := hts (.fieldLink RX1 22 "JoinedStores$Message" "from" "I") (by decide +kernel)
  have hf26 := hts (.fieldLink RX1 26 "JoinedStores$Message" "to" "I") (by decide +kernel)
  refine lv_aload_n hx hb dX1_become_0 rfl (lv_at hl 0 rfl) ?_
  refine lv_iload_n hx hb dX1_become_1 rfl (lv_at hl 1 rfl) ?_
  refine r_puti (wd := wC G ad) (ty := .int) hx hb hts hown hK hI hW hS 8 (q) 0 (mC (by decide) (show q < 12 by omega)) rfl rfl hinX1 (by decide) hf22 rfl tyX1 tyX1_ok nmX1 rfl (by decide +kernel) rfl rfl (Nat.le_of_ble_eq_true rfl) (by simp [wC, up3]) (fun f' i' hn => wC_up f' i' hn) dX1_become_2 (fun I1 H locs eI1 hW hS => ?_)
  refine lv_aload_n hx hb dX1_become_5 rfl (lv_at hl 0 rfl) ?_
  refine lv_iload_n hx hb dX1_become_6 rfl (lv_at hl 2 rfl) ?_
  refine r_puti (wd := wC G ad) (ty := .int) hx hb hts hown hK hI hW hS 8 (q) 1 (mC (by decide) (show q < 12 by omega)) rfl rfl hinX1 (by decide) hf26 rfl tyX1 tyX1_ok nmX1 rfl (by decide +kernel) rfl rfl (Nat.le_of_ble_eq_true rfl) (by simp [wC, up3]) (fun f' i' hn => wC_up f' i' hn) dX1_become_7 (fun I2 H locs eI2 hW hS => ?_)
  refine lv_aload_n hx hb dX1_become_10 rfl (lv_at hl 0 rfl) ?_
  refine r_get hx hb hts hown hK hW 8 (q) 2 (mC (by decide) (show q < 12 by omega)) rfl rfl hinX1 (by decide) hf12 rfl rfl dX1_become_11 ?_
  refine lv_aload_n hx hb dX1_become_14 rfl (lv_at hl 3 rfl) ?_
  refine g_cv (va_runV (As := [.ref (ad 4 (ia))]) (rest := []) ⟨hx, hb, hml, hown, hts⟩ (c_X4_become l D G ad hI I2 (q + 20) ia (show q + 20 < 59 by omega) (show ia < 59 by omega)) (cwV 1 hts gX1_become_X4_become rfl rfl rfl (by decide +kernel) ⟨Nat.le_of_ble_eq_true rfl, Nat.le_of_ble_eq_true rfl⟩) (g_preV hK hW 4 (q + 20) (mC (by decide) (show q + 20 < 59 by omega)) rfl rfl) rfl rfl hl.1 rfl (lv_room (Nat.le_of_ble_eq_true rfl)) dX1_become_15 ⟨Nat.le_refl _, Nat.le_refl _⟩) hS (fun I3 H locs hp hW hS => ?_)
  have eI3 : I3 = cpy I2 (q + 20) ia := hp
  refine lv_aload hx hb dX1_become_18 (lv_at hl 4 rfl) ?_
  refine lv_iconst (v := nI 0) hx hb dX1_become_20 (by decide) ?_
  refine lv_aload_n hx hb dX1_become_21 rfl (lv_at hl 0 rfl) ?_
  refine r_get hx hb hts hown hK hW 8 (q) 3 (mC (by decide) (show q < 12 by omega)) rfl rfl hinX1 (by decide) hf18 rfl rfl dX1_become_22 ?_
  refine lv_iconst (v := nI 0) hx hb dX1_become_25 (by decide) ?_
  refine lv_iconst (v := nI 4) hx hb dX1_become_26 (by decide) ?_
  refine rC_copy hx hb (hml.trans hl.1.symm) hown (hts (.methodLink RX1 33 arraycopyName) (by decide +kernel)) (hts (.native arraycopyName) (by decide +kernel)) (hts (.static arraycopyName) (by decide +kernel)) (hts (.initialized "java/lang/System") (by decide +kernel)) hK hI hW hS 10 (ic) 18 (q) (0) (0) (4) (by decide) (by decide) (show ic < 59 by omega) (by decide) (by decide) (show q < 12 by omega) (by decide) (by decide) rfl rfl rfl (by decide) (by decide) dX1_become_27 (fun I4 H locs eI4 hW hS => ?_)
  rw [hQ]
  exact g_vret (wd := wC G ad) hx hb hr hlocks hW hS (by subst eI4 eI3 eI2 eI1; rfl) dX1_become_30

set_option maxHeartbeats 4000000 in
set_option maxRecDepth 100000 in
theorem c_X1_become_18 (l : Launch) (D : va_G) (G : Nat → ClassId) (ad : Nat → Nat → Nat) (hI : wI LC ad) (I : St) (q ia ic : Nat) (a b : Int32) (hq : q < 12) (hia : ia < 59) (hic : ic < 12) : Met l yX1_become wsX1_become ({ frames := 1, cells := 0, slots := 0, locals := 64 } : Room) (gPre D G LC ad [.ref (ad 8 (q)), .int (a), .int (b), .ref (ad 4 (ia)), .ref (ad 18 (ic))] (wC G ad I)) (gQv D LC ad (wC G ad) (fun u => u = mset I q a b ia 18 ic)) 0 0 (wA LC ad) := by
  refine g_entry (C := RX1) (cc := cX1_become) (maxL := 5) (ret := none) rfl (by decide) rfl (Nat.le_of_ble_eq_true rfl) (fun p e s m args below meth c Q ls hQ hx hb hr hts hown hlocks hml hW hK hl => ?_)
  have hl : lv_has ls 5 [(0, .ref (ad 8 (q))), (1, .int (a)), (2, .int (b)), (3, .ref (ad 4 (ia))), (4, .ref (ad 18 (ic)))] := hl
  have hS := va_S.rf (A := wA LC ad) (H0 := s.heap)
  have hinX1 : ∀ w ∈ wsX10, w ∈ wsX1_become := by decide +kernel
  have hf12 := hts (.fieldLink RX1 12 "JoinedStores$Message" "store" "LJoinedStores$Store;") (by decide +kernel)
  have hf18 := hts (.fieldLink RX1 18 "JoinedStores$Message" "had" "[I") (by decide +kernel)
  have hf22 := hts (.fieldLink RX1 22 "JoinedStores$Message" "from" "I") (by decide +kernel)
  have hf26 := hts (.fieldLink RX1 26 "JoinedStores$Message" "to" "I") (by decide +kernel)
  refine lv_aload_n hx hb dX1_become_0 rfl (lv_at hl 0 rfl) ?_
  refine lv_iload_n hx hb dX1_become_1 rfl (lv_at hl 1 rfl) ?_
  refine r_puti (wd := wC G ad) (ty := .int) hx hb hts hown hK hI hW hS 8 (q) 0 (mC (by decide) (show q < 12 by omega)) rfl rfl hinX1 (by decide) hf22 rfl tyX1 tyX1_ok nmX1 rfl (by decide +kernel) rfl rfl (Nat.le_of_ble_eq_true rfl) (by simp [wC, up3]) (fun f' i' hn => wC_up f' i' hn) dX1_become_2 (fun I1 H locs eI1 hW hS => ?_)
  refine lv_aload_n hx hb dX1_become_5 rfl (lv_at hl 0 rfl) ?_
  refine lv_iload_n hx hb dX1_become_6 rfl (lv_at hl 2 rfl) ?_
  refine r_puti (wd := wC G ad) (ty := .int) hx hb hts hown hK hI hW hS 8 (q) 1 (mC (by decide) (show q < 12 by omega)) rfl rfl hinX1 (by decide) hf26 rfl tyX1 tyX1_ok nmX1 rfl (by decide +kernel) rfl rfl (Nat.le_of_ble_eq_true rfl) (by simp [wC, up3]) (fun f' i' hn => wC_up f' i' hn) dX1_become_7 (fun I2 H locs eI2 hW hS => ?_)
  refine lv_aload_n hx hb dX1_become_10 rfl (lv_at hl 0 rfl) ?_
  refine r_get hx hb hts hown hK hW 8 (q) 2 (mC (by decide) (show q < 12 by omega)) rfl rfl hinX1 (by decide) hf12 rfl rfl dX1_become_11 ?_
  refine lv_aload_n hx hb dX1_become_14 rfl (lv_at hl 3 rfl) ?_
  refine g_cv (va_runV (As := [.ref (ad 4 (ia))]) (rest := []) ⟨hx, hb, hml, hown, hts⟩ (c_X4_become l D G ad hI I2 (q + 20) ia (show q + 20 < 59 by omega) (show ia < 59 by omega)) (cwV 1 hts gX1_become_X4_become rfl rfl rfl (by decide +kernel) ⟨Nat.le_of_ble_eq_true rfl, Nat.le_of_ble_eq_true rfl⟩) (g_preV hK hW 4 (q + 20) (mC (by decide) (show q + 20 < 59 by omega)) rfl rfl) rfl rfl hl.1 rfl (lv_room (Nat.le_of_ble_eq_true rfl)) dX1_become_15 ⟨Nat.le_refl _, Nat.le_refl _⟩) hS (fun I3 H locs hp hW hS => ?_)
  have eI3 : I3 = cpy I2 (q + 20) ia := hp
  refine lv_aload hx hb dX1_become_18 (lv_at hl 4 rfl) ?_
  refine lv_iconst (v := nI 0) hx hb dX1_become_20 (by decide) ?_
  refine lv_aload_n hx hb dX1_become_21 rfl (lv_at hl 0 rfl) ?_
  refine r_get hx hb hts hown hK hW 8 (q) 3 (mC (by decide) (show q < 12 by omega)) rfl rfl hinX1 (by decide) hf18 rfl rfl dX1_become_22 ?_
  refine lv_iconst (v := nI 0) hx hb dX1_become_25 (by decide) ?_
  refine lv_iconst (v := nI 4) hx hb dX1_become_26 (by decide) ?_
  refine rC_copy hx hb (hml.trans hl.1.symm) hown (hts (.methodLink RX1 33 arraycopyName) (by decide +kernel)) (hts (.native arraycopyName) (by decide +kernel)) (hts (.static arraycopyName) (by decide +kernel)) (hts (.initialized "java/lang/System") (by decide +kernel)) hK hI hW hS 18 (ic) 18 (q) (0) (0) (4) (by decide) (by decide) (show ic < 12 by omega) (by decide) (by decide) (show q < 12 by omega) (by decide) (by decide) rfl rfl rfl (by decide) (by decide) dX1_become_27 (fun I4 H locs eI4 hW hS => ?_)
  rw [hQ]
  exact g_vret (wd := wC G ad) hx hb hr hlocks hW hS (by subst eI4 eI3 eI2 eI1; rfl) dX1_become_30

set_option maxHeartbeats 4000000 in
set_option maxRecDepth 100000 in
theorem c_X1_become_ (l : Launch) (D : va_G) (G : Nat → ClassId) (ad : Nat → Nat → Nat) (hI : wI LC ad) (I : St) (q qb : Nat) (hq : q < 12) (hqb : qb < 12) : Met l yX1_become_ wsX1_become_ ({ frames := 2, cells := 0, slots := 0, locals := 88 } : Room) (gPre D G LC ad [.ref (ad 8 (q)), .ref (ad 8 (qb))] (wC G ad I)) (gQv D LC ad (wC G ad) (fun u => u = mset I q (I 8 qb 0) (I 8 qb 1) (qb + 20) 18 qb)) 0 0 (wA LC ad) := by
  refine g_entry (C := RX1) (cc := cX1_become_) (maxL := 2) (ret := none) rfl (by decide) rfl (Nat.le_of_ble_eq_true rfl) (fun p e s m args below meth c Q ls hQ hx hb hr hts hown hlocks hml hW hK hl => ?_)
  have hl : lv_has ls 2 [(0, .ref (ad 8 (q))), (1, .ref (ad 8 (qb)))] := hl
  have hS := va_S.rf (A := wA LC ad) (H0 := s.heap)
  have hinX1 : ∀ w ∈ wsX10, w ∈ wsX1_become_ := by decide +kernel
  have hf12 := hts (.fieldLink RX1 12 "JoinedStores$Message" "store" "LJoinedStores$Store;") (by decide +kernel)
  have hf18 := hts (.fieldLink RX1 18 "JoinedStores$Message" "had" "[I") (by decide +kernel)
  have hf22 := hts (.fieldLink RX1 22 "JoinedStores$Message" "from" "I") (by decide +kernel)
  have hf26 := hts (.fieldLink RX1 26 "JoinedStores$Message" "to" "I") (by decide +kernel)
  refine lv_aload_n hx hb dX1_become__0 rfl (lv_at hl 0 rfl) ?_
  refine lv_aload_n hx hb dX1_become__1 rfl (lv_at hl 1 rfl) ?_
  refine r_get hx hb hts hown hK hW 8 (qb) 0 (mC (by decide) (show qb < 12 by omega)) rfl rfl hinX1 (by decide) hf22 rfl rfl dX1_become__2 (lv_topi (fun x1 ex1 => ?_))
  refine lv_aload_n hx hb dX1_become__5 rfl (lv_at hl 1 rfl) ?_
  refine r_get hx hb hts hown hK hW 8 (qb) 1 (mC (by decide) (show qb < 12 by omega)) rfl rfl hinX1 (by decide) hf26 rfl rfl dX1_become__6 (lv_topi (fun x2 ex2 => ?_))
  refine lv_aload_n hx hb dX1_become__9 rfl (lv_at hl 1 rfl) ?_
  refine r_get hx hb hts hown hK hW 8 (qb) 2 (mC (by decide) (show qb < 12 by omega)) rfl rfl hinX1 (by decide) hf12 rfl rfl dX1_become__10 ?_
  refine lv_aload_n hx hb dX1_become__13 rfl (lv_at hl 1 rfl) ?_
  refine r_get hx hb hts hown hK hW 8 (qb) 3 (mC (by decide) (show qb < 12 by omega)) rfl rfl hinX1 (by decide) hf18 rfl rfl dX1_become__14 ?_
  refine g_cv (va_runV (As := [.int (x1), .int (x2), .ref (ad 4 (qb + 20)), .ref (ad 18 (qb))]) (rest := []) ⟨hx, hb, hml, hown, hts⟩ (c_X1_become_18 l D G ad hI I q (qb + 20) qb x1 x2 (show q < 12 by omega) (show qb + 20 < 59 by omega) (show qb < 12 by omega)) (cwV 4 hts gX1_become__X1_become rfl rfl rfl (by decide +kernel) ⟨Nat.le_of_ble_eq_true rfl, Nat.le_of_ble_eq_true rfl⟩) (g_preV hK hW 8 (q) (mC (by decide) (show q < 12 by omega)) rfl rfl) rfl rfl hl.1 rfl (lv_room (Nat.le_of_ble_eq_true rfl)) dX1_become__17 ⟨Nat.le_refl _, Nat.le_refl _⟩) hS (fun I3 H locs hp hW hS => ?_)
  have eI3 : I3 = mset I q x1 x2 (qb + 20) 18 qb := hp
  rw [hQ]
  exact g_vret (wd := wC G ad) hx hb hr hlocks hW hS (by subst eI3 ex2 ex1; rfl) dX1_become__20

set_option maxHeartbeats 4000000 in
set_option maxRecDepth 100000 in
theorem c_X2_joinWithNew (l : Launch) (D : va_G) (G : Nat → ClassId) (ad : Nat → Nat → Nat) (hI : wI LC ad) (I : St) (r ib : Nat) (hr4 : r < 4) (hib : ib < 59) : Met l yX2_joinWithNew wsX2_joinWithNew ({ frames := 1, cells := 0, slots := 0, locals := 25 } : Room) (gPre D G LC ad [.ref (ad 1 (0)), .int (nI (r)), .ref (ad 4 (ib))] (wC G ad I)) (gQv D LC ad (wC G ad) (fun u => u = jwP I r ib 4)) 0 0 (wA LC ad) := by
  refine g_entry (C := RX2) (cc := cX2_joinWithNew) (maxL := 4) (ret := none) rfl (by decide) rfl (Nat.le_of_ble_eq_true rfl) (fun p e s m args below meth c Q ls hQ hx hb hr hts hown hlocks hml hW hK hl => ?_)
  have hl : lv_has ls 4 [(0, .ref (ad 1 (0))), (1, .int (nI (r))), (2, .ref (ad 4 (ib)))] := hl
  have hS := va_S.rf (A := wA LC ad) (H0 := s.heap)
  have hinX2 : ∀ w ∈ wsX20, w ∈ wsX2_joinWithNew := by decide +kernel
  have hf24 := hts (.fieldLink RX2 24 "JoinedStores$Network" "stores" "[LJoinedStores$Store;") (by decide +kernel)
  have hf28 := hts (.fieldLink RX2 28 "JoinedStores$Network" "parcels" "[LJoinedStores$Store;") (by decide +kernel)
  refine lv_aload_n hx hb dX2_joinWithNew_0 rfl (lv_at hl 0 rfl) ?_
  refine r_get hx hb hts hown hK hW 1 (0) 2 (mC (by decide) (by decide)) rfl rfl hinX2 (by decide) hf24 rfl rfl dX2_joinWithNew_1 ?_
  refine lv_iload_n hx hb dX2_joinWithNew_4 rfl (lv_at hl 1 rfl) ?_
  refine r_aald hx hb hK hW 1 3 (0) (r) (mC (by decide) (by decide)) rfl rfl (show r < 4 by omega) (by decide) rfl rfl dX2_joinWithNew_5 ?_
  refine lv_aload_n hx hb dX2_joinWithNew_6 rfl (lv_at hl 2 rfl) ?_
  refine g_cv (va_runV (As := [.ref (ad 4 (ib))]) (rest := []) ⟨hx, hb, hml, hown, hts⟩ (c_X4_join l D G ad hI I r ib (show r < 59 by omega) (show ib < 59 by omega)) (cwV 1 hts gX2_joinWithNew_X4_join rfl rfl rfl (by decide +kernel) ⟨Nat.le_of_ble_eq_true rfl, Nat.le_of_ble_eq_true rfl⟩) (g_preV hK hW 4 (r) (mC (by decide) (show r < 59 by omega)) rfl rfl) rfl rfl hl.1 rfl (lv_room (Nat.le_of_ble_eq_true rfl)) dX2_joinWithNew_7 ⟨Nat.le_refl _, Nat.le_refl _⟩) hS (fun I1 H locs hp hW hS => ?_)
  have eI1 : I1 = jn I r ib := hp
  refine lv_iconst (v := nI 0) hx hb dX2_joinWithNew_10 (by decide) ?_
  refine lv_istore_n (lv' := [(3, .int (nI (0))), (0, .ref (ad 1 (0))), (1, .int (nI (r))), (2, .ref (ad 4 (ib)))]) hx hb dX2_joinWithNew_11 rfl hl (by decide) rfl (fun ls hl => ?_)
  have K12 : ∀ (n : Nat) (i : Nat), (i ≤ 4) → 4 < i + n → ∀ (H : Heap) (locs : List Loc), va_P D vwCl (wS LC ad (wC G ad (jwP I r ib i))) H → va_S (wA LC ad) s.heap H locs → ∀ (ls : Array Slot), lv_has ls 4 [(3, .int (nI (i))), (0, .ref (ad 1 (0))), (1, .int (nI (r))), (2, .ref (ad 4 (ib)))] → W p l e ({ frames := 1, cells := 0, slots := 0, locals := 25 } : Room) s m args below meth c H locs 0 0 Q (F0 m 12 ls []) := by
    intro n12
    induction n12 with
    | zero => intro i hi hfu; exact absurd hfu (by omega)
    | succ n12 ih12 =>
      intro i hi hfu H locs hW hS ls hl
      refine lv_iload_n hx hb dX2_joinWithNew_12 rfl (lv_at hl 0 rfl) ?_
      refine lv_iconst (v := nI 4) hx hb dX2_joinWithNew_13 (by decide) ?_
      refine lv_icmp_ge (tgt := 42) hx hb dX2_joinWithNew_14 (by decide) (fun c14_1 => ?_) (fun c14_1 => ?_)
      · replace c14_1 : 4 ≤ i := (nI_leI (show 4 < 2147483648 by omega) (show i < 2147483648 by omega)).mp c14_1
        rw [hQ]
        exact g_vret (wd := wC G ad) hx hb hr hlocks hW hS (by have e4 : i = 4 := (by omega); subst e4; rfl) dX2_joinWithNew_42
      · replace c14_1 : ¬ (4 ≤ i) := fun h => c14_1 ((nI_leI (show 4 < 2147483648 by omega) (show i < 2147483648 by omega)).mpr h)
        refine lv_iload_n hx hb dX2_joinWithNew_17 rfl (lv_at hl 0 rfl) ?_
        refine lv_iload_n hx hb dX2_joinWithNew_18 rfl (lv_at hl 2 rfl) ?_
        refine lv_icmp_eq (tgt := 36) hx hb dX2_joinWithNew_19 (by decide) (fun c19_2 => ?_) (fun c19_2 => ?_)
        · replace c19_2 : i = r := (nI_eq (show i < 2147483648 by omega) (show r < 2147483648 by omega)).mp c19_2
          refine lv_iinc (v := nI (i + 1)) (lv' := [(3, .int (nI (i + 1))), (0, .ref (ad 1 (0))), (1, .int (nI (r))), (2, .ref (ad 4 (ib)))]) hx hb dX2_joinWithNew_36 hl (k := 0) rfl (nI_inc i 1) (by decide) rfl (fun ls hl => ?_)
          refine lv_goto (tgt := 12) hx hb dX2_joinWithNew_39 (by decide) ?_
          have e9 : jwP I r ib i = jwP I r ib (i + 1) := by
            skip
            rw [jwP, if_pos c19_2]
          have hW9 := hW
          rw [e9] at hW9
          exact ih12 (i + 1) (by omega) (by omega) _ _ hW9 hS _ (lv_sub hl [0, 1, 2, 3] rfl)
        · replace c19_2 : ¬ (i = r) := fun h => c19_2 ((nI_eq (show i < 2147483648 by omega) (show r < 2147483648 by omega)).mpr h)
          refine lv_aload_n hx hb dX2_joinWithNew_22 rfl (lv_at hl 1 rfl) ?_
          refine r_get hx hb hts hown hK hW 1 (0) 3 (mC (by decide) (by decide)) rfl rfl hinX2 (by decide) hf28 rfl rfl dX2_joinWithNew_23 ?_
          refine lv_iload_n hx hb dX2_joinWithNew_26 rfl (lv_at hl 2 rfl) ?_
          refine lv_iload_n hx hb dX2_joinWithNew_27 rfl (lv_at hl 0 rfl) ?_
          refine g_pi (va_runSN (As := [.int (nI (r)), .int (nI (i))]) (rest := [.ref (ad 3 (1))]) ⟨hx, hb, hml, hown, hts⟩ (c_X5_pairOf l (r) (i)) ⟨va_cnB 2 hts gX2_joinWithNew_X5_pairOf_n65 rfl rfl rfl (hK.2 _ (List.mem_of_getElem? (i := 1) rfl)) (hts (.initialized RX5) (by decide +kernel)) (by decide +kernel) ⟨Nat.le_of_ble_eq_true rfl, Nat.le_of_ble_eq_true rfl⟩, hts (.static yX5_pairOf) (by decide +kernel), trivial⟩ p_preS rfl rfl hl.1 rfl (lv_room (Nat.le_of_ble_eq_true rfl)) dX2_joinWithNew_28 ⟨Nat.le_refl _, Nat.le_refl _⟩) hW hS (fun H locs hW hS => ?_)
          refine r_aald hx hb hK hW 1 3 (1) (r * 4 + i) (mC (by decide) (by decide)) rfl rfl (show r * 4 + i < 16 by omega) (by decide) rfl rfl dX2_joinWithNew_31 ?_
          refine lv_aload_n hx hb dX2_joinWithNew_32 rfl (lv_at hl 3 rfl) ?_
          refine g_cv (va_runV (As := [.ref (ad 4 (ib))]) (rest := []) ⟨hx, hb, hml, hown, hts⟩ (c_X4_join l D G ad hI (jwP I r ib i) (r * 4 + i + 4) ib (show r * 4 + i + 4 < 59 by omega) (show ib < 59 by omega)) (cwV 1 hts gX2_joinWithNew_X4_join rfl rfl rfl (by decide +kernel) ⟨Nat.le_of_ble_eq_true rfl, Nat.le_of_ble_eq_true rfl⟩) (g_preV hK hW 4 (r * 4 + i + 4) (mC (by decide) (show r * 4 + i + 4 < 59 by omega)) rfl rfl) rfl rfl hl.1 rfl (lv_room (Nat.le_of_ble_eq_true rfl)) dX2_joinWithNew_33 ⟨Nat.le_refl _, Nat.le_refl _⟩) hS (fun I4 H locs hp hW hS => ?_)
          have eI4 : I4 = jn (jwP I r ib i) (r * 4 + i + 4) ib := hp
          refine lv_iinc (v := nI (i + 1)) (lv' := [(3, .int (nI (i + 1))), (0, .ref (ad 1 (0))), (1, .int (nI (r))), (2, .ref (ad 4 (ib)))]) hx hb dX2_joinWithNew_36 hl (k := 0) rfl (nI_inc i 1) (by decide) rfl (fun ls hl => ?_)
          refine lv_goto (tgt := 12) hx hb dX2_joinWithNew_39 (by decide) ?_
          have e9 : I4 = jwP I r ib (i + 1) := by
            subst eI4
            rw [jwP, if_neg c19_2]
          have hW9 := hW
          rw [e9] at hW9
          exact ih12 (i + 1) (by omega) (by omega) _ _ hW9 hS _ (lv_sub hl [0, 1, 2, 3] rfl)
  have e9 : I1 = jwP I r ib 0 := by
    subst eI1
    rfl
  have hW9 := hW
  rw [e9] at hW9
  exact K12 (4 + 1) (0) (by omega) (by omega) _ _ hW9 hS _ (lv_sub hl [0, 1, 2, 3] rfl)

set_option maxHeartbeats 4000000 in
set_option maxRecDepth 100000 in
theorem c_X2_post (l : Launch) (D : va_G) (G : Nat → ClassId) (ad : Nat → Nat → Nat) (hI : wI LC ad) (I : St) (fr to ia : Nat) (hfr : fr < 4) (hia : ia < 59) (hwl : wt I < 6) (hT : okT I) (hWt : okW I) : Met l yX2_post wsX2_post ({ frames := 2, cells := 0, slots := 0, locals := 88 } : Room) (gPre D G LC ad [.ref (ad 1 (0)), .int (nI (fr)), .int (nI (to)), .ref (ad 4 (ia))] (wC G ad I)) (gQv D LC ad (wC G ad) (fun u => u = psd I fr to ia)) 0 0 (wA LC ad) := by
  refine g_entry (C := RX2) (cc := cX2_post) (maxL := 4) (ret := none) rfl (by decide) rfl (Nat.le_of_ble_eq_true rfl) (fun p e s m args below meth c Q ls hQ hx hb hr hts hown hlocks hml hW hK hl => ?_)
  have hl : lv_has ls 4 [(0, .ref (ad 1 (0))), (1, .int (nI (fr))), (2, .int (nI (to))), (3, .ref (ad 4 (ia)))] := hl
  have hS := va_S.rf (A := wA LC ad) (H0 := s.heap)
  have hinX2 : ∀ w ∈ wsX20, w ∈ wsX2_post := by decide +kernel
  have hinX4 : ∀ w ∈ wsX40, w ∈ wsX2_post := by decide +kernel
  have hf24 := hts (.fieldLink RX2 24 "JoinedStores$Network" "stores" "[LJoinedStores$Store;") (by decide +kernel)
  have hf36 := hts (.fieldLink RX2 36 "JoinedStores$Network" "waiting" "[LJoinedStores$Message;") (by decide +kernel)
  have hf58 := hts (.fieldLink RX2 58 "JoinedStores$Network" "waits" "I") (by decide +kernel)
  have hf69 := hts (.fieldLink RX2 69 "JoinedStores$Store" "heard" "[I") (by decide +kernel)
  refine lv_aload_n hx hb dX2_post_0 rfl (lv_at hl 0 rfl) ?_
  refine r_get hx hb hts hown hK hW 1 (0) 5 (mC (by decide) (by decide)) rfl rfl hinX2 (by decide) hf36 rfl rfl dX2_post_1 ?_
  refine lv_aload_n hx hb dX2_post_4 rfl (lv_at hl 0 rfl) ?_
  refine r_get hx hb hts hown hK hW 1 (0) 6 (mC (by decide) (by decide)) rfl rfl hinX2 (by decide) hf58 rfl rfl dX2_post_5 (lv_topi (fun x1 ex1 => ?_))
  have hw6 := hT.2
  refine r_top (show x1 = nI (wt I) from (ex1.trans hT.1)) ?_
  refine r_aald hx hb hK hW 2 6 (0) (wt I) (mC (by decide) (by decide)) rfl rfl (show wt I < 6 by omega) (by decide) rfl rfl dX2_post_8 ?_
  have hp1 := hWt 0 (wt I) (by decide) (by omega)
  refine lv_iload_n hx hb dX2_post_9 rfl (lv_at hl 1 rfl) ?_
  refine lv_iload_n hx hb dX2_post_10 rfl (lv_at hl 2 rfl) ?_
  refine lv_aload_n hx hb dX2_post_11 rfl (lv_at hl 3 rfl) ?_
  refine lv_aload_n hx hb dX2_post_12 rfl (lv_at hl 0 rfl) ?_
  refine r_get hx hb hts hown hK hW 1 (0) 2 (mC (by decide) (by decide)) rfl rfl hinX2 (by decide) hf24 rfl rfl dX2_post_13 ?_
  refine lv_iload_n hx hb dX2_post_16 rfl (lv_at hl 1 rfl) ?_
  refine r_aald hx hb hK hW 1 3 (0) (fr) (mC (by decide) (by decide)) rfl rfl (show fr < 4 by omega) (by decide) rfl rfl dX2_post_17 ?_
  refine r_get hx hb hts hown hK hW 4 (fr) 0 (mC (by decide) (show fr < 59 by omega)) rfl rfl hinX4 (by decide) hf69 rfl rfl dX2_post_18 ?_
  refine g_cv (va_runV (As := [.int (nI (fr)), .int (nI (to)), .ref (ad 4 (ia)), .ref (ad 10 (fr))]) (rest := []) ⟨hx, hb, hml, hown, hts⟩ (c_X1_become_10 l D G ad hI I ((I 6 0 (wt I)).toNatClampNeg) ia fr (nI (fr)) (nI (to)) (show (I 6 0 (wt I)).toNatClampNeg < 12 by omega) (show ia < 59 by omega) (show fr < 59 by omega)) (cwV 4 hts gX2_post_X1_become rfl rfl rfl (by decide +kernel) ⟨Nat.le_of_ble_eq_true rfl, Nat.le_of_ble_eq_true rfl⟩) (g_preV hK hW 8 ((I 6 0 (wt I)).toNatClampNeg) (mC (by decide) (show (I 6 0 (wt I)).toNatClampNeg < 12 by omega)) rfl rfl) rfl rfl hl.1 rfl (lv_room (Nat.le_of_ble_eq_true rfl)) dX2_post_21 ⟨Nat.le_refl _, Nat.le_refl _⟩) hS (fun I2 H locs hp hW hS => ?_)
  have eI2 : I2 = mset I ((I 6 0 (wt I)).toNatClampNeg) (nI (fr)) (nI (to)) ia 10 fr := hp
  refine lv_aload_n hx hb dX2_post_24 rfl (lv_at hl 0 rfl) ?_
  refine lv_dup hx hb dX2_post_25 rfl ?_
  refine r_get hx hb hts hown hK hW 1 (0) 6 (mC (by decide) (by decide)) rfl rfl hinX2 (by decide) hf58 rfl rfl dX2_post_26 (lv_topi (fun x3 ex3 => ?_))
  refine r_top (show x3 = nI (wt I) from (by subst ex3 eI2 ex1; rw [mset_n (by decide) (by decide) (by decide) (by decide)]; exact hT.1)) ?_
  refine lv_iconst (v := nI 1) hx hb dX2_post_29 (by decide) ?_
  refine lv_iadd hx hb dX2_post_30 (r_top (nI_add _ _) ?_)
  refine r_puti (wd := wC G ad) (ty := .int) hx hb hts hown hK hI hW hS 1 (0) 6 (mC (by decide) (by decide)) rfl rfl hinX2 (by decide) hf58 rfl tyX2 tyX2_ok nmX2 rfl (by decide +kernel) rfl rfl (Nat.le_of_ble_eq_true rfl) (by simp [wC, up3]) (fun f' i' hn => wC_up f' i' hn) dX2_post_31 (fun I4 H locs eI4 hW hS => ?_)
  rw [hQ]
  exact g_vret (wd := wC G ad) hx hb hr hlocks hW hS (by subst eI4 ex3 eI2 ex1; rfl) dX2_post_34

set_option maxHeartbeats 4000000 in
set_option maxRecDepth 100000 in
theorem c_X2_drop (l : Launch) (D : va_G) (G : Nat → ClassId) (ad : Nat → Nat → Nat) (hI : wI LC ad) (I : St) (m0 : Nat) (hm0 : m0 < wt I) (hT : okT I) (hWt : okW I) : Met l yX2_drop wsX2_drop ({ frames := 0, cells := 0, slots := 0, locals := 0 } : Room) (gPre D G LC ad [.ref (ad 1 (0)), .int (nI (m0))] (wC G ad I)) (gQv D LC ad (wC G ad) (fun u => u = dr I m0)) 0 0 (wA LC ad) := by
  refine g_entry (C := RX2) (cc := cX2_drop) (maxL := 4) (ret := none) rfl (by decide) rfl (Nat.le_of_ble_eq_true rfl) (fun p e s m args below meth c Q ls hQ hx hb hr hts hown hlocks hml hW hK hl => ?_)
  have hl : lv_has ls 4 [(0, .ref (ad 1 (0))), (1, .int (nI (m0)))] := hl
  have hS := va_S.rf (A := wA LC ad) (H0 := s.heap)
  have hinX2 : ∀ w ∈ wsX20, w ∈ wsX2_drop := by decide +kernel
  have hf36 := hts (.fieldLink RX2 36 "JoinedStores$Network" "waiting" "[LJoinedStores$Message;") (by decide +kernel)
  have hf58 := hts (.fieldLink RX2 58 "JoinedStores$Network" "waits" "I") (by decide +kernel)
  have hw6 := hT.2
  refine lv_aload_n hx hb dX2_drop_0 rfl (lv_at hl 0 rfl) ?_
  refine r_get hx hb hts hown hK hW 1 (0) 5 (mC (by decide) (by decide)) rfl rfl hinX2 (by decide) hf36 rfl rfl dX2_drop_1 ?_
  refine lv_iload_n hx hb dX2_drop_4 rfl (lv_at hl 1 rfl) ?_
  refine r_aald hx hb hK hW 2 6 (0) (m0) (mC (by decide) (by decide)) rfl rfl (show m0 < 6 by omega) (by decide) rfl rfl dX2_drop_5 ?_
  have hp0 := hWt 0 m0 (by decide) (by omega)
  refine lv_astore_n (lv' := [(2, .ref (ad 8 ((I 6 0 m0).toNatClampNeg))), (0, .ref (ad 1 (0))), (1, .int (nI (m0)))]) hx hb dX2_drop_6 rfl hl (by decide) rfl (fun ls hl => ?_)
  refine lv_iload_n hx hb dX2_drop_7 rfl (lv_at hl 2 rfl) ?_
  refine lv_istore_n (lv' := [(3, .int (nI (m0))), (2, .ref (ad 8 ((I 6 0 m0).toNatClampNeg))), (0, .ref (ad 1 (0))), (1, .int (nI (m0)))]) hx hb dX2_drop_8 rfl hl (by decide) rfl (fun ls hl => ?_)
  have K9 : ∀ (n : Nat) (i : Nat), (i ≤ wt I - 1) → (m0 ≤ i) → (wt I - 1) < i + n → ∀ (H : Heap) (locs : List Loc), va_P D vwCl (wS LC ad (wC G ad (drP I m0 i))) H → va_S (wA LC ad) s.heap H locs → ∀ (ls : Array Slot), lv_has ls 4 [(3, .int (nI (i))), (2, .ref (ad 8 ((I 6 0 m0).toNatClampNeg))), (0, .ref (ad 1 (0))), (1, .int (nI (m0)))] → W p l e ({ frames := 0, cells := 0, slots := 0, locals := 0 } : Room) s m args below meth c H locs 0 0 Q (F0 m 9 ls []) := by
    intro n9
    induction n9 with
    | zero => intro i hi hmi hfu; exact absurd hfu (by omega)
    | succ n9 ih9 =>
      intro i hi hmi hfu H locs hW hS ls hl
      refine lv_iload_n hx hb dX2_drop_9 rfl (lv_at hl 0 rfl) ?_
      refine lv_aload_n hx hb dX2_drop_10 rfl (lv_at hl 2 rfl) ?_
      refine r_get hx hb hts hown hK hW 1 (0) 6 (mC (by decide) (by decide)) rfl rfl hinX2 (by decide) hf58 rfl rfl dX2_drop_11 (lv_topi (fun x1 ex1 => ?_))
      refine r_top (show x1 = nI (wt I) from (ex1.trans ((drP_n (by decide)).trans hT.1))) ?_
      refine lv_iconst (v := nI 1) hx hb dX2_drop_14 (by decide) ?_
      refine lv_isub hx hb dX2_drop_15 (r_top (pk_sub (show 1 ≤ wt I by omega)) ?_)
      refine lv_icmp_ge (tgt := 39) hx hb dX2_drop_16 (by decide) (fun c16_1 => ?_) (fun c16_1 => ?_)
      · replace c16_1 : (wt I) - 1 ≤ i := (nI_leI (show (wt I) - 1 < 2147483648 by omega) (show i < 2147483648 by omega)).mp c16_1
        refine lv_aload_n hx hb dX2_drop_39 rfl (lv_at hl 2 rfl) ?_
        refine lv_dup hx hb dX2_drop_40 rfl ?_
        refine r_get hx hb hts hown hK hW 1 (0) 6 (mC (by decide) (by decide)) rfl rfl hinX2 (by decide) hf58 rfl rfl dX2_drop_41 (lv_topi (fun x3 ex3 => ?_))
        refine r_top (show x3 = nI (wt I) from (ex3.trans ((drP_n (by decide)).trans hT.1))) ?_
        refine lv_iconst (v := nI 1) hx hb dX2_drop_44 (by decide) ?_
        refine lv_isub hx hb dX2_drop_45 (r_top (pk_sub (show 1 ≤ wt I by omega)) ?_)
        refine r_puti (wd := wC G ad) (ty := .int) hx hb hts hown hK hI hW hS 1 (0) 6 (mC (by decide) (by decide)) rfl rfl hinX2 (by decide) hf58 rfl tyX2 tyX2_ok nmX2 rfl (by decide +kernel) rfl rfl (Nat.le_of_ble_eq_true rfl) (by simp [wC, up3]) (fun f' i' hn => wC_up f' i' hn) dX2_drop_46 (fun I4 H locs eI4 hW hS => ?_)
        refine lv_aload_n hx hb dX2_drop_49 rfl (lv_at hl 2 rfl) ?_
        refine r_get hx hb hts hown hK hW 1 (0) 5 (mC (by decide) (by decide)) rfl rfl hinX2 (by decide) hf36 rfl rfl dX2_drop_50 ?_
        refine lv_aload_n hx hb dX2_drop_53 rfl (lv_at hl 2 rfl) ?_
        refine r_get hx hb hts hown hK hW 1 (0) 6 (mC (by decide) (by decide)) rfl rfl hinX2 (by decide) hf58 rfl rfl dX2_drop_54 (lv_topi (fun x5 ex5 => ?_))
        refine r_top (show x5 = nI (wt I - 1) from (by subst ex5 eI4 ex3 ex1; exact up3_s _ _ _ _ _)) ?_
        refine lv_aload_n hx hb dX2_drop_57 rfl (lv_at hl 1 rfl) ?_
        refine rC_aast hx hb hK hI hW hS (wt I - 1) (I 6 0 m0) (show wt I - 1 < 6 by omega) (show (I 6 0 m0).toNatClampNeg < 12 by omega) rfl dX2_drop_58 (fun I6 H locs eI6 hW hS => ?_)
        rw [hQ]
        exact g_vret (wd := wC G ad) hx hb hr hlocks hW hS (by have e4 : i = wt I - 1 := (by omega); subst e4; subst eI6 ex5 eI4 ex3 ex1; rfl) dX2_drop_59
      · replace c16_1 : ¬ ((wt I) - 1 ≤ i) := fun h => c16_1 ((nI_leI (show (wt I) - 1 < 2147483648 by omega) (show i < 2147483648 by omega)).mpr h)
        refine lv_aload_n hx hb dX2_drop_19 rfl (lv_at hl 2 rfl) ?_
        refine r_get hx hb hts hown hK hW 1 (0) 5 (mC (by decide) (by decide)) rfl rfl hinX2 (by decide) hf36 rfl rfl dX2_drop_20 ?_
        refine lv_iload_n hx hb dX2_drop_23 rfl (lv_at hl 0 rfl) ?_
        refine lv_aload_n hx hb dX2_drop_24 rfl (lv_at hl 2 rfl) ?_
        refine r_get hx hb hts hown hK hW 1 (0) 5 (mC (by decide) (by decide)) rfl rfl hinX2 (by decide) hf36 rfl rfl dX2_drop_25 ?_
        refine lv_iload_n hx hb dX2_drop_28 rfl (lv_at hl 0 rfl) ?_
        refine lv_iconst (v := nI 1) hx hb dX2_drop_29 (by decide) ?_
        refine lv_iadd hx hb dX2_drop_30 (r_top (nI_add _ _) ?_)
        refine r_aald hx hb hK hW 2 6 (0) (i + 1) (mC (by decide) (by decide)) rfl rfl (show i + 1 < 6 by omega) (by decide) rfl rfl dX2_drop_31 ?_
        have hp1 : (drP I m0 i 6 0 (i + 1)).toNatClampNeg < 6 := by rw [drP_r I m0 i (Nat.le_succ i)]; exact hWt 0 _ (by decide) (by omega)
        refine rC_aast hx hb hK hI hW hS (i) ((drP I m0 i) 6 0 (i + 1)) (show i < 6 by omega) (show ((drP I m0 i) 6 0 (i + 1)).toNatClampNeg < 12 by omega) rfl dX2_drop_32 (fun I7 H locs eI7 hW hS => ?_)
        refine lv_iinc (v := nI (i + 1)) (lv' := [(3, .int (nI (i + 1))), (2, .ref (ad 8 ((I 6 0 m0).toNatClampNeg))), (0, .ref (ad 1 (0))), (1, .int (nI (m0)))]) hx hb dX2_drop_33 hl (k := 0) rfl (nI_inc i 1) (by decide) rfl (fun ls hl => ?_)
        refine lv_goto (tgt := 9) hx hb dX2_drop_36 (by decide) ?_
        have e9 : I7 = drP I m0 (i + 1) := by
          subst eI7 ex1
          exact drP_s _ _ _ hmi
        have hW9 := hW
        rw [e9] at hW9
        exact ih9 (i + 1) (by omega) (by omega) (by omega) _ _ hW9 hS _ (lv_sub hl [0, 1, 2, 3] rfl)
  have e9 : I = drP I m0 m0 := by
    exact (drP_0 _ _).symm
  have hW9 := hW
  rw [e9] at hW9
  exact K9 ((wt I - 1) + 1) (m0) (by omega) (Nat.le_refl _) (by omega) _ _ hW9 hS _ (lv_sub hl [0, 1, 2, 3] rfl)

set_option maxHeartbeats 4000000 in
set_option maxRecDepth 100000 in
theorem c_X2_learn (l : Launch) (D : va_G) (G : Nat → ClassId) (ad : Nat → Nat → Nat) (hI : wI LC ad) (I : St) (q fr to : Nat) (hq : q < 12) (hfr : fr < 4) (hto : to < 4) (hf : I 8 q 0 = nI fr) (ht : I 8 q 1 = nI to) : Met l yX2_learn wsX2_learn ({ frames := 1, cells := 0, slots := 0, locals := 21 } : Room) (gPre D G LC ad [.ref (ad 1 (0)), .ref (ad 8 (q))] (wC G ad I)) (gQv D LC ad (wC G ad) (fun u => u = lrP I q ((to * 4 + fr) * 4) 4)) 0 0 (wA LC ad) := by
  refine g_entry (C := RX2) (cc := cX2_learn) (maxL := 4) (ret := none) rfl (by decide) rfl (Nat.le_of_ble_eq_true rfl) (fun p e s m args below meth c Q ls hQ hx hb hr hts hown hlocks hml hW hK hl => ?_)
  have hl : lv_has ls 4 [(0, .ref (ad 1 (0))), (1, .ref (ad 8 (q)))] := hl
  have hS := va_S.rf (A := wA LC ad) (H0 := s.heap)
  have hinX1 : ∀ w ∈ wsX10, w ∈ wsX2_learn := by decide +kernel
  have hinX2 : ∀ w ∈ wsX20, w ∈ wsX2_learn := by decide +kernel
  have hf31 := hts (.fieldLink RX2 31 "JoinedStores$Network" "known" "[I") (by decide +kernel)
  have hf75 := hts (.fieldLink RX2 75 "JoinedStores$Message" "to" "I") (by decide +kernel)
  have hf78 := hts (.fieldLink RX2 78 "JoinedStores$Message" "from" "I") (by decide +kernel)
  have hf81 := hts (.fieldLink RX2 81 "JoinedStores$Message" "had" "[I") (by decide +kernel)
  refine lv_aload_n hx hb dX2_learn_0 rfl (lv_at hl 1 rfl) ?_
  refine r_get hx hb hts hown hK hW 8 (q) 1 (mC (by decide) (show q < 12 by omega)) rfl rfl hinX1 (by decide) hf75 rfl rfl dX2_learn_1 (lv_topi (fun x1 ex1 => ?_))
  refine r_top (show x1 = nI (to) from (ex1.trans ht)) ?_
  refine lv_aload_n hx hb dX2_learn_4 rfl (lv_at hl 1 rfl) ?_
  refine r_get hx hb hts hown hK hW 8 (q) 0 (mC (by decide) (show q < 12 by omega)) rfl rfl hinX1 (by decide) hf78 rfl rfl dX2_learn_5 (lv_topi (fun x2 ex2 => ?_))
  refine r_top (show x2 = nI (fr) from (ex2.trans hf)) ?_
  refine g_pi (va_runSN (As := [.int (nI (to)), .int (nI (fr))]) (rest := []) ⟨hx, hb, hml, hown, hts⟩ (c_X5_pairOf l (to) (fr)) ⟨va_cnB 2 hts gX2_learn_X5_pairOf_n65 rfl rfl rfl (hK.2 _ (List.mem_of_getElem? (i := 1) rfl)) (hts (.initialized RX5) (by decide +kernel)) (by decide +kernel) ⟨Nat.le_of_ble_eq_true rfl, Nat.le_of_ble_eq_true rfl⟩, hts (.static yX5_pairOf) (by decide +kernel), trivial⟩ p_preS rfl rfl hl.1 rfl (lv_room (Nat.le_of_ble_eq_true rfl)) dX2_learn_8 ⟨Nat.le_refl _, Nat.le_refl _⟩) hW hS (fun H locs hW hS => ?_)
  refine lv_iconst (v := nI 4) hx hb dX2_learn_11 (by decide) ?_
  refine lv_imul hx hb dX2_learn_12 (r_top (pk_mul _ _) ?_)
  refine lv_istore_n (lv' := [(2, .int (nI ((to * 4 + fr) * 4))), (0, .ref (ad 1 (0))), (1, .ref (ad 8 (q)))]) hx hb dX2_learn_13 rfl hl (by decide) rfl (fun ls hl => ?_)
  refine lv_iconst (v := nI 0) hx hb dX2_learn_14 (by decide) ?_
  refine lv_istore_n (lv' := [(3, .int (nI (0))), (2, .int (nI ((to * 4 + fr) * 4))), (0, .ref (ad 1 (0))), (1, .ref (ad 8 (q)))]) hx hb dX2_learn_15 rfl hl (by decide) rfl (fun ls hl => ?_)
  have K16 : ∀ (n : Nat) (i : Nat), (i ≤ 4) → 4 < i + n → ∀ (H : Heap) (locs : List Loc), va_P D vwCl (wS LC ad (wC G ad (lrP I q ((to * 4 + fr) * 4) i))) H → va_S (wA LC ad) s.heap H locs → ∀ (ls : Array Slot), lv_has ls 4 [(3, .int (nI (i))), (2, .int (nI ((to * 4 + fr) * 4))), (0, .ref (ad 1 (0))), (1, .ref (ad 8 (q)))] → W p l e ({ frames := 1, cells := 0, slots := 0, locals := 21 } : Room) s m args below meth c H locs 0 0 Q (F0 m 16 ls []) := by
    intro n16
    induction n16 with
    | zero => intro i hi hfu; exact absurd hfu (by omega)
    | succ n16 ih16 =>
      intro i hi hfu H locs hW hS ls hl
      refine lv_iload_n hx hb dX2_learn_16 rfl (lv_at hl 0 rfl) ?_
      refine lv_iconst (v := nI 4) hx hb dX2_learn_17 (by decide) ?_
      refine lv_icmp_ge (tgt := 44) hx hb dX2_learn_18 (by decide) (fun c18_2 => ?_) (fun c18_2 => ?_)
      · replace c18_2 : 4 ≤ i := (nI_leI (show 4 < 2147483648 by omega) (show i < 2147483648 by omega)).mp c18_2
        rw [hQ]
        exact g_vret (wd := wC G ad) hx hb hr hlocks hW hS (by have e4 : i = 4 := (by omega); subst e4; rfl) dX2_learn_44
      · replace c18_2 : ¬ (4 ≤ i) := fun h => c18_2 ((nI_leI (show 4 < 2147483648 by omega) (show i < 2147483648 by omega)).mpr h)
        refine lv_aload_n hx hb dX2_learn_21 rfl (lv_at hl 2 rfl) ?_
        refine r_get hx hb hts hown hK hW 1 (0) 4 (mC (by decide) (by decide)) rfl rfl hinX2 (by decide) hf31 rfl rfl dX2_learn_22 ?_
        refine lv_iload_n hx hb dX2_learn_25 rfl (lv_at hl 1 rfl) ?_
        refine lv_iload_n hx hb dX2_learn_26 rfl (lv_at hl 0 rfl) ?_
        refine lv_iadd hx hb dX2_learn_27 (r_top (nI_add _ _) ?_)
        refine lv_dup2_11 hx hb dX2_learn_28 rfl rfl ?_
        refine rC_iald hx hb hK hW 17 (0) (((to * 4 + fr) * 4) + i) (by decide) (by decide) (by decide) (show ((to * 4 + fr) * 4) + i < 64 by omega) rfl dX2_learn_29 (fun x4 ex4 => ?_)
        refine lv_aload_n hx hb dX2_learn_30 rfl (lv_at hl 3 rfl) ?_
        refine r_get hx hb hts hown hK hW 8 (q) 3 (mC (by decide) (show q < 12 by omega)) rfl rfl hinX1 (by decide) hf81 rfl rfl dX2_learn_31 ?_
        refine lv_iload_n hx hb dX2_learn_34 rfl (lv_at hl 0 rfl) ?_
        refine rC_iald hx hb hK hW 18 (q) (i) (by decide) (by decide) (show q < 12 by omega) (show i < 4 by omega) rfl dX2_learn_35 (fun x5 ex5 => ?_)
        refine lv_ior hx hb dX2_learn_36 (lv_topi (fun x6 ex6 => ?_))
        refine rC_iast hx hb hK hI hW hS 17 (0) (((to * 4 + fr) * 4) + i) (by decide) (by decide) (by decide) (show ((to * 4 + fr) * 4) + i < 64 by omega) rfl dX2_learn_37 (fun I7 H locs eI7 hW hS => ?_)
        refine lv_iinc (v := nI (i + 1)) (lv' := [(3, .int (nI (i + 1))), (2, .int (nI ((to * 4 + fr) * 4))), (0, .ref (ad 1 (0))), (1, .ref (ad 8 (q)))]) hx hb dX2_learn_38 hl (k := 0) rfl (nI_inc i 1) (by decide) rfl (fun ls hl => ?_)
        refine lv_goto (tgt := 16) hx hb dX2_learn_41 (by decide) ?_
        have e9 : I7 = lrP I q ((to * 4 + fr) * 4) (i + 1) := by
          subst eI7 ex6 ex5 ex4
          exact lrP_s _ _ _ _
        have hW9 := hW
        rw [e9] at hW9
        exact ih16 (i + 1) (by omega) (by omega) _ _ hW9 hS _ (lv_sub hl [0, 1, 2, 3] rfl)
  have e9 : I = lrP I q ((to * 4 + fr) * 4) 0 := by
    exact (lrP_0 _ _ _).symm
  have hW9 := hW
  rw [e9] at hW9
  exact K16 (4 + 1) (0) (by omega) (by omega) _ _ hW9 hS _ (lv_sub hl [0, 1, 2, 3] rfl)

set_option maxHeartbeats 4000000 in
set_option maxRecDepth 100000 in
theorem c_X2_knownBy (l : Launch) (D : va_G) (G : Nat → ClassId) (ad : Nat → Nat → Nat) (hI : wI LC ad) (I : St) (r o x : Nat) (hr4 : r < 4) (ho4 : o < 4) (hx4 : x < 4) : Met l yX2_knownBy wsX2_knownBy ({ frames := 1, cells := 0, slots := 0, locals := 21 } : Room) (gPre D G LC ad [.ref (ad 1 (0)), .int (nI (r)), .int (nI (o)), .int (nI (x))] (wC G ad I)) (gQi D LC ad (wC G ad) (fun r9 u => r9 = kb I r o x ∧ u = I)) 0 0 (wA LC ad) := by
  refine g_entry (C := RX2) (cc := cX2_knownBy) (maxL := 4) (ret := (some .int)) rfl (by decide) rfl (Nat.le_of_ble_eq_true rfl) (fun p e s m args below meth c Q ls hQ hx hb hr hts hown hlocks hml hW hK hl => ?_)
  have hl : lv_has ls 4 [(0, .ref (ad 1 (0))), (1, .int (nI (r))), (2, .int (nI (o))), (3, .int (nI (x)))] := hl
  have hS := va_S.rf (A := wA LC ad) (H0 := s.heap)
  have hinX2 : ∀ w ∈ wsX20, w ∈ wsX2_knownBy := by decide +kernel
  have hinX4 : ∀ w ∈ wsX40, w ∈ wsX2_knownBy := by decide +kernel
  have hf24 := hts (.fieldLink RX2 24 "JoinedStores$Network" "stores" "[LJoinedStores$Store;") (by decide +kernel)
  have hf31 := hts (.fieldLink RX2 31 "JoinedStores$Network" "known" "[I") (by decide +kernel)
  have hf69 := hts (.fieldLink RX2 69 "JoinedStores$Store" "heard" "[I") (by decide +kernel)
  refine lv_iload_n hx hb dX2_knownBy_0 rfl (lv_at hl 2 rfl) ?_
  refine lv_iload_n hx hb dX2_knownBy_1 rfl (lv_at hl 1 rfl) ?_
  refine lv_icmp_ne (tgt := 19) hx hb dX2_knownBy_2 (by decide) (fun c2_0 => ?_) (fun c2_0 => ?_)
  · replace c2_0 : ¬ o = r := fun h => c2_0 ((nI_eq (show o < 2147483648 by omega) (show r < 2147483648 by omega)).mpr h)
    refine lv_aload_n hx hb dX2_knownBy_19 rfl (lv_at hl 0 rfl) ?_
    refine r_get hx hb hts hown hK hW 1 (0) 4 (mC (by decide) (by decide)) rfl rfl hinX2 (by decide) hf31 rfl rfl dX2_knownBy_20 ?_
    refine lv_iload_n hx hb dX2_knownBy_23 rfl (lv_at hl 1 rfl) ?_
    refine lv_iload_n hx hb dX2_knownBy_24 rfl (lv_at hl 2 rfl) ?_
    refine g_pi (va_runSN (As := [.int (nI (r)), .int (nI (o))]) (rest := [.ref (ad 17 (0))]) ⟨hx, hb, hml, hown, hts⟩ (c_X5_pairOf l (r) (o)) ⟨va_cnB 2 hts gX2_knownBy_X5_pairOf_n65 rfl rfl rfl (hK.2 _ (List.mem_of_getElem? (i := 1) rfl)) (hts (.initialized RX5) (by decide +kernel)) (by decide +kernel) ⟨Nat.le_of_ble_eq_true rfl, Nat.le_of_ble_eq_true rfl⟩, hts (.static yX5_pairOf) (by decide +kernel), trivial⟩ p_preS rfl rfl hl.1 rfl (lv_room (Nat.le_of_ble_eq_true rfl)) dX2_knownBy_25 ⟨Nat.le_refl _, Nat.le_refl _⟩) hW hS (fun H locs hW hS => ?_)
    refine lv_iconst (v := nI 4) hx hb dX2_knownBy_28 (by decide) ?_
    refine lv_imul hx hb dX2_knownBy_29 (r_top (pk_mul _ _) ?_)
    refine lv_iload_n hx hb dX2_knownBy_30 rfl (lv_at hl 3 rfl) ?_
    refine lv_iadd hx hb dX2_knownBy_31 (r_top (nI_add _ _) ?_)
    refine rC_iald hx hb hK hW 17 (0) (((r * 4 + o) * 4) + x) (by decide) (by decide) (by decide) (show ((r * 4 + o) * 4) + x < 64 by omega) rfl dX2_knownBy_32 (fun x2 ex2 => ?_)
    rw [hQ]
    exact g_iret (wd := wC G ad) hx hb hr rfl hlocks hW hS (by subst ex2; exact ⟨by rw [kb, if_neg c2_0], rfl⟩) dX2_knownBy_33
  · replace c2_0 : o = r := (nI_eq (show o < 2147483648 by omega) (show r < 2147483648 by omega)).mp c2_0
    refine lv_aload_n hx hb dX2_knownBy_5 rfl (lv_at hl 0 rfl) ?_
    refine r_get hx hb hts hown hK hW 1 (0) 2 (mC (by decide) (by decide)) rfl rfl hinX2 (by decide) hf24 rfl rfl dX2_knownBy_6 ?_
    refine lv_iload_n hx hb dX2_knownBy_9 rfl (lv_at hl 1 rfl) ?_
    refine r_aald hx hb hK hW 1 3 (0) (r) (mC (by decide) (by decide)) rfl rfl (show r < 4 by omega) (by decide) rfl rfl dX2_knownBy_10 ?_
    refine r_get hx hb hts hown hK hW 4 (r) 0 (mC (by decide) (show r < 59 by omega)) rfl rfl hinX4 (by decide) hf69 rfl rfl dX2_knownBy_11 ?_
    refine lv_iload_n hx hb dX2_knownBy_14 rfl (lv_at hl 3 rfl) ?_
    refine rC_iald hx hb hK hW 10 (r) (x) (by decide) (by decide) (show r < 59 by omega) (show x < 4 by omega) rfl dX2_knownBy_15 (fun x3 ex3 => ?_)
    refine lv_goto (tgt := 33) hx hb dX2_knownBy_16 (by decide) ?_
    rw [hQ]
    exact g_iret (wd := wC G ad) hx hb hr rfl hlocks hW hS (by subst ex3; exact ⟨by rw [kb, if_pos c2_0], rfl⟩) dX2_knownBy_33

set_option maxHeartbeats 4000000 in
set_option maxRecDepth 100000 in
theorem c_X2_stableAt (l : Launch) (D : va_G) (G : Nat → ClassId) (ad : Nat → Nat → Nat) (hI : wI LC ad) (I : St) (r x : Nat) (hr4 : r < 4) (hx4 : x < 4) : Met l yX2_stableAt wsX2_stableAt ({ frames := 2, cells := 0, slots := 0, locals := 44 } : Room) (gPre D G LC ad [.ref (ad 1 (0)), .int (nI (r)), .int (nI (x))] (wC G ad I)) (gQi D LC ad (wC G ad) (fun r9 u => r9 = stb I r x 4 ∧ u = I)) 0 0 (wA LC ad) := by
  refine g_entry (C := RX2) (cc := cX2_stableAt) (maxL := 5) (ret := (some .int)) rfl (by decide) rfl (Nat.le_of_ble_eq_true rfl) (fun p e s m args below meth c Q ls hQ hx hb hr hts hown hlocks hml hW hK hl => ?_)
  have hl : lv_has ls 5 [(0, .ref (ad 1 (0))), (1, .int (nI (r))), (2, .int (nI (x)))] := hl
  have hS := va_S.rf (A := wA LC ad) (H0 := s.heap)
  have hinX2 : ∀ w ∈ wsX20, w ∈ wsX2_stableAt := by decide +kernel
  have hinX4 : ∀ w ∈ wsX40, w ∈ wsX2_stableAt := by decide +kernel
  have hf24 := hts (.fieldLink RX2 24 "JoinedStores$Network" "stores" "[LJoinedStores$Store;") (by decide +kernel)
  have hf69 := hts (.fieldLink RX2 69 "JoinedStores$Store" "heard" "[I") (by decide +kernel)
  refine lv_aload_n hx hb dX2_stableAt_0 rfl (lv_at hl 0 rfl) ?_
  refine r_get hx hb hts hown hK hW 1 (0) 2 (mC (by decide) (by decide)) rfl rfl hinX2 (by decide) hf24 rfl rfl dX2_stableAt_1 ?_
  refine lv_iload_n hx hb dX2_stableAt_4 rfl (lv_at hl 1 rfl) ?_
  refine r_aald hx hb hK hW 1 3 (0) (r) (mC (by decide) (by decide)) rfl rfl (show r < 4 by omega) (by decide) rfl rfl dX2_stableAt_5 ?_
  refine r_get hx hb hts hown hK hW 4 (r) 0 (mC (by decide) (show r < 59 by omega)) rfl rfl hinX4 (by decide) hf69 rfl rfl dX2_stableAt_6 ?_
  refine lv_iload_n hx hb dX2_stableAt_9 rfl (lv_at hl 2 rfl) ?_
  refine rC_iald hx hb hK hW 10 (r) (x) (by decide) (by decide) (show r < 59 by omega) (show x < 4 by omega) rfl dX2_stableAt_10 (fun x1 ex1 => ?_)
  refine lv_istore_n (lv' := [(3, .int (x1)), (0, .ref (ad 1 (0))), (1, .int (nI (r))), (2, .int (nI (x)))]) hx hb dX2_stableAt_11 rfl hl (by decide) rfl (fun ls hl => ?_)
  refine lv_iconst (v := nI 0) hx hb dX2_stableAt_12 (by decide) ?_
  refine lv_istore (lv' := [(4, .int (nI (0))), (3, .int (x1)), (0, .ref (ad 1 (0))), (1, .int (nI (r))), (2, .int (nI (x)))]) hx hb dX2_stableAt_13 hl (by decide) rfl (fun ls hl => ?_)
  have K15 : ∀ (n : Nat) (i : Nat) (d : Int32), (i ≤ 4) → (d = stb I r x i) → 4 < i + n → ∀ (H : Heap) (locs : List Loc), va_P D vwCl (wS LC ad (wC G ad I)) H → va_S (wA LC ad) s.heap H locs → ∀ (ls : Array Slot), lv_has ls 5 [(4, .int (nI (i))), (3, .int (d)), (0, .ref (ad 1 (0))), (1, .int (nI (r))), (2, .int (nI (x)))] → W p l e ({ frames := 2, cells := 0, slots := 0, locals := 44 } : Room) s m args below meth c H locs 0 0 Q (F0 m 15 ls []) := by
    intro n15
    induction n15 with
    | zero => intro i d hi hd hfu; exact absurd hfu (by omega)
    | succ n15 ih15 =>
      intro i d hi hd hfu H locs hW hS ls hl
      refine lv_iload hx hb dX2_stableAt_15 (lv_at hl 0 rfl) ?_
      refine lv_iconst (v := nI 4) hx hb dX2_stableAt_17 (by decide) ?_
      refine lv_icmp_ge (tgt := 38) hx hb dX2_stableAt_18 (by decide) (fun c18_1 => ?_) (fun c18_1 => ?_)
      · replace c18_1 : 4 ≤ i := (nI_leI (show 4 < 2147483648 by omega) (show i < 2147483648 by omega)).mp c18_1
        refine lv_iload_n hx hb dX2_stableAt_38 rfl (lv_at hl 1 rfl) ?_
        rw [hQ]
        exact g_iret (wd := wC G ad) hx hb hr rfl hlocks hW hS (by have e4 : i = 4 := (by omega); subst e4; exact ⟨hd, rfl⟩) dX2_stableAt_39
      · replace c18_1 : ¬ (4 ≤ i) := fun h => c18_1 ((nI_leI (show 4 < 2147483648 by omega) (show i < 2147483648 by omega)).mpr h)
        refine lv_iload_n hx hb dX2_stableAt_21 rfl (lv_at hl 1 rfl) ?_
        refine lv_aload_n hx hb dX2_stableAt_22 rfl (lv_at hl 2 rfl) ?_
        refine lv_iload_n hx hb dX2_stableAt_23 rfl (lv_at hl 3 rfl) ?_
        refine lv_iload hx hb dX2_stableAt_24 (lv_at hl 0 rfl) ?_
        refine lv_iload_n hx hb dX2_stableAt_26 rfl (lv_at hl 4 rfl) ?_
        refine g_ci (va_runV (As := [.int (nI (r)), .int (nI (i)), .int (nI (x))]) (rest := [.int (d)]) ⟨hx, hb, hml, hown, hts⟩ (c_X2_knownBy l D G ad hI I r i x (show r < 4 by omega) (show i < 4 by omega) (show x < 4 by omega)) (cwV 3 hts gX2_stableAt_X2_knownBy rfl rfl rfl (by decide +kernel) ⟨Nat.le_of_ble_eq_true rfl, Nat.le_of_ble_eq_true rfl⟩) (g_preV hK hW 1 (0) (mC (by decide) (by decide)) rfl rfl) rfl rfl hl.1 rfl (lv_room (Nat.le_of_ble_eq_true rfl)) dX2_stableAt_27 ⟨Nat.le_refl _, Nat.le_refl _⟩) hS (fun x3 I3 H locs hp hW hS => ?_)
        obtain ⟨ex3, eI3⟩ := hp
        rw [eI3] at hW
        clear eI3
        refine lv_iand hx hb dX2_stableAt_30 (lv_topi (fun x4 ex4 => ?_))
        refine lv_istore_n (lv' := [(3, .int (x4)), (4, .int (nI (i))), (0, .ref (ad 1 (0))), (1, .int (nI (r))), (2, .int (nI (x)))]) hx hb dX2_stableAt_31 rfl hl (by decide) rfl (fun ls hl => ?_)
        refine lv_iinc (v := nI (i + 1)) (lv' := [(4, .int (nI (i + 1))), (3, .int (x4)), (0, .ref (ad 1 (0))), (1, .int (nI (r))), (2, .int (nI (x)))]) hx hb dX2_stableAt_32 hl (k := 1) rfl (nI_inc i 1) (by decide) rfl (fun ls hl => ?_)
        refine lv_goto (tgt := 15) hx hb dX2_stableAt_35 (by decide) ?_
        exact ih15 (i + 1) (x4) (by omega) (by subst ex4 ex3; rw [hd]; rfl) (by omega) _ _ hW hS _ (lv_sub hl [0, 1, 2, 3, 4] rfl)
  exact K15 (4 + 1) (0) (x1) (by decide) (by subst ex1; rfl) (by omega) _ _ hW hS _ (lv_sub hl [0, 1, 2, 3, 4] rfl)

set_option maxHeartbeats 4000000 in
set_option maxRecDepth 100000 in
theorem c_X2_tagsAt (l : Launch) (D : va_G) (G : Nat → ClassId) (ad : Nat → Nat → Nat) (hI : wI LC ad) (I : St) (r x : Nat) (hr4 : r < 4) (hx4 : x < 4) : Met l yX2_tagsAt wsX2_tagsAt ({ frames := 3, cells := 0, slots := 0, locals := 68 } : Room) (gPre D G LC ad [.ref (ad 1 (0)), .int (nI (r)), .int (nI (x))] (wC G ad I)) (gQi D LC ad (wC G ad) (fun r9 u => r9 = tga I r x ∧ u = I)) 0 0 (wA LC ad) := by
  refine g_entry (C := RX2) (cc := cX2_tagsAt) (maxL := 3) (ret := (some .int)) rfl (by decide) rfl (Nat.le_of_ble_eq_true rfl) (fun p e s m args below meth c Q ls hQ hx hb hr hts hown hlocks hml hW hK hl => ?_)
  have hl : lv_has ls 3 [(0, .ref (ad 1 (0))), (1, .int (nI (r))), (2, .int (nI (x)))] := hl
  have hS := va_S.rf (A := wA LC ad) (H0 := s.heap)
  have hinX2 : ∀ w ∈ wsX20, w ∈ wsX2_tagsAt := by decide +kernel
  have hinX4 : ∀ w ∈ wsX40, w ∈ wsX2_tagsAt := by decide +kernel
  have hf24 := hts (.fieldLink RX2 24 "JoinedStores$Network" "stores" "[LJoinedStores$Store;") (by decide +kernel)
  have hf69 := hts (.fieldLink RX2 69 "JoinedStores$Store" "heard" "[I") (by decide +kernel)
  have hf88 := hts (.fieldLink RX2 88 "JoinedStores$Store" "alive" "[I") (by decide +kernel)
  refine lv_aload_n hx hb dX2_tagsAt_0 rfl (lv_at hl 0 rfl) ?_
  refine r_get hx hb hts hown hK hW 1 (0) 2 (mC (by decide) (by decide)) rfl rfl hinX2 (by decide) hf24 rfl rfl dX2_tagsAt_1 ?_
  refine lv_iload_n hx hb dX2_tagsAt_4 rfl (lv_at hl 1 rfl) ?_
  refine r_aald hx hb hK hW 1 3 (0) (r) (mC (by decide) (by decide)) rfl rfl (show r < 4 by omega) (by decide) rfl rfl dX2_tagsAt_5 ?_
  refine r_get hx hb hts hown hK hW 4 (r) 0 (mC (by decide) (show r < 59 by omega)) rfl rfl hinX4 (by decide) hf69 rfl rfl dX2_tagsAt_6 ?_
  refine lv_iload_n hx hb dX2_tagsAt_9 rfl (lv_at hl 2 rfl) ?_
  refine rC_iald hx hb hK hW 10 (r) (x) (by decide) (by decide) (show r < 59 by omega) (show x < 4 by omega) rfl dX2_tagsAt_10 (fun x1 ex1 => ?_)
  refine lv_aload_n hx hb dX2_tagsAt_11 rfl (lv_at hl 0 rfl) ?_
  refine r_get hx hb hts hown hK hW 1 (0) 2 (mC (by decide) (by decide)) rfl rfl hinX2 (by decide) hf24 rfl rfl dX2_tagsAt_12 ?_
  refine lv_iload_n hx hb dX2_tagsAt_15 rfl (lv_at hl 1 rfl) ?_
  refine r_aald hx hb hK hW 1 3 (0) (r) (mC (by decide) (by decide)) rfl rfl (show r < 4 by omega) (by decide) rfl rfl dX2_tagsAt_16 ?_
  refine r_get hx hb hts hown hK hW 4 (r) 1 (mC (by decide) (show r < 59 by omega)) rfl rfl hinX4 (by decide) hf88 rfl rfl dX2_tagsAt_17 ?_
  refine lv_iload_n hx hb dX2_tagsAt_20 rfl (lv_at hl 2 rfl) ?_
  refine rC_iald hx hb hK hW 11 (r) (x) (by decide) (by decide) (show r < 59 by omega) (show x < 4 by omega) rfl dX2_tagsAt_21 (fun x2 ex2 => ?_)
  refine lv_iconst (v := (-1)) hx hb dX2_tagsAt_22 (by decide) ?_
  refine lv_ixor hx hb dX2_tagsAt_23 (lv_topi (fun x3 ex3 => ?_))
  refine lv_iand hx hb dX2_tagsAt_24 (lv_topi (fun x4 ex4 => ?_))
  refine lv_aload_n hx hb dX2_tagsAt_25 rfl (lv_at hl 0 rfl) ?_
  refine lv_iload_n hx hb dX2_tagsAt_26 rfl (lv_at hl 1 rfl) ?_
  refine lv_iload_n hx hb dX2_tagsAt_27 rfl (lv_at hl 2 rfl) ?_
  refine g_ci (va_runV (As := [.int (nI (r)), .int (nI (x))]) (rest := [.int (x4)]) ⟨hx, hb, hml, hown, hts⟩ (c_X2_stableAt l D G ad hI I r x (show r < 4 by omega) (show x < 4 by omega)) (cwV 2 hts gX2_tagsAt_X2_stableAt rfl rfl rfl (by decide +kernel) ⟨Nat.le_of_ble_eq_true rfl, Nat.le_of_ble_eq_true rfl⟩) (g_preV hK hW 1 (0) (mC (by decide) (by decide)) rfl rfl) rfl rfl hl.1 rfl (lv_room (Nat.le_of_ble_eq_true rfl)) dX2_tagsAt_28 ⟨Nat.le_refl _, Nat.le_refl _⟩) hS (fun x5 I5 H locs hp hW hS => ?_)
  obtain ⟨ex5, eI5⟩ := hp
  rw [eI5] at hW
  clear eI5
  refine lv_iconst (v := (-1)) hx hb dX2_tagsAt_31 (by decide) ?_
  refine lv_ixor hx hb dX2_tagsAt_32 (lv_topi (fun x6 ex6 => ?_))
  refine lv_iand hx hb dX2_tagsAt_33 (lv_topi (fun x7 ex7 => ?_))
  rw [hQ]
  exact g_iret (wd := wC G ad) hx hb hr rfl hlocks hW hS (by subst ex7 ex6 ex5 ex4 ex3 ex2 ex1; exact ⟨rfl, rfl⟩) dX2_tagsAt_34

set_option maxHeartbeats 4000000 in
set_option maxRecDepth 100000 in
theorem c_X2_tagsInAll (l : Launch) (D : va_G) (G : Nat → ClassId) (ad : Nat → Nat → Nat) (hI : wI LC ad) (I : St)  : Met l yX2_tagsInAll wsX2_tagsInAll ({ frames := 4, cells := 0, slots := 0, locals := 90 } : Room) (gPre D G LC ad [.ref (ad 1 (0))] (wC G ad I)) (gQi D LC ad (wC G ad) (fun r9 u => r9 = tgs I 4 ∧ u = I)) 0 0 (wA LC ad) := by
  refine g_entry (C := RX2) (cc := cX2_tagsInAll) (maxL := 4) (ret := (some .int)) rfl (by decide) rfl (Nat.le_of_ble_eq_true rfl) (fun p e s m args below meth c Q ls hQ hx hb hr hts hown hlocks hml hW hK hl => ?_)
  have hl : lv_has ls 4 [(0, .ref (ad 1 (0)))] := hl
  have hS := va_S.rf (A := wA LC ad) (H0 := s.heap)
  refine lv_iconst (v := nI 0) hx hb dX2_tagsInAll_0 (by decide) ?_
  refine lv_istore_n (lv' := [(1, .int (nI (0))), (0, .ref (ad 1 (0)))]) hx hb dX2_tagsInAll_1 rfl hl (by decide) rfl (fun ls hl => ?_)
  refine lv_iconst (v := nI 0) hx hb dX2_tagsInAll_2 (by decide) ?_
  refine lv_istore_n (lv' := [(2, .int (nI (0))), (1, .int (nI (0))), (0, .ref (ad 1 (0)))]) hx hb dX2_tagsInAll_3 rfl hl (by decide) rfl (fun ls hl => ?_)
  have K4 : ∀ (n : Nat) (r : Nat) (d : Int32), (r ≤ 4) → (d = tgs I r) → 4 < r + n → ∀ (H : Heap) (locs : List Loc), va_P D vwCl (wS LC ad (wC G ad I)) H → va_S (wA LC ad) s.heap H locs → ∀ (ls : Array Slot), lv_has ls 4 [(2, .int (nI (r))), (1, .int (d)), (0, .ref (ad 1 (0)))] → W p l e ({ frames := 4, cells := 0, slots := 0, locals := 90 } : Room) s m args below meth c H locs 0 0 Q (F0 m 4 ls []) := by
    intro n4
    induction n4 with
    | zero => intro r d hr4 hd hfu; exact absurd hfu (by omega)
    | succ n4 ih4 =>
      intro r d hr4 hd hfu H locs hW hS ls hl
      refine lv_iload_n hx hb dX2_tagsInAll_4 rfl (lv_at hl 0 rfl) ?_
      refine lv_iconst (v := nI 4) hx hb dX2_tagsInAll_5 (by decide) ?_
      refine lv_icmp_ge (tgt := 40) hx hb dX2_tagsInAll_6 (by decide) (fun c6_0 => ?_) (fun c6_0 => ?_)
      · replace c6_0 : 4 ≤ r := (nI_leI (show 4 < 2147483648 by omega) (show r < 2147483648 by omega)).mp c6_0
        refine lv_iload_n hx hb dX2_tagsInAll_40 rfl (lv_at hl 1 rfl) ?_
        rw [hQ]
        exact g_iret (wd := wC G ad) hx hb hr rfl hlocks hW hS (by have e4 : r = 4 := (by omega); subst e4; exact ⟨hd, rfl⟩) dX2_tagsInAll_41
      · replace c6_0 : ¬ (4 ≤ r) := fun h => c6_0 ((nI_leI (show 4 < 2147483648 by omega) (show r < 2147483648 by omega)).mpr h)
        refine lv_iconst (v := nI 0) hx hb dX2_tagsInAll_9 (by decide) ?_
        refine lv_istore_n (lv' := [(3, .int (nI (0))), (2, .int (nI (r))), (1, .int (d)), (0, .ref (ad 1 (0)))]) hx hb dX2_tagsInAll_10 rfl hl (by decide) rfl (fun ls hl => ?_)
        have K11 : ∀ (n : Nat) (x : Nat) (q : Int32), (x ≤ 4) → (q = tgr I r d x) → 4 < x + n → ∀ (H : Heap) (locs : List Loc), va_P D vwCl (wS LC ad (wC G ad I)) H → va_S (wA LC ad) s.heap H locs → ∀ (ls : Array Slot), lv_has ls 4 [(3, .int (nI (x))), (2, .int (nI (r))), (1, .int (q)), (0, .ref (ad 1 (0)))] → W p l e ({ frames := 4, cells := 0, slots := 0, locals := 90 } : Room) s m args below meth c H locs 0 0 Q (F0 m 11 ls []) := by
          intro n11
          induction n11 with
          | zero => intro x q hx4 hq hfu; exact absurd hfu (by omega)
          | succ n11 ih11 =>
            intro x q hx4 hq hfu H locs hW hS ls hl
            refine lv_iload_n hx hb dX2_tagsInAll_11 rfl (lv_at hl 0 rfl) ?_
            refine lv_iconst (v := nI 4) hx hb dX2_tagsInAll_12 (by decide) ?_
            refine lv_icmp_ge (tgt := 34) hx hb dX2_tagsInAll_13 (by decide) (fun c13_1 => ?_) (fun c13_1 => ?_)
            · replace c13_1 : 4 ≤ x := (nI_leI (show 4 < 2147483648 by omega) (show x < 2147483648 by omega)).mp c13_1
              refine lv_iinc (v := nI (r + 1)) (lv' := [(2, .int (nI (r + 1))), (3, .int (nI (x))), (1, .int (q)), (0, .ref (ad 1 (0)))]) hx hb dX2_tagsInAll_34 hl (k := 1) rfl (nI_inc r 1) (by decide) rfl (fun ls hl => ?_)
              refine lv_goto (tgt := 4) hx hb dX2_tagsInAll_37 (by decide) ?_
              exact ih4 (r + 1) (q) (by omega) (by have e9 : x = 4 := (by omega); subst e9; rw [hq, hd]; rfl) (by omega) _ _ hW hS _ (lv_sub hl [0, 2, 3] rfl)
            · replace c13_1 : ¬ (4 ≤ x) := fun h => c13_1 ((nI_leI (show 4 < 2147483648 by omega) (show x < 2147483648 by omega)).mpr h)
              refine lv_iload_n hx hb dX2_tagsInAll_16 rfl (lv_at hl 2 rfl) ?_
              refine lv_aload_n hx hb dX2_tagsInAll_17 rfl (lv_at hl 3 rfl) ?_
              refine lv_iload_n hx hb dX2_tagsInAll_18 rfl (lv_at hl 1 rfl) ?_
              refine lv_iload_n hx hb dX2_tagsInAll_19 rfl (lv_at hl 0 rfl) ?_
              refine g_ci (va_runV (As := [.int (nI (r)), .int (nI (x))]) (rest := [.int (q)]) ⟨hx, hb, hml, hown, hts⟩ (c_X2_tagsAt l D G ad hI I r x (show r < 4 by omega) (show x < 4 by omega)) (cwV 2 hts gX2_tagsInAll_X2_tagsAt rfl rfl rfl (by decide +kernel) ⟨Nat.le_of_ble_eq_true rfl, Nat.le_of_ble_eq_true rfl⟩) (g_preV hK hW 1 (0) (mC (by decide) (by decide)) rfl rfl) rfl rfl hl.1 rfl (lv_room (Nat.le_of_ble_eq_true rfl)) dX2_tagsInAll_20 ⟨Nat.le_refl _, Nat.le_refl _⟩) hS (fun x3 I3 H locs hp hW hS => ?_)
              obtain ⟨ex3, eI3⟩ := hp
              rw [eI3] at hW
              clear eI3
              refine g_pi (va_runS (As := [.int (x3)]) (rest := [.int (q)]) ⟨hx, hb, hml, hown, hts⟩ (c_J6_bitCount_0f7a4 l x3) (va_cwS 1 hts gX2_tagsInAll_J6_bitCount_0f7a4 rfl rfl rfl (by decide +kernel) ⟨Nat.le_of_ble_eq_true rfl, Nat.le_of_ble_eq_true rfl⟩) p_preS rfl rfl hl.1 rfl (lv_room (Nat.le_of_ble_eq_true rfl)) dX2_tagsInAll_23 ⟨Nat.le_refl _, Nat.le_refl _⟩) hW hS (fun H locs hW hS => ?_)
              refine lv_iadd hx hb dX2_tagsInAll_26 (lv_topi (fun x4 ex4 => ?_))
              refine lv_istore_n (lv' := [(1, .int (x4)), (3, .int (nI (x))), (2, .int (nI (r))), (0, .ref (ad 1 (0)))]) hx hb dX2_tagsInAll_27 rfl hl (by decide) rfl (fun ls hl => ?_)
              refine lv_iinc (v := nI (x + 1)) (lv' := [(3, .int (nI (x + 1))), (1, .int (x4)), (2, .int (nI (r))), (0, .ref (ad 1 (0)))]) hx hb dX2_tagsInAll_28 hl (k := 1) rfl (nI_inc x 1) (by decide) rfl (fun ls hl => ?_)
              refine lv_goto (tgt := 11) hx hb dX2_tagsInAll_31 (by decide) ?_
              exact ih11 (x + 1) (x4) (by omega) (by subst ex4 ex3; rw [hq]; rfl) (by omega) _ _ hW hS _ (lv_sub hl [0, 2, 1, 3] rfl)
        exact K11 (4 + 1) (0) (d) (by decide) rfl (by omega) _ _ hW hS _ (lv_sub hl [0, 1, 2, 3] rfl)
  exact K4 (4 + 1) (0) (nI (0)) (by decide) rfl (by omega) _ _ hW hS _ (lv_sub hl [0, 1, 2] rfl)

set_option maxHeartbeats 4000000 in
set_option maxRecDepth 100000 in
theorem c_X2_worthIn (l : Launch) (D : va_G) (G : Nat → ClassId) (ad : Nat → Nat → Nat) (hI : wI LC ad) (I : St) (ia o : Nat) (hia : ia < 59) (ho : o < 12) (hM : okM I) (hKd : okK I) : Met l yX2_worthIn wsX2_worthIn ({ frames := 5, cells := 0, slots := 0, locals := 247 } : Room) (gPre D G LC ad [.ref (ad 1 (0)), .ref (ad 4 (ia)), .int (nI (o))] (wC G ad I)) (gQl D LC ad (wC G ad) (fun r9 u => r9 = wth I ia o (kd I o) ∧ u = gst I (gl I ia o))) 0 0 (wA LC ad) := by
  refine g_entry (C := RX2) (cc := cX2_worthIn) (maxL := 3) (ret := (some .long)) rfl (by decide) rfl (Nat.le_of_ble_eq_true rfl) (fun p e s m args below meth c Q ls hQ hx hb hr hts hown hlocks hml hW hK hl => ?_)
  have hl : lv_has ls 3 [(0, .ref (ad 1 (0))), (1, .ref (ad 4 (ia))), (2, .int (nI (o)))] := hl
  have hS := va_S.rf (A := wA LC ad) (H0 := s.heap)
  have hinX2 : ∀ w ∈ wsX20, w ∈ wsX2_worthIn := by decide +kernel
  have hf12 := hts (.fieldLink RX2 12 "JoinedStores$Network" "dots" "LJoinedStores$Dots;") (by decide +kernel)
  have hf18 := hts (.fieldLink RX2 18 "JoinedStores$Network" "kinds" "[I") (by decide +kernel)
  refine lv_aload_n hx hb dX2_worthIn_0 rfl (lv_at hl 0 rfl) ?_
  refine r_get hx hb hts hown hK hW 1 (0) 0 (mC (by decide) (by decide)) rfl rfl hinX2 (by decide) hf12 rfl rfl dX2_worthIn_1 ?_
  refine lv_aload_n hx hb dX2_worthIn_4 rfl (lv_at hl 1 rfl) ?_
  refine lv_iload_n hx hb dX2_worthIn_5 rfl (lv_at hl 2 rfl) ?_
  refine lv_aload_n hx hb dX2_worthIn_6 rfl (lv_at hl 0 rfl) ?_
  refine r_get hx hb hts hown hK hW 1 (0) 1 (mC (by decide) (by decide)) rfl rfl hinX2 (by decide) hf18 rfl rfl dX2_worthIn_7 ?_
  refine lv_iload_n hx hb dX2_worthIn_10 rfl (lv_at hl 2 rfl) ?_
  refine rC_iald hx hb hK hW 16 (0) (o) (by decide) (by decide) (by decide) (show o < 12 by omega) rfl dX2_worthIn_11 (fun x1 ex1 => ?_)
  have hk6 := (hKd o ho).2
  refine r_top (show x1 = nI (kd I o) from (ex1.trans (hKd o ho).1)) ?_
  refine g_cl (va_runV (As := [.ref (ad 4 (ia)), .int (nI (o)), .int (nI (kd I o))]) (rest := []) ⟨hx, hb, hml, hown, hts⟩ (c_X0_worthAs l D G ad hI I ia o (kd I o) (show ia < 59 by omega) (show kd I o < 6 by omega) hM) (cwV 3 hts gX2_worthIn_X0_worthAs rfl rfl rfl (by decide +kernel) ⟨Nat.le_of_ble_eq_true rfl, Nat.le_of_ble_eq_true rfl⟩) (g_preV hK hW 5 (0) (mC (by decide) (by decide)) rfl rfl) rfl rfl hl.1 rfl (lv_room (Nat.le_of_ble_eq_true rfl)) dX2_worthIn_12 ⟨Nat.le_refl _, Nat.le_refl _⟩) hS (fun x2 I2 H locs hp hW hS => ?_)
  obtain ⟨ex2, eI2⟩ := hp
  rw [hQ]
  exact g_lret (wd := wC G ad) hx hb hr hlocks hW hS (by subst eI2 ex2 ex1; exact ⟨rfl, rfl⟩) dX2_worthIn_15

set_option maxHeartbeats 4000000 in
set_option maxRecDepth 100000 in
theorem c_X2_become_0 (l : Launch) (D : va_G) (G : Nat → ClassId) (ad : Nat → Nat → Nat) (hI : wI LC ad) (I : St) (hWt : okW I) : Met l yX2_become wsX2_become ({ frames := 3, cells := 0, slots := 0, locals := 109 } : Room) (gPre D G LC ad [.ref (ad 1 (0)), .ref (ad 1 (1))] (wC G ad I)) (gQv D LC ad (wC G ad) (fun u => u = nbk I 1 0 39 0 43 4)) 0 0 (wA LC ad) := by
  refine g_entry (C := RX2) (cc := cX2_become) (maxL := 3) (ret := none) rfl (by decide) rfl (Nat.le_of_ble_eq_true rfl) (fun p e s m args below meth c Q ls hQ hx hb hr hts hown hlocks hml hW hK hl => ?_)
  have hl : lv_has ls 3 [(0, .ref (ad 1 (0))), (1, .ref (ad 1 (1)))] := hl
  have hS := va_S.rf (A := wA LC ad) (H0 := s.heap)
  have hinX2 : ∀ w ∈ wsX20, w ∈ wsX2_become := by decide +kernel
  have hf12 := hts (.fieldLink RX2 12 "JoinedStores$Network" "dots" "LJoinedStores$Dots;") (by decide +kernel)
  have hf18 := hts (.fieldLink RX2 18 "JoinedStores$Network" "kinds" "[I") (by decide +kernel)
  have hf24 := hts (.fieldLink RX2 24 "JoinedStores$Network" "stores" "[LJoinedStores$Store;") (by decide +kernel)
  have hf28 := hts (.fieldLink RX2 28 "JoinedStores$Network" "parcels" "[LJoinedStores$Store;") (by decide +kernel)
  have hf31 := hts (.fieldLink RX2 31 "JoinedStores$Network" "known" "[I") (by decide +kernel)
  have hf36 := hts (.fieldLink RX2 36 "JoinedStores$Network" "waiting" "[LJoinedStores$Message;") (by decide +kernel)
  have hf58 := hts (.fieldLink RX2 58 "JoinedStores$Network" "waits" "I") (by decide +kernel)
  refine lv_aload_n hx hb dX2_become_0 rfl (lv_at hl 0 rfl) ?_
  refine r_get hx hb hts hown hK hW 1 (0) 0 (mC (by decide) (by decide)) rfl rfl hinX2 (by decide) hf12 rfl rfl dX2_become_1 ?_
  refine lv_aload_n hx hb dX2_become_4 rfl (lv_at hl 1 rfl) ?_
  refine r_get hx hb hts hown hK hW 1 (1) 0 (mC (by decide) (by decide)) rfl rfl hinX2 (by decide) hf12 rfl rfl dX2_become_5 ?_
  refine g_cv (va_runV (As := [.ref (ad 5 (1))]) (rest := []) ⟨hx, hb, hml, hown, hts⟩ (c_X0_become_0 l D G ad hI I  ) (cwV 1 hts gX2_become_X0_become rfl rfl rfl (by decide +kernel) ⟨Nat.le_of_ble_eq_true rfl, Nat.le_of_ble_eq_true rfl⟩) (g_preV hK hW 5 (0) (mC (by decide) (by decide)) rfl rfl) rfl rfl hl.1 rfl (lv_room (Nat.le_of_ble_eq_true rfl)) dX2_become_8 ⟨Nat.le_refl _, Nat.le_refl _⟩) hS (fun I1 H locs hp hW hS => ?_)
  have eI1 : I1 = dcp I 1 0 := hp
  refine lv_aload_n hx hb dX2_become_11 rfl (lv_at hl 1 rfl) ?_
  refine r_get hx hb hts hown hK hW 1 (1) 1 (mC (by decide) (by decide)) rfl rfl hinX2 (by decide) hf18 rfl rfl dX2_become_12 ?_
  refine lv_iconst (v := nI 0) hx hb dX2_become_15 (by decide) ?_
  refine lv_aload_n hx hb dX2_become_16 rfl (lv_at hl 0 rfl) ?_
  refine r_get hx hb hts hown hK hW 1 (0) 1 (mC (by decide) (by decide)) rfl rfl hinX2 (by decide) hf18 rfl rfl dX2_become_17 ?_
  refine lv_iconst (v := nI 0) hx hb dX2_become_20 (by decide) ?_
  refine lv_aload_n hx hb dX2_become_21 rfl (lv_at hl 0 rfl) ?_
  refine r_get hx hb hts hown hK hW 1 (0) 1 (mC (by decide) (by decide)) rfl rfl hinX2 (by decide) hf18 rfl rfl dX2_become_22 ?_
  refine r_alen hx hb hK hW 16 (0) (mC (by decide) (by decide)) (wC_arr (by decide)) dX2_become_25 ?_
  refine rC_copy hx hb (hml.trans hl.1.symm) hown (hts (.methodLink RX2 46 arraycopyName) (by decide +kernel)) (hts (.native arraycopyName) (by decide +kernel)) (hts (.static arraycopyName) (by decide +kernel)) (hts (.initialized "java/lang/System") (by decide +kernel)) hK hI hW hS 16 (1) 16 (0) (0) (0) (12) (by decide) (by decide) (by decide) (by decide) (by decide) (by decide) (by decide) (by decide) rfl rfl rfl (by decide) (by decide) dX2_become_26 (fun I2 H locs eI2 hW hS => ?_)
  refine lv_aload_n hx hb dX2_become_29 rfl (lv_at hl 1 rfl) ?_
  refine r_get hx hb hts hown hK hW 1 (1) 4 (mC (by decide) (by decide)) rfl rfl hinX2 (by decide) hf31 rfl rfl dX2_become_30 ?_
  refine lv_iconst (v := nI 0) hx hb dX2_become_33 (by decide) ?_
  refine lv_aload_n hx hb dX2_become_34 rfl (lv_at hl 0 rfl) ?_
  refine r_get hx hb hts hown hK hW 1 (0) 4 (mC (by decide) (by decide)) rfl rfl hinX2 (by decide) hf31 rfl rfl dX2_become_35 ?_
  refine lv_iconst (v := nI 0) hx hb dX2_become_38 (by decide) ?_
  refine lv_aload_n hx hb dX2_become_39 rfl (lv_at hl 0 rfl) ?_
  refine r_get hx hb hts hown hK hW 1 (0) 4 (mC (by decide) (by decide)) rfl rfl hinX2 (by decide) hf31 rfl rfl dX2_become_40 ?_
  refine r_alen hx hb hK hW 17 (0) (mC (by decide) (by decide)) (wC_arr (by decide)) dX2_become_43 ?_
  refine rC_copy hx hb (hml.trans hl.1.symm) hown (hts (.methodLink RX2 46 arraycopyName) (by decide +kernel)) (hts (.native arraycopyName) (by decide +kernel)) (hts (.static arraycopyName) (by decide +kernel)) (hts (.initialized "java/lang/System") (by decide +kernel)) hK hI hW hS 17 (1) 17 (0) (0) (0) (64) (by decide) (by decide) (by decide) (by decide) (by decide) (by decide) (by decide) (by decide) rfl rfl rfl (by decide) (by decide) dX2_become_44 (fun I3 H locs eI3 hW hS => ?_)
  refine lv_iconst (v := nI 0) hx hb dX2_become_47 (by decide) ?_
  refine lv_istore_n (lv' := [(2, .int (nI (0))), (0, .ref (ad 1 (0))), (1, .ref (ad 1 (1)))]) hx hb dX2_become_48 rfl hl (by decide) rfl (fun ls hl => ?_)
  have K49 : ∀ (n : Nat) (i : Nat), (i ≤ 4) → 4 < i + n → ∀ (H : Heap) (locs : List Loc), va_P D vwCl (wS LC ad (wC G ad (nb2 I 1 0 39 0 i))) H → va_S (wA LC ad) s.heap H locs → ∀ (ls : Array Slot), lv_has ls 3 [(2, .int (nI (i))), (0, .ref (ad 1 (0))), (1, .ref (ad 1 (1)))] → W p l e ({ frames := 3, cells := 0, slots := 0, locals := 109 } : Room) s m args below meth c H locs 0 0 Q (F0 m 49 ls []) := by
    intro n49
    induction n49 with
    | zero => intro i hi hfu; exact absurd hfu (by omega)
    | succ n49 ih49 =>
      intro i hi hfu H locs hW hS ls hl
      refine lv_iload_n hx hb dX2_become_49 rfl (lv_at hl 0 rfl) ?_
      refine lv_iconst (v := nI 4) hx hb dX2_become_50 (by decide) ?_
      refine lv_icmp_ge (tgt := 75) hx hb dX2_become_51 (by decide) (fun c51_3 => ?_) (fun c51_3 => ?_)
      · replace c51_3 : 4 ≤ i := (nI_leI (show 4 < 2147483648 by omega) (show i < 2147483648 by omega)).mp c51_3
        refine lv_iconst (v := nI 0) hx hb dX2_become_75 (by decide) ?_
        refine lv_istore_n (lv' := [(2, .int (nI (0))), (0, .ref (ad 1 (0))), (1, .ref (ad 1 (1)))]) hx hb dX2_become_76 rfl hl (by decide) rfl (fun ls hl => ?_)
        have K77 : ∀ (n : Nat) (i : Nat), (i ≤ 16) → 16 < i + n → ∀ (H : Heap) (locs : List Loc), va_P D vwCl (wS LC ad (wC G ad (nb3 I 1 0 39 0 43 4 i))) H → va_S (wA LC ad) s.heap H locs → ∀ (ls : Array Slot), lv_has ls 3 [(2, .int (nI (i))), (0, .ref (ad 1 (0))), (1, .ref (ad 1 (1)))] → W p l e ({ frames := 3, cells := 0, slots := 0, locals := 109 } : Room) s m args below meth c H locs 0 0 Q (F0 m 77 ls []) := by
          intro n77
          induction n77 with
          | zero => intro i hi hfu; exact absurd hfu (by omega)
          | succ n77 ih77 =>
            intro i hi hfu H locs hW hS ls hl
            refine lv_iload_n hx hb dX2_become_77 rfl (lv_at hl 0 rfl) ?_
            refine lv_bipush (v := nI 16) hx hb dX2_become_78 (by decide) ?_
            refine lv_icmp_ge (tgt := 104) hx hb dX2_become_80 (by decide) (fun c80_4 => ?_) (fun c80_4 => ?_)
            · replace c80_4 : 16 ≤ i := (nI_leI (show 16 < 2147483648 by omega) (show i < 2147483648 by omega)).mp c80_4
              refine lv_iconst (v := nI 0) hx hb dX2_become_104 (by decide) ?_
              refine lv_istore_n (lv' := [(2, .int (nI (0))), (0, .ref (ad 1 (0))), (1, .ref (ad 1 (1)))]) hx hb dX2_become_105 rfl hl (by decide) rfl (fun ls hl => ?_)
              have K106 : ∀ (n : Nat) (i : Nat), (i ≤ 6) → 6 < i + n → ∀ (H : Heap) (locs : List Loc), va_P D vwCl (wS LC ad (wC G ad (nb4 I 1 0 39 0 43 4 i))) H → va_S (wA LC ad) s.heap H locs → ∀ (ls : Array Slot), lv_has ls 3 [(2, .int (nI (i))), (0, .ref (ad 1 (0))), (1, .ref (ad 1 (1)))] → W p l e ({ frames := 3, cells := 0, slots := 0, locals := 109 } : Room) s m args below meth c H locs 0 0 Q (F0 m 106 ls []) := by
                intro n106
                induction n106 with
                | zero => intro i hi hfu; exact absurd hfu (by omega)
                | succ n106 ih106 =>
                  intro i hi hfu H locs hW hS ls hl
                  refine lv_iload_n hx hb dX2_become_106 rfl (lv_at hl 0 rfl) ?_
                  refine lv_bipush (v := nI 6) hx hb dX2_become_107 (by decide) ?_
                  refine lv_icmp_ge (tgt := 133) hx hb dX2_become_109 (by decide) (fun c109_5 => ?_) (fun c109_5 => ?_)
                  · replace c109_5 : 6 ≤ i := (nI_leI (show 6 < 2147483648 by omega) (show i < 2147483648 by omega)).mp c109_5
                    refine lv_aload_n hx hb dX2_become_133 rfl (lv_at hl 1 rfl) ?_
                    refine lv_aload_n hx hb dX2_become_134 rfl (lv_at hl 2 rfl) ?_
                    refine r_get hx hb hts hown hK hW 1 (1) 6 (mC (by decide) (by decide)) rfl rfl hinX2 (by decide) hf58 rfl rfl dX2_become_135 (lv_topi (fun x7 ex7 => ?_))
                    refine r_puti (wd := wC G ad) (ty := .int) hx hb hts hown hK hI hW hS 1 (0) 6 (mC (by decide) (by decide)) rfl rfl hinX2 (by decide) hf58 rfl tyX2 tyX2_ok nmX2 rfl (by decide +kernel) rfl rfl (Nat.le_of_ble_eq_true rfl) (by simp [wC, up3]) (fun f' i' hn => wC_up f' i' hn) dX2_become_138 (fun I8 H locs eI8 hW hS => ?_)
                    rw [hQ]
                    exact g_vret (wd := wC G ad) hx hb hr hlocks hW hS (by have e4 : i = 6 := (by omega); subst e4; subst eI8 ex7; rfl) dX2_become_141
                  · replace c109_5 : ¬ (6 ≤ i) := fun h => c109_5 ((nI_leI (show 6 < 2147483648 by omega) (show i < 2147483648 by omega)).mpr h)
                    have hq0 : (nb4 I 1 0 39 0 43 4 i 6 0 i).toNatClampNeg < 6 := by rw [nb4_6]; exact hWt 0 _ (by decide) (by omega)
                    have hq1 : (nb4 I 1 0 39 0 43 4 i 6 1 i).toNatClampNeg < 6 := by rw [nb4_6]; exact hWt 1 _ (by decide) (by omega)
                    refine lv_aload_n hx hb dX2_become_112 rfl (lv_at hl 1 rfl) ?_
                    refine r_get hx hb hts hown hK hW 1 (0) 5 (mC (by decide) (by decide)) rfl rfl hinX2 (by decide) hf36 rfl rfl dX2_become_113 ?_
                    refine lv_iload_n hx hb dX2_become_116 rfl (lv_at hl 0 rfl) ?_
                    refine r_aald hx hb hK hW 2 6 (0) (i) (mC (by decide) (by decide)) rfl rfl (show i < 6 by omega) (by decide) rfl rfl dX2_become_117 ?_
                    refine lv_aload_n hx hb dX2_become_118 rfl (lv_at hl 2 rfl) ?_
                    refine r_get hx hb hts hown hK hW 1 (1) 5 (mC (by decide) (by decide)) rfl rfl hinX2 (by decide) hf36 rfl rfl dX2_become_119 ?_
                    refine lv_iload_n hx hb dX2_become_122 rfl (lv_at hl 0 rfl) ?_
                    refine r_aald hx hb hK hW 2 6 (1) (i) (mC (by decide) (by decide)) rfl rfl (show i < 6 by omega) (by decide) rfl rfl dX2_become_123 ?_
                    refine g_cv (va_runV (As := [.ref (ad 8 (((nb4 I 1 0 39 0 43 4 i) 6 1 i).toNatClampNeg + 6))]) (rest := []) ⟨hx, hb, hml, hown, hts⟩ (c_X1_become_ l D G ad hI (nb4 I 1 0 39 0 43 4 i) (((nb4 I 1 0 39 0 43 4 i) 6 0 i).toNatClampNeg) (((nb4 I 1 0 39 0 43 4 i) 6 1 i).toNatClampNeg + 6) (show ((nb4 I 1 0 39 0 43 4 i) 6 0 i).toNatClampNeg < 12 by omega) (show ((nb4 I 1 0 39 0 43 4 i) 6 1 i).toNatClampNeg + 6 < 12 by omega)) (cwV 1 hts gX2_become_X1_become_ rfl rfl rfl (by decide +kernel) ⟨Nat.le_of_ble_eq_true rfl, Nat.le_of_ble_eq_true rfl⟩) (g_preV hK hW 8 (((nb4 I 1 0 39 0 43 4 i) 6 0 i).toNatClampNeg) (mC (by decide) (show ((nb4 I 1 0 39 0 43 4 i) 6 0 i).toNatClampNeg < 12 by omega)) rfl rfl) rfl rfl hl.1 rfl (lv_room (Nat.le_of_ble_eq_true rfl)) dX2_become_124 ⟨Nat.le_refl _, Nat.le_refl _⟩) hS (fun I9 H locs hp hW hS => ?_)
                    have eI9 : I9 = mset (nb4 I 1 0 39 0 43 4 i) (((nb4 I 1 0 39 0 43 4 i) 6 0 i).toNatClampNeg) ((nb4 I 1 0 39 0 43 4 i) 8 (((nb4 I 1 0 39 0 43 4 i) 6 1 i).toNatClampNeg + 6) 0) ((nb4 I 1 0 39 0 43 4 i) 8 (((nb4 I 1 0 39 0 43 4 i) 6 1 i).toNatClampNeg + 6) 1) (((nb4 I 1 0 39 0 43 4 i) 6 1 i).toNatClampNeg + 6 + 20) 18 (((nb4 I 1 0 39 0 43 4 i) 6 1 i).toNatClampNeg + 6) := hp
                    refine lv_iinc (v := nI (i + 1)) (lv' := [(2, .int (nI (i + 1))), (0, .ref (ad 1 (0))), (1, .ref (ad 1 (1)))]) hx hb dX2_become_127 hl (k := 0) rfl (nI_inc i 1) (by decide) rfl (fun ls hl => ?_)
                    refine lv_goto (tgt := 106) hx hb dX2_become_130 (by decide) ?_
                    have e9 : I9 = nb4 I 1 0 39 0 43 4 (i + 1) := by
                      subst eI9
                      rfl
                    have hW9 := hW
                    rw [e9] at hW9
                    exact ih106 (i + 1) (by omega) (by omega) _ _ hW9 hS _ (lv_sub hl [0, 1, 2] rfl)
              have e9 : nb3 I 1 0 39 0 43 4 i = nb4 I 1 0 39 0 43 4 0 := by
                have e4 : i = 16 := (by omega)
                subst e4
                skip
                rfl
              have hW9 := hW
              rw [e9] at hW9
              exact K106 (6 + 1) (0) (by omega) (by omega) _ _ hW9 hS _ (lv_sub hl [0, 1, 2] rfl)
            · replace c80_4 : ¬ (16 ≤ i) := fun h => c80_4 ((nI_leI (show 16 < 2147483648 by omega) (show i < 2147483648 by omega)).mpr h)
              refine lv_aload_n hx hb dX2_become_83 rfl (lv_at hl 1 rfl) ?_
              refine r_get hx hb hts hown hK hW 1 (0) 3 (mC (by decide) (by decide)) rfl rfl hinX2 (by decide) hf28 rfl rfl dX2_become_84 ?_
              refine lv_iload_n hx hb dX2_become_87 rfl (lv_at hl 0 rfl) ?_
              refine r_aald hx hb hK hW 1 3 (1) (i) (mC (by decide) (by decide)) rfl rfl (show i < 16 by omega) (by decide) rfl rfl dX2_become_88 ?_
              refine lv_aload_n hx hb dX2_become_89 rfl (lv_at hl 2 rfl) ?_
              refine r_get hx hb hts hown hK hW 1 (1) 3 (mC (by decide) (by decide)) rfl rfl hinX2 (by decide) hf28 rfl rfl dX2_become_90 ?_
              refine lv_iload_n hx hb dX2_become_93 rfl (lv_at hl 0 rfl) ?_
              refine r_aald hx hb hK hW 1 3 (3) (i) (mC (by decide) (by decide)) rfl rfl (show i < 16 by omega) (by decide) rfl rfl dX2_become_94 ?_
              refine g_cv (va_runV (As := [.ref (ad 4 (i + 43))]) (rest := []) ⟨hx, hb, hml, hown, hts⟩ (c_X4_become l D G ad hI (nb3 I 1 0 39 0 43 4 i) (i + 4) (i + 43) (show i + 4 < 59 by omega) (show i + 43 < 59 by omega)) (cwV 1 hts gX2_become_X4_become rfl rfl rfl (by decide +kernel) ⟨Nat.le_of_ble_eq_true rfl, Nat.le_of_ble_eq_true rfl⟩) (g_preV hK hW 4 (i + 4) (mC (by decide) (show i + 4 < 59 by omega)) rfl rfl) rfl rfl hl.1 rfl (lv_room (Nat.le_of_ble_eq_true rfl)) dX2_become_95 ⟨Nat.le_refl _, Nat.le_refl _⟩) hS (fun I10 H locs hp hW hS => ?_)
              have eI10 : I10 = cpy (nb3 I 1 0 39 0 43 4 i) (i + 4) (i + 43) := hp
              refine lv_iinc (v := nI (i + 1)) (lv' := [(2, .int (nI (i + 1))), (0, .ref (ad 1 (0))), (1, .ref (ad 1 (1)))]) hx hb dX2_become_98 hl (k := 0) rfl (nI_inc i 1) (by decide) rfl (fun ls hl => ?_)
              refine lv_goto (tgt := 77) hx hb dX2_become_101 (by decide) ?_
              have e9 : I10 = nb3 I 1 0 39 0 43 4 (i + 1) := by
                subst eI10
                rfl
              have hW9 := hW
              rw [e9] at hW9
              exact ih77 (i + 1) (by omega) (by omega) _ _ hW9 hS _ (lv_sub hl [0, 1, 2] rfl)
        have e9 : nb2 I 1 0 39 0 i = nb3 I 1 0 39 0 43 4 0 := by
          have e4 : i = 4 := (by omega)
          subst e4
          skip
          rfl
        have hW9 := hW
        rw [e9] at hW9
        exact K77 (16 + 1) (0) (by omega) (by omega) _ _ hW9 hS _ (lv_sub hl [0, 1, 2] rfl)
      · replace c51_3 : ¬ (4 ≤ i) := fun h => c51_3 ((nI_leI (show 4 < 2147483648 by omega) (show i < 2147483648 by omega)).mpr h)
        refine lv_aload_n hx hb dX2_become_54 rfl (lv_at hl 1 rfl) ?_
        refine r_get hx hb hts hown hK hW 1 (0) 2 (mC (by decide) (by decide)) rfl rfl hinX2 (by decide) hf24 rfl rfl dX2_become_55 ?_
        refine lv_iload_n hx hb dX2_become_58 rfl (lv_at hl 0 rfl) ?_
        refine r_aald hx hb hK hW 1 3 (0) (i) (mC (by decide) (by decide)) rfl rfl (show i < 4 by omega) (by decide) rfl rfl dX2_become_59 ?_
        refine lv_aload_n hx hb dX2_become_60 rfl (lv_at hl 2 rfl) ?_
        refine r_get hx hb hts hown hK hW 1 (1) 2 (mC (by decide) (by decide)) rfl rfl hinX2 (by decide) hf24 rfl rfl dX2_become_61 ?_
        refine lv_iload_n hx hb dX2_become_64 rfl (lv_at hl 0 rfl) ?_
        refine r_aald hx hb hK hW 1 3 (2) (i) (mC (by decide) (by decide)) rfl rfl (show i < 4 by omega) (by decide) rfl rfl dX2_become_65 ?_
        refine g_cv (va_runV (As := [.ref (ad 4 (i + 39))]) (rest := []) ⟨hx, hb, hml, hown, hts⟩ (c_X4_become l D G ad hI (nb2 I 1 0 39 0 i) i (i + 39) (show i < 59 by omega) (show i + 39 < 59 by omega)) (cwV 1 hts gX2_become_X4_become rfl rfl rfl (by decide +kernel) ⟨Nat.le_of_ble_eq_true rfl, Nat.le_of_ble_eq_true rfl⟩) (g_preV hK hW 4 (i) (mC (by decide) (show i < 59 by omega)) rfl rfl) rfl rfl hl.1 rfl (lv_room (Nat.le_of_ble_eq_true rfl)) dX2_become_66 ⟨Nat.le_refl _, Nat.le_refl _⟩) hS (fun I11 H locs hp hW hS => ?_)
        have eI11 : I11 = cpy (nb2 I 1 0 39 0 i) i (i + 39) := hp
        refine lv_iinc (v := nI (i + 1)) (lv' := [(2, .int (nI (i + 1))), (0, .ref (ad 1 (0))), (1, .ref (ad 1 (1)))]) hx hb dX2_become_69 hl (k := 0) rfl (nI_inc i 1) (by decide) rfl (fun ls hl => ?_)
        refine lv_goto (tgt := 49) hx hb dX2_become_72 (by decide) ?_
        have e9 : I11 = nb2 I 1 0 39 0 (i + 1) := by
          subst eI11
          rfl
        have hW9 := hW
        rw [e9] at hW9
        exact ih49 (i + 1) (by omega) (by omega) _ _ hW9 hS _ (lv_sub hl [0, 1, 2] rfl)
  have e9 : I3 = nb2 I 1 0 39 0 0 := by
    subst eI3 eI2 eI1
    rfl
  have hW9 := hW
  rw [e9] at hW9
  exact K49 (4 + 1) (0) (by omega) (by omega) _ _ hW9 hS _ (lv_sub hl [0, 1, 2] rfl)

set_option maxHeartbeats 4000000 in
set_option maxRecDepth 100000 in
theorem c_X2_become_1 (l : Launch) (D : va_G) (G : Nat → ClassId) (ad : Nat → Nat → Nat) (hI : wI LC ad) (I : St) (hWt : okW I) : Met l yX2_become wsX2_become ({ frames := 3, cells := 0, slots := 0, locals := 109 } : Room) (gPre D G LC ad [.ref (ad 1 (1)), .ref (ad 1 (0))] (wC G ad I)) (gQv D LC ad (wC G ad) (fun u => u = nbk I 0 1 0 39 4 43)) 0 0 (wA LC ad) := by
  refine g_entry (C := RX2) (cc := cX2_become) (maxL := 3) (ret := none) rfl (by decide) rfl (Nat.le_of_ble_eq_true rfl) (fun p e s m args below meth c Q ls hQ hx hb hr hts hown hlocks hml hW hK hl => ?_)
  have hl : lv_has ls 3 [(0, .ref (ad 1 (1))), (1, .ref (ad 1 (0)))] := hl
  have hS := va_S.rf (A := wA LC ad) (H0 := s.heap)
  have hinX2 : ∀ w ∈ wsX20, w ∈ wsX2_become := by decide +kernel
  have hf12 := hts (.fieldLink RX2 12 "JoinedStores$Network" "dots" "LJoinedStores$Dots;") (by decide +kernel)
  have hf18 := hts (.fieldLink RX2 18 "JoinedStores$Network" "kinds" "[I") (by decide +kernel)
  have hf24 := hts (.fieldLink RX2 24 "JoinedStores$Network" "stores" "[LJoinedStores$Store;") (by decide +kernel)
  have hf28 := hts (.fieldLink RX2 28 "JoinedStores$Network" "parcels" "[LJoinedStores$Store;") (by decide +kernel)
  have hf31 := hts (.fieldLink RX2 31 "JoinedStores$Network" "known" "[I") (by decide +kernel)
  have hf36 := hts (.fieldLink RX2 36 "JoinedStores$Network" "waiting" "[LJoinedStores$Message;") (by decide +kernel)
  have hf58 := hts (.fieldLink RX2 58 "JoinedStores$Network" "waits" "I") (by decide +kernel)
  refine lv_aload_n hx hb dX2_become_0 rfl (lv_at hl 0 rfl) ?_
  refine r_get hx hb hts hown hK hW 1 (1) 0 (mC (by decide) (by decide)) rfl rfl hinX2 (by decide) hf12 rfl rfl dX2_become_1 ?_
  refine lv_aload_n hx hb dX2_become_4 rfl (lv_at hl 1 rfl) ?_
  refine r_get hx hb hts hown hK hW 1 (0) 0 (mC (by decide) (by decide)) rfl rfl hinX2 (by decide) hf12 rfl rfl dX2_become_5 ?_
  refine g_cv (va_runV (As := [.ref (ad 5 (0))]) (rest := []) ⟨hx, hb, hml, hown, hts⟩ (c_X0_become_1 l D G ad hI I  ) (cwV 1 hts gX2_become_X0_become rfl rfl rfl (by decide +kernel) ⟨Nat.le_of_ble_eq_true rfl, Nat.le_of_ble_eq_true rfl⟩) (g_preV hK hW 5 (1) (mC (by decide) (by decide)) rfl rfl) rfl rfl hl.1 rfl (lv_room (Nat.le_of_ble_eq_true rfl)) dX2_become_8 ⟨Nat.le_refl _, Nat.le_refl _⟩) hS (fun I1 H locs hp hW hS => ?_)
  have eI1 : I1 = dcp I 0 1 := hp
  refine lv_aload_n hx hb dX2_become_11 rfl (lv_at hl 1 rfl) ?_
  refine r_get hx hb hts hown hK hW 1 (0) 1 (mC (by decide) (by decide)) rfl rfl hinX2 (by decide) hf18 rfl rfl dX2_become_12 ?_
  refine lv_iconst (v := nI 0) hx hb dX2_become_15 (by decide) ?_
  refine lv_aload_n hx hb dX2_become_16 rfl (lv_at hl 0 rfl) ?_
  refine r_get hx hb hts hown hK hW 1 (1) 1 (mC (by decide) (by decide)) rfl rfl hinX2 (by decide) hf18 rfl rfl dX2_become_17 ?_
  refine lv_iconst (v := nI 0) hx hb dX2_become_20 (by decide) ?_
  refine lv_aload_n hx hb dX2_become_21 rfl (lv_at hl 0 rfl) ?_
  refine r_get hx hb hts hown hK hW 1 (1) 1 (mC (by decide) (by decide)) rfl rfl hinX2 (by decide) hf18 rfl rfl dX2_become_22 ?_
  refine r_alen hx hb hK hW 16 (1) (mC (by decide) (by decide)) (wC_arr (by decide)) dX2_become_25 ?_
  refine rC_copy hx hb (hml.trans hl.1.symm) hown (hts (.methodLink RX2 46 arraycopyName) (by decide +kernel)) (hts (.native arraycopyName) (by decide +kernel)) (hts (.static arraycopyName) (by decide +kernel)) (hts (.initialized "java/lang/System") (by decide +kernel)) hK hI hW hS 16 (0) 16 (1) (0) (0) (12) (by decide) (by decide) (by decide) (by decide) (by decide) (by decide) (by decide) (by decide) rfl rfl rfl (by decide) (by decide) dX2_become_26 (fun I2 H locs eI2 hW hS => ?_)
  refine lv_aload_n hx hb dX2_become_29 rfl (lv_at hl 1 rfl) ?_
  refine r_get hx hb hts hown hK hW 1 (0) 4 (mC (by decide) (by decide)) rfl rfl hinX2 (by decide) hf31 rfl rfl dX2_become_30 ?_
  refine lv_iconst (v := nI 0) hx hb dX2_become_33 (by decide) ?_
  refine lv_aload_n hx hb dX2_become_34 rfl (lv_at hl 0 rfl) ?_
  refine r_get hx hb hts hown hK hW 1 (1) 4 (mC (by decide) (by decide)) rfl rfl hinX2 (by decide) hf31 rfl rfl dX2_become_35 ?_
  refine lv_iconst (v := nI 0) hx hb dX2_become_38 (by decide) ?_
  refine lv_aload_n hx hb dX2_become_39 rfl (lv_at hl 0 rfl) ?_
  refine r_get hx hb hts hown hK hW 1 (1) 4 (mC (by decide) (by decide)) rfl rfl hinX2 (by decide) hf31 rfl rfl dX2_become_40 ?_
  refine r_alen hx hb hK hW 17 (1) (mC (by decide) (by decide)) (wC_arr (by decide)) dX2_become_43 ?_
  refine rC_copy hx hb (hml.trans hl.1.symm) hown (hts (.methodLink RX2 46 arraycopyName) (by decide +kernel)) (hts (.native arraycopyName) (by decide +kernel)) (hts (.static arraycopyName) (by decide +kernel)) (hts (.initialized "java/lang/System") (by decide +kernel)) hK hI hW hS 17 (0) 17 (1) (0) (0) (64) (by decide) (by decide) (by decide) (by decide) (by decide) (by decide) (by decide) (by decide) rfl rfl rfl (by decide) (by decide) dX2_become_44 (fun I3 H locs eI3 hW hS => ?_)
  refine lv_iconst (v := nI 0) hx hb dX2_become_47 (by decide) ?_
  refine lv_istore_n (lv' := [(2, .int (nI (0))), (0, .ref (ad 1 (1))), (1, .ref (ad 1 (0)))]) hx hb dX2_become_48 rfl hl (by decide) rfl (fun ls hl => ?_)
  have K49 : ∀ (n : Nat) (i : Nat), (i ≤ 4) → 4 < i + n → ∀ (H : Heap) (locs : List Loc), va_P D vwCl (wS LC ad (wC G ad (nb2 I 0 1 0 39 i))) H → va_S (wA LC ad) s.heap H locs → ∀ (ls : Array Slot), lv_has ls 3 [(2, .int (nI (i))), (0, .ref (ad 1 (1))), (1, .ref (ad 1 (0)))] → W p l e ({ frames := 3, cells := 0, slots := 0, locals := 109 } : Room) s m args below meth c H locs 0 0 Q (F0 m 49 ls []) := by
    intro n49
    induction n49 with
    | zero => intro i hi hfu; exact absurd hfu (by omega)
    | succ n49 ih49 =>
      intro i hi hfu H locs hW hS ls hl
      refine lv_iload_n hx hb dX2_become_49 rfl (lv_at hl 0 rfl) ?_
      refine lv_iconst (v := nI 4) hx hb dX2_become_50 (by decide) ?_
      refine lv_icmp_ge (tgt := 75) hx hb dX2_become_51 (by decide) (fun c51_3 => ?_) (fun c51_3 => ?_)
      · replace c51_3 : 4 ≤ i := (nI_leI (show 4 < 2147483648 by omega) (show i < 2147483648 by omega)).mp c51_3
        refine lv_iconst (v := nI 0) hx hb dX2_become_75 (by decide) ?_
        refine lv_istore_n (lv' := [(2, .int (nI (0))), (0, .ref (ad 1 (1))), (1, .ref (ad 1 (0)))]) hx hb dX2_become_76 rfl hl (by decide) rfl (fun ls hl => ?_)
        have K77 : ∀ (n : Nat) (i : Nat), (i ≤ 16) → 16 < i + n → ∀ (H : Heap) (locs : List Loc), va_P D vwCl (wS LC ad (wC G ad (nb3 I 0 1 0 39 4 43 i))) H → va_S (wA LC ad) s.heap H locs → ∀ (ls : Array Slot), lv_has ls 3 [(2, .int (nI (i))), (0, .ref (ad 1 (1))), (1, .ref (ad 1 (0)))] → W p l e ({ frames := 3, cells := 0, slots := 0, locals := 109 } : Room) s m args below meth c H locs 0 0 Q (F0 m 77 ls []) := by
          intro n77
          induction n77 with
          | zero => intro i hi hfu; exact absurd hfu (by omega)
          | succ n77 ih77 =>
            intro i hi hfu H locs hW hS ls hl
            refine lv_iload_n hx hb dX2_become_77 rfl (lv_at hl 0 rfl) ?_
            refine lv_bipush (v := nI 16) hx hb dX2_become_78 (by decide) ?_
            refine lv_icmp_ge (tgt := 104) hx hb dX2_become_80 (by decide) (fun c80_4 => ?_) (fun c80_4 => ?_)
            · replace c80_4 : 16 ≤ i := (nI_leI (show 16 < 2147483648 by omega) (show i < 2147483648 by omega)).mp c80_4
              refine lv_iconst (v := nI 0) hx hb dX2_become_104 (by decide) ?_
              refine lv_istore_n (lv' := [(2, .int (nI (0))), (0, .ref (ad 1 (1))), (1, .ref (ad 1 (0)))]) hx hb dX2_become_105 rfl hl (by decide) rfl (fun ls hl => ?_)
              have K106 : ∀ (n : Nat) (i : Nat), (i ≤ 6) → 6 < i + n → ∀ (H : Heap) (locs : List Loc), va_P D vwCl (wS LC ad (wC G ad (nb4 I 0 1 0 39 4 43 i))) H → va_S (wA LC ad) s.heap H locs → ∀ (ls : Array Slot), lv_has ls 3 [(2, .int (nI (i))), (0, .ref (ad 1 (1))), (1, .ref (ad 1 (0)))] → W p l e ({ frames := 3, cells := 0, slots := 0, locals := 109 } : Room) s m args below meth c H locs 0 0 Q (F0 m 106 ls []) := by
                intro n106
                induction n106 with
                | zero => intro i hi hfu; exact absurd hfu (by omega)
                | succ n106 ih106 =>
                  intro i hi hfu H locs hW hS ls hl
                  refine lv_iload_n hx hb dX2_become_106 rfl (lv_at hl 0 rfl) ?_
                  refine lv_bipush (v := nI 6) hx hb dX2_become_107 (by decide) ?_
                  refine lv_icmp_ge (tgt := 133) hx hb dX2_become_109 (by decide) (fun c109_5 => ?_) (fun c109_5 => ?_)
                  · replace c109_5 : 6 ≤ i := (nI_leI (show 6 < 2147483648 by omega) (show i < 2147483648 by omega)).mp c109_5
                    refine lv_aload_n hx hb dX2_become_133 rfl (lv_at hl 1 rfl) ?_
                    refine lv_aload_n hx hb dX2_become_134 rfl (lv_at hl 2 rfl) ?_
                    refine r_get hx hb hts hown hK hW 1 (0) 6 (mC (by decide) (by decide)) rfl rfl hinX2 (by decide) hf58 rfl rfl dX2_become_135 (lv_topi (fun x7 ex7 => ?_))
                    refine r_puti (wd := wC G ad) (ty := .int) hx hb hts hown hK hI hW hS 1 (1) 6 (mC (by decide) (by decide)) rfl rfl hinX2 (by decide) hf58 rfl tyX2 tyX2_ok nmX2 rfl (by decide +kernel) rfl rfl (Nat.le_of_ble_eq_true rfl) (by simp [wC, up3]) (fun f' i' hn => wC_up f' i' hn) dX2_become_138 (fun I8 H locs eI8 hW hS => ?_)
                    rw [hQ]
                    exact g_vret (wd := wC G ad) hx hb hr hlocks hW hS (by have e4 : i = 6 := (by omega); subst e4; subst eI8 ex7; rfl) dX2_become_141
                  · replace c109_5 : ¬ (6 ≤ i) := fun h => c109_5 ((nI_leI (show 6 < 2147483648 by omega) (show i < 2147483648 by omega)).mpr h)
                    have hq0 : (nb4 I 0 1 0 39 4 43 i 6 0 i).toNatClampNeg < 6 := by rw [nb4_6]; exact hWt 0 _ (by decide) (by omega)
                    have hq1 : (nb4 I 0 1 0 39 4 43 i 6 1 i).toNatClampNeg < 6 := by rw [nb4_6]; exact hWt 1 _ (by decide) (by omega)
                    refine lv_aload_n hx hb dX2_become_112 rfl (lv_at hl 1 rfl) ?_
                    refine r_get hx hb hts hown hK hW 1 (1) 5 (mC (by decide) (by decide)) rfl rfl hinX2 (by decide) hf36 rfl rfl dX2_become_113 ?_
                    refine lv_iload_n hx hb dX2_become_116 rfl (lv_at hl 0 rfl) ?_
                    refine r_aald hx hb hK hW 2 6 (1) (i) (mC (by decide) (by decide)) rfl rfl (show i < 6 by omega) (by decide) rfl rfl dX2_become_117 ?_
                    refine lv_aload_n hx hb dX2_become_118 rfl (lv_at hl 2 rfl) ?_
                    refine r_get hx hb hts hown hK hW 1 (0) 5 (mC (by decide) (by decide)) rfl rfl hinX2 (by decide) hf36 rfl rfl dX2_become_119 ?_
                    refine lv_iload_n hx hb dX2_become_122 rfl (lv_at hl 0 rfl) ?_
                    refine r_aald hx hb hK hW 2 6 (0) (i) (mC (by decide) (by decide)) rfl rfl (show i < 6 by omega) (by decide) rfl rfl dX2_become_123 ?_
                    refine g_cv (va_runV (As := [.ref (ad 8 (((nb4 I 0 1 0 39 4 43 i) 6 0 i).toNatClampNeg))]) (rest := []) ⟨hx, hb, hml, hown, hts⟩ (c_X1_become_ l D G ad hI (nb4 I 0 1 0 39 4 43 i) (((nb4 I 0 1 0 39 4 43 i) 6 1 i).toNatClampNeg + 6) (((nb4 I 0 1 0 39 4 43 i) 6 0 i).toNatClampNeg) (show ((nb4 I 0 1 0 39 4 43 i) 6 1 i).toNatClampNeg + 6 < 12 by omega) (show ((nb4 I 0 1 0 39 4 43 i) 6 0 i).toNatClampNeg < 12 by omega)) (cwV 1 hts gX2_become_X1_become_ rfl rfl rfl (by decide +kernel) ⟨Nat.le_of_ble_eq_true rfl, Nat.le_of_ble_eq_true rfl⟩) (g_preV hK hW 8 (((nb4 I 0 1 0 39 4 43 i) 6 1 i).toNatClampNeg + 6) (mC (by decide) (show ((nb4 I 0 1 0 39 4 43 i) 6 1 i).toNatClampNeg + 6 < 12 by omega)) rfl rfl) rfl rfl hl.1 rfl (lv_room (Nat.le_of_ble_eq_true rfl)) dX2_become_124 ⟨Nat.le_refl _, Nat.le_refl _⟩) hS (fun I9 H locs hp hW hS => ?_)
                    have eI9 : I9 = mset (nb4 I 0 1 0 39 4 43 i) (((nb4 I 0 1 0 39 4 43 i) 6 1 i).toNatClampNeg + 6) ((nb4 I 0 1 0 39 4 43 i) 8 (((nb4 I 0 1 0 39 4 43 i) 6 0 i).toNatClampNeg) 0) ((nb4 I 0 1 0 39 4 43 i) 8 (((nb4 I 0 1 0 39 4 43 i) 6 0 i).toNatClampNeg) 1) (((nb4 I 0 1 0 39 4 43 i) 6 0 i).toNatClampNeg + 20) 18 (((nb4 I 0 1 0 39 4 43 i) 6 0 i).toNatClampNeg) := hp
                    refine lv_iinc (v := nI (i + 1)) (lv' := [(2, .int (nI (i + 1))), (0, .ref (ad 1 (1))), (1, .ref (ad 1 (0)))]) hx hb dX2_become_127 hl (k := 0) rfl (nI_inc i 1) (by decide) rfl (fun ls hl => ?_)
                    refine lv_goto (tgt := 106) hx hb dX2_become_130 (by decide) ?_
                    have e9 : I9 = nb4 I 0 1 0 39 4 43 (i + 1) := by
                      subst eI9
                      rfl
                    have hW9 := hW
                    rw [e9] at hW9
                    exact ih106 (i + 1) (by omega) (by omega) _ _ hW9 hS _ (lv_sub hl [0, 1, 2] rfl)
              have e9 : nb3 I 0 1 0 39 4 43 i = nb4 I 0 1 0 39 4 43 0 := by
                have e4 : i = 16 := (by omega)
                subst e4
                skip
                rfl
              have hW9 := hW
              rw [e9] at hW9
              exact K106 (6 + 1) (0) (by omega) (by omega) _ _ hW9 hS _ (lv_sub hl [0, 1, 2] rfl)
            · replace c80_4 : ¬ (16 ≤ i) := fun h => c80_4 ((nI_leI (show 16 < 2147483648 by omega) (show i < 2147483648 by omega)).mpr h)
              refine lv_aload_n hx hb dX2_become_83 rfl (lv_at hl 1 rfl) ?_
              refine r_get hx hb hts hown hK hW 1 (1) 3 (mC (by decide) (by decide)) rfl rfl hinX2 (by decide) hf28 rfl rfl dX2_become_84 ?_
              refine lv_iload_n hx hb dX2_become_87 rfl (lv_at hl 0 rfl) ?_
              refine r_aald hx hb hK hW 1 3 (3) (i) (mC (by decide) (by decide)) rfl rfl (show i < 16 by omega) (by decide) rfl rfl dX2_become_88 ?_
              refine lv_aload_n hx hb dX2_become_89 rfl (lv_at hl 2 rfl) ?_
              refine r_get hx hb hts hown hK hW 1 (0) 3 (mC (by decide) (by decide)) rfl rfl hinX2 (by decide) hf28 rfl rfl dX2_become_90 ?_
              refine lv_iload_n hx hb dX2_become_93 rfl (lv_at hl 0 rfl) ?_
              refine r_aald hx hb hK hW 1 3 (1) (i) (mC (by decide) (by decide)) rfl rfl (show i < 16 by omega) (by decide) rfl rfl dX2_become_94 ?_
              refine g_cv (va_runV (As := [.ref (ad 4 (i + 4))]) (rest := []) ⟨hx, hb, hml, hown, hts⟩ (c_X4_become l D G ad hI (nb3 I 0 1 0 39 4 43 i) (i + 43) (i + 4) (show i + 43 < 59 by omega) (show i + 4 < 59 by omega)) (cwV 1 hts gX2_become_X4_become rfl rfl rfl (by decide +kernel) ⟨Nat.le_of_ble_eq_true rfl, Nat.le_of_ble_eq_true rfl⟩) (g_preV hK hW 4 (i + 43) (mC (by decide) (show i + 43 < 59 by omega)) rfl rfl) rfl rfl hl.1 rfl (lv_room (Nat.le_of_ble_eq_true rfl)) dX2_become_95 ⟨Nat.le_refl _, Nat.le_refl _⟩) hS (fun I10 H locs hp hW hS => ?_)
              have eI10 : I10 = cpy (nb3 I 0 1 0 39 4 43 i) (i + 43) (i + 4) := hp
              refine lv_iinc (v := nI (i + 1)) (lv' := [(2, .int (nI (i + 1))), (0, .ref (ad 1 (1))), (1, .ref (ad 1 (0)))]) hx hb dX2_become_98 hl (k := 0) rfl (nI_inc i 1) (by decide) rfl (fun ls hl => ?_)
              refine lv_goto (tgt := 77) hx hb dX2_become_101 (by decide) ?_
              have e9 : I10 = nb3 I 0 1 0 39 4 43 (i + 1) := by
                subst eI10
                rfl
              have hW9 := hW
              rw [e9] at hW9
              exact ih77 (i + 1) (by omega) (by omega) _ _ hW9 hS _ (lv_sub hl [0, 1, 2] rfl)
        have e9 : nb2 I 0 1 0 39 i = nb3 I 0 1 0 39 4 43 0 := by
          have e4 : i = 4 := (by omega)
          subst e4
          skip
          rfl
        have hW9 := hW
        rw [e9] at hW9
        exact K77 (16 + 1) (0) (by omega) (by omega) _ _ hW9 hS _ (lv_sub hl [0, 1, 2] rfl)
      · replace c51_3 : ¬ (4 ≤ i) := fun h => c51_3 ((nI_leI (show 4 < 2147483648 by omega) (show i < 2147483648 by omega)).mpr h)
        refine lv_aload_n hx hb dX2_become_54 rfl (lv_at hl 1 rfl) ?_
        refine r_get hx hb hts hown hK hW 1 (1) 2 (mC (by decide) (by decide)) rfl rfl hinX2 (by decide) hf24 rfl rfl dX2_become_55 ?_
        refine lv_iload_n hx hb dX2_become_58 rfl (lv_at hl 0 rfl) ?_
        refine r_aald hx hb hK hW 1 3 (2) (i) (mC (by decide) (by decide)) rfl rfl (show i < 4 by omega) (by decide) rfl rfl dX2_become_59 ?_
        refine lv_aload_n hx hb dX2_become_60 rfl (lv_at hl 2 rfl) ?_
        refine r_get hx hb hts hown hK hW 1 (0) 2 (mC (by decide) (by decide)) rfl rfl hinX2 (by decide) hf24 rfl rfl dX2_become_61 ?_
        refine lv_iload_n hx hb dX2_become_64 rfl (lv_at hl 0 rfl) ?_
        refine r_aald hx hb hK hW 1 3 (0) (i) (mC (by decide) (by decide)) rfl rfl (show i < 4 by omega) (by decide) rfl rfl dX2_become_65 ?_
        refine g_cv (va_runV (As := [.ref (ad 4 (i))]) (rest := []) ⟨hx, hb, hml, hown, hts⟩ (c_X4_become l D G ad hI (nb2 I 0 1 0 39 i) (i + 39) i (show i + 39 < 59 by omega) (show i < 59 by omega)) (cwV 1 hts gX2_become_X4_become rfl rfl rfl (by decide +kernel) ⟨Nat.le_of_ble_eq_true rfl, Nat.le_of_ble_eq_true rfl⟩) (g_preV hK hW 4 (i + 39) (mC (by decide) (show i + 39 < 59 by omega)) rfl rfl) rfl rfl hl.1 rfl (lv_room (Nat.le_of_ble_eq_true rfl)) dX2_become_66 ⟨Nat.le_refl _, Nat.le_refl _⟩) hS (fun I11 H locs hp hW hS => ?_)
        have eI11 : I11 = cpy (nb2 I 0 1 0 39 i) (i + 39) i := hp
        refine lv_iinc (v := nI (i + 1)) (lv' := [(2, .int (nI (i + 1))), (0, .ref (ad 1 (1))), (1, .ref (ad 1 (0)))]) hx hb dX2_become_69 hl (k := 0) rfl (nI_inc i 1) (by decide) rfl (fun ls hl => ?_)
        refine lv_goto (tgt := 49) hx hb dX2_become_72 (by decide) ?_
        have e9 : I11 = nb2 I 0 1 0 39 (i + 1) := by
          subst eI11
          rfl
        have hW9 := hW
        rw [e9] at hW9
        exact ih49 (i + 1) (by omega) (by omega) _ _ hW9 hS _ (lv_sub hl [0, 1, 2] rfl)
  have e9 : I3 = nb2 I 0 1 0 39 0 := by
    subst eI3 eI2 eI1
    rfl
  have hW9 := hW
  rw [e9] at hW9
  exact K49 (4 + 1) (0) (by omega) (by omega) _ _ hW9 hS _ (lv_sub hl [0, 1, 2] rfl)

set_option maxHeartbeats 4000000 in
set_option maxRecDepth 100000 in
theorem c_X3_isMissing (l : Launch) (D : va_G) (G : Nat → ClassId) (ad : Nat → Nat → Nat) (hI : wI LC ad) (I : St) (i : Nat) (hi4 : i < 4) : Met l yX3_isMissing wsX3_isMissing ({ frames := 0, cells := 0, slots := 0, locals := 0 } : Room) (gPre D G LC ad [.ref (ad 7 (i))] (wC G ad I)) (gQi D LC ad (wC G ad) (fun r9 u => r9 = bI (decide (I 7 i 0 = -1)) ∧ u = I)) 0 0 (wA LC ad) := by
  refine g_entry (C := RX3) (cc := cX3_isMissing) (maxL := 1) (ret := (some .boolean)) rfl (by decide) rfl (Nat.le_of_ble_eq_true rfl) (fun p e s m args below meth c Q ls hQ hx hb hr hts hown hlocks hml hW hK hl => ?_)
  have hl : lv_has ls 1 [(0, .ref (ad 7 (i)))] := hl
  have hS := va_S.rf (A := wA LC ad) (H0 := s.heap)
  have hinX3 : ∀ w ∈ wsX30, w ∈ wsX3_isMissing := by decide +kernel
  have hf9 := hts (.fieldLink RX3 9 "JoinedStores$Sheet" "sort" "I") (by decide +kernel)
  refine lv_aload_n hx hb dX3_isMissing_0 rfl (lv_at hl 0 rfl) ?_
  refine r_get hx hb hts hown hK hW 7 (i) 0 (mC (by decide) (show i < 4 by omega)) rfl rfl hinX3 (by decide) hf9 rfl rfl dX3_isMissing_1 (lv_topi (fun x1 ex1 => ?_))
  refine lv_iconst (v := (-1)) hx hb dX3_isMissing_4 (by decide) ?_
  refine lv_icmp_ne (tgt := 12) hx hb dX3_isMissing_5 (by decide) (fun c5_1 => ?_) (fun c5_1 => ?_)
  · refine lv_iconst (v := nI 0) hx hb dX3_isMissing_12 (by decide) ?_
    rw [hQ]
    exact g_iret (wd := wC G ad) hx hb hr (by decide) hlocks hW hS (by subst ex1; exact ⟨by simp_all [bI, nI_0, nI_one], rfl⟩) dX3_isMissing_13
  · refine lv_iconst (v := nI 1) hx hb dX3_isMissing_8 (by decide) ?_
    refine lv_goto (tgt := 13) hx hb dX3_isMissing_9 (by decide) ?_
    rw [hQ]
    exact g_iret (wd := wC G ad) hx hb hr (by decide) hlocks hW hS (by subst ex1; exact ⟨by simp_all [bI, nI_0, nI_one], rfl⟩) dX3_isMissing_13

set_option maxHeartbeats 4000000 in
set_option maxRecDepth 100000 in
theorem c_X3_become (l : Launch) (D : va_G) (G : Nat → ClassId) (ad : Nat → Nat → Nat) (hI : wI LC ad) (I : St) (i : Nat) (hi4 : i < 4) (so le : Int32) : Met l yX3_become wsX3_become ({ frames := 0, cells := 0, slots := 0, locals := 0 } : Room) (gPre D G LC ad [.ref (ad 7 (i)), .int (so), .int (le)] (wC G ad I)) (gQv D LC ad (wC G ad) (fun u => u = shb I i so le)) 0 0 (wA LC ad) := by
  refine g_entry (C := RX3) (cc := cX3_become) (maxL := 4) (ret := none) rfl (by decide) rfl (Nat.le_of_ble_eq_true rfl) (fun p e s m args below meth c Q ls hQ hx hb hr hts hown hlocks hml hW hK hl => ?_)
  have hl : lv_has ls 4 [(0, .ref (ad 7 (i))), (1, .int (so)), (2, .int (le))] := hl
  have hS := va_S.rf (A := wA LC ad) (H0 := s.heap)
  have hinX3 : ∀ w ∈ wsX30, w ∈ wsX3_become := by decide +kernel
  have hf9 := hts (.fieldLink RX3 9 "JoinedStores$Sheet" "sort" "I") (by decide +kernel)
  have hf15 := hts (.fieldLink RX3 15 "JoinedStores$Sheet" "items" "[I") (by decide +kernel)
  have hf19 := hts (.fieldLink RX3 19 "JoinedStores$Sheet" "length" "I") (by decide +kernel)
  refine lv_aload_n hx hb dX3_become_0 rfl (lv_at hl 0 rfl) ?_
  refine lv_iload_n hx hb dX3_become_1 rfl (lv_at hl 1 rfl) ?_
  refine r_puti (wd := wC G ad) (ty := .int) hx hb hts hown hK hI hW hS 7 (i) 0 (mC (by decide) (show i < 4 by omega)) rfl rfl hinX3 (by decide) hf9 rfl tyX3 tyX3_ok nmX3 rfl (by decide +kernel) rfl rfl (Nat.le_of_ble_eq_true rfl) (by simp [wC, up3]) (fun f' i' hn => wC_up f' i' hn) dX3_become_2 (fun I1 H locs eI1 hW hS => ?_)
  refine lv_aload_n hx hb dX3_become_5 rfl (lv_at hl 0 rfl) ?_
  refine lv_iload_n hx hb dX3_become_6 rfl (lv_at hl 2 rfl) ?_
  refine r_puti (wd := wC G ad) (ty := .int) hx hb hts hown hK hI hW hS 7 (i) 1 (mC (by decide) (show i < 4 by omega)) rfl rfl hinX3 (by decide) hf19 rfl tyX3 tyX3_ok nmX3 rfl (by decide +kernel) rfl rfl (Nat.le_of_ble_eq_true rfl) (by simp [wC, up3]) (fun f' i' hn => wC_up f' i' hn) dX3_become_7 (fun I2 H locs eI2 hW hS => ?_)
  refine lv_iconst (v := nI 0) hx hb dX3_become_10 (by decide) ?_
  refine lv_istore_n (lv' := [(3, .int (nI (0))), (0, .ref (ad 7 (i))), (1, .int (so)), (2, .int (le))]) hx hb dX3_become_11 rfl hl (by decide) rfl (fun ls hl => ?_)
  have K12 : ∀ (n : Nat) (q : Nat), (q ≤ 40) → 40 < q + n → ∀ (H : Heap) (locs : List Loc), va_P D vwCl (wS LC ad (wC G ad (shP (up3 (up3 I 7 i 0 so) 7 i 1 le) i q))) H → va_S (wA LC ad) s.heap H locs → ∀ (ls : Array Slot), lv_has ls 4 [(3, .int (nI (q))), (0, .ref (ad 7 (i))), (1, .int (so)), (2, .int (le))] → W p l e ({ frames := 0, cells := 0, slots := 0, locals := 0 } : Room) s m args below meth c H locs 0 0 Q (F0 m 12 ls []) := by
    intro n12
    induction n12 with
    | zero => intro q hq hfu; exact absurd hfu (by omega)
    | succ n12 ih12 =>
      intro q hq hfu H locs hW hS ls hl
      refine lv_iload_n hx hb dX3_become_12 rfl (lv_at hl 0 rfl) ?_
      refine lv_bipush (v := nI 40) hx hb dX3_become_13 (by decide) ?_
      refine lv_icmp_ge (tgt := 31) hx hb dX3_become_15 (by decide) (fun c15_2 => ?_) (fun c15_2 => ?_)
      · replace c15_2 : 40 ≤ q := (nI_leI (show 40 < 2147483648 by omega) (show q < 2147483648 by omega)).mp c15_2
        rw [hQ]
        exact g_vret (wd := wC G ad) hx hb hr hlocks hW hS (by have e4 : q = 40 := (by omega); subst e4; rfl) dX3_become_31
      · replace c15_2 : ¬ (40 ≤ q) := fun h => c15_2 ((nI_leI (show 40 < 2147483648 by omega) (show q < 2147483648 by omega)).mpr h)
        refine lv_aload_n hx hb dX3_become_18 rfl (lv_at hl 1 rfl) ?_
        refine r_get hx hb hts hown hK hW 7 (i) 2 (mC (by decide) (show i < 4 by omega)) rfl rfl hinX3 (by decide) hf15 rfl rfl dX3_become_19 ?_
        refine lv_iload_n hx hb dX3_become_22 rfl (lv_at hl 0 rfl) ?_
        refine lv_iconst (v := nI 0) hx hb dX3_become_23 (by decide) ?_
        refine rC_iast hx hb hK hI hW hS 19 (i) (q) (by decide) (by decide) (show i < 4 by omega) (show q < 40 by omega) rfl dX3_become_24 (fun I4 H locs eI4 hW hS => ?_)
        refine lv_iinc (v := nI (q + 1)) (lv' := [(3, .int (nI (q + 1))), (0, .ref (ad 7 (i))), (1, .int (so)), (2, .int (le))]) hx hb dX3_become_25 hl (k := 0) rfl (nI_inc q 1) (by decide) rfl (fun ls hl => ?_)
        refine lv_goto (tgt := 12) hx hb dX3_become_28 (by decide) ?_
        have e9 : I4 = shP (up3 (up3 I 7 i 0 so) 7 i 1 le) i (q + 1) := by
          subst eI4
          exact shP_s _ _ _
        have hW9 := hW
        rw [e9] at hW9
        exact ih12 (q + 1) (by omega) (by omega) _ _ hW9 hS _ (lv_sub hl [0, 1, 2, 3] rfl)
  have e9 : I2 = shP (up3 (up3 I 7 i 0 so) 7 i 1 le) i 0 := by
    subst eI2 eI1
    exact (shP_0 _ _).symm
  have hW9 := hW
  rw [e9] at hW9
  exact K12 (40 + 1) (0) (by omega) (by omega) _ _ hW9 hS _ (lv_sub hl [0, 1, 2, 3] rfl)

set_option maxHeartbeats 4000000 in
set_option maxRecDepth 100000 in
theorem c_X3_holds (l : Launch) (D : va_G) (G : Nat → ClassId) (ad : Nat → Nat → Nat) (hI : wI LC ad) (I : St) (i : Nat) (hi4 : i < 4) (a n : Int32) : Met l yX3_holds wsX3_holds ({ frames := 0, cells := 0, slots := 0, locals := 0 } : Room) (gPre D G LC ad [.ref (ad 7 (i)), .int (a), .int (n)] (wC G ad I)) (gQi D LC ad (wC G ad) (fun r9 u => r9 = bI (hld I i a n) ∧ u = I)) 0 0 (wA LC ad) := by
  refine g_entry (C := RX3) (cc := cX3_holds) (maxL := 3) (ret := (some .boolean)) rfl (by decide) rfl (Nat.le_of_ble_eq_true rfl) (fun p e s m args below meth c Q ls hQ hx hb hr hts hown hlocks hml hW hK hl => ?_)
  have hl : lv_has ls 3 [(0, .ref (ad 7 (i))), (1, .int (a)), (2, .int (n))] := hl
  have hS := va_S.rf (A := wA LC ad) (H0 := s.heap)
  have hinX3 : ∀ w ∈ wsX30, w ∈ wsX3_holds := by decide +kernel
  have hf19 := hts (.fieldLink RX3 19 "JoinedStores$Sheet" "length" "I") (by decide +kernel)
  refine lv_iload_n hx hb dX3_holds_0 rfl (lv_at hl 1 rfl) ?_
  refine lv_if_lt (tgt := 30) hx hb dX3_holds_1 (by decide) (fun c1_0 => ?_) (fun c1_0 => ?_)
  · refine lv_iconst (v := nI 0) hx hb dX3_holds_30 (by decide) ?_
    rw [hQ]
    exact g_iret (wd := wC G ad) hx hb hr (by decide) hlocks hW hS (by skip; exact ⟨by simp_all [bI, hld, nI_0, nI_one], rfl⟩) dX3_holds_31
  · refine lv_iload_n hx hb dX3_holds_4 rfl (lv_at hl 2 rfl) ?_
    refine lv_if_lt (tgt := 30) hx hb dX3_holds_5 (by decide) (fun c5_1 => ?_) (fun c5_1 => ?_)
    · refine lv_iconst (v := nI 0) hx hb dX3_holds_30 (by decide) ?_
      rw [hQ]
      exact g_iret (wd := wC G ad) hx hb hr (by decide) hlocks hW hS (by skip; exact ⟨by simp_all [bI, hld, nI_0, nI_one], rfl⟩) dX3_holds_31
    · refine lv_iload_n hx hb dX3_holds_8 rfl (lv_at hl 2 rfl) ?_
      refine lv_aload_n hx hb dX3_holds_9 rfl (lv_at hl 0 rfl) ?_
      refine r_get hx hb hts hown hK hW 7 (i) 1 (mC (by decide) (show i < 4 by omega)) rfl rfl hinX3 (by decide) hf19 rfl rfl dX3_holds_10 (lv_topi (fun x3 ex3 => ?_))
      refine lv_icmp_gt (tgt := 30) hx hb dX3_holds_13 (by decide) (fun c13_3 => ?_) (fun c13_3 => ?_)
      · refine lv_iconst (v := nI 0) hx hb dX3_holds_30 (by decide) ?_
        rw [hQ]
        exact g_iret (wd := wC G ad) hx hb hr (by decide) hlocks hW hS (by subst ex3; exact ⟨by simp_all [bI, hld, nI_0, nI_one], rfl⟩) dX3_holds_31
      · refine lv_iload_n hx hb dX3_holds_16 rfl (lv_at hl 1 rfl) ?_
        refine lv_aload_n hx hb dX3_holds_17 rfl (lv_at hl 0 rfl) ?_
        refine r_get hx hb hts hown hK hW 7 (i) 1 (mC (by decide) (show i < 4 by omega)) rfl rfl hinX3 (by decide) hf19 rfl rfl dX3_holds_18 (lv_topi (fun x5 ex5 => ?_))
        refine lv_iload_n hx hb dX3_holds_21 rfl (lv_at hl 2 rfl) ?_
        refine lv_isub hx hb dX3_holds_22 (lv_topi (fun x6 ex6 => ?_))
        refine lv_icmp_gt (tgt := 30) hx hb dX3_holds_23 (by decide) (fun c23_6 => ?_) (fun c23_6 => ?_)
        · refine lv_iconst (v := nI 0) hx hb dX3_holds_30 (by decide) ?_
          rw [hQ]
          exact g_iret (wd := wC G ad) hx hb hr (by decide) hlocks hW hS (by subst ex6 ex5 ex3; exact ⟨by simp_all [bI, hld, nI_0, nI_one], rfl⟩) dX3_holds_31
        · refine lv_iconst (v := nI 1) hx hb dX3_holds_26 (by decide) ?_
          refine lv_goto (tgt := 31) hx hb dX3_holds_27 (by decide) ?_
          rw [hQ]
          exact g_iret (wd := wC G ad) hx hb hr (by decide) hlocks hW hS (by subst ex6 ex5 ex3; exact ⟨by simp_all [bI, hld, nI_0, nI_one], rfl⟩) dX3_holds_31
