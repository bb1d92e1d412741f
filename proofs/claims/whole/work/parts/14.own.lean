/-! ===== helpers of JoinedStores ===== -/
set_option maxHeartbeats 4000000 in
set_option maxRecDepth 100000 in
theorem c_X5_markGoneByAdding (l : Launch) (D : va_G) (G : Nat → ClassId) (ad : Nat → Nat → Nat) (hI : wI LC ad) (I : St) (ia o : Nat) (v : Int32) (hia : ia < 59) (ho : o < 12) (hM : okM I) (hKd : okK I) : Met l yX5_markGoneByAdding wsX5_markGoneByAdding ({ frames := 4, cells := 0, slots := 0, locals := 99 } : Room) (gPre D G LC ad [.ref (ad 0 (0)), .ref (ad 4 (ia)), .int (nI (o)), .int (v)] (wC G ad I)) (gQv D LC ad (wC G ad) (fun u => u = mg I ia o v)) 0 0 (wA LC ad) := by
  refine g_entry (C := RX5) (cc := cX5_markGoneByAdding) (maxL := 4) (ret := none) rfl (by decide) rfl (Nat.le_of_ble_eq_true rfl) (fun p e s m args below meth c Q ls hQ hx hb hr hts hown hlocks hml hW hK hl => ?_)
  have hl : lv_has ls 4 [(0, .ref (ad 0 (0))), (1, .ref (ad 4 (ia))), (2, .int (nI (o))), (3, .int (v))] := hl
  have hS := va_S.rf (A := wA LC ad) (H0 := s.heap)
  have hinX2 : ∀ w ∈ wsX20, w ∈ wsX5_markGoneByAdding := by decide +kernel
  have hinX5 : ∀ w ∈ wsX50, w ∈ wsX5_markGoneByAdding := by decide +kernel
  have hf10 := hts (.fieldLink RX5 10 "JoinedStores" "now" "LJoinedStores$Network;") (by decide +kernel)
  have hf28 := hts (.fieldLink RX5 28 "JoinedStores" "fresh" "LJoinedStores$Store;") (by decide +kernel)
  have hf51 := hts (.fieldLink RX5 51 "JoinedStores$Network" "dots" "LJoinedStores$Dots;") (by decide +kernel)
  have hf108 := hts (.fieldLink RX5 108 "JoinedStores$Network" "kinds" "[I") (by decide +kernel)
  refine lv_aload_n hx hb dX5_markGoneByAdding_0 rfl (lv_at hl 0 rfl) ?_
  refine r_get hx hb hts hown hK hW 0 (0) 0 (mC (by decide) (by decide)) rfl rfl hinX5 (by decide) hf10 rfl rfl dX5_markGoneByAdding_1 ?_
  refine r_get hx hb hts hown hK hW 1 (0) 1 (mC (by decide) (by decide)) rfl rfl hinX2 (by decide) hf108 rfl rfl dX5_markGoneByAdding_4 ?_
  refine lv_iload_n hx hb dX5_markGoneByAdding_7 rfl (lv_at hl 2 rfl) ?_
  refine rC_iald hx hb hK hW 16 (0) (o) (by decide) (by decide) (by decide) (show o < 12 by omega) rfl dX5_markGoneByAdding_8 (fun x1 ex1 => ?_)
  have hk6 := (hKd o ho).2
  refine r_top (show x1 = nI (kd I o) from (ex1.trans (hKd o ho).1)) ?_
  by_cases c9_1_1 : nI (kd I o) = nI 1
  · replace c9_1_1 : kd I o = 1 := (nI_eq (show kd I o < 2147483648 by omega) (by decide)).mp c9_1_1
    refine lv_tableIn (tgt := 44) (off := 35) hx hb dX5_markGoneByAdding_9 (by rw [c9_1_1]; decide) (by rw [c9_1_1]; decide) (by rw [c9_1_1]; rfl) (by decide) ?_
    refine lv_aload_n hx hb dX5_markGoneByAdding_44 rfl (lv_at hl 0 rfl) ?_
    refine r_get hx hb hts hown hK hW 0 (0) 0 (mC (by decide) (by decide)) rfl rfl hinX5 (by decide) hf10 rfl rfl dX5_markGoneByAdding_45 ?_
    refine r_get hx hb hts hown hK hW 1 (0) 0 (mC (by decide) (by decide)) rfl rfl hinX2 (by decide) hf51 rfl rfl dX5_markGoneByAdding_48 ?_
    refine lv_aload_n hx hb dX5_markGoneByAdding_51 rfl (lv_at hl 1 rfl) ?_
    refine lv_iload_n hx hb dX5_markGoneByAdding_52 rfl (lv_at hl 2 rfl) ?_
    refine lv_iload_n hx hb dX5_markGoneByAdding_53 rfl (lv_at hl 3 rfl) ?_
    refine lv_aload_n hx hb dX5_markGoneByAdding_54 rfl (lv_at hl 0 rfl) ?_
    refine r_get hx hb hts hown hK hW 0 (0) 4 (mC (by decide) (by decide)) rfl rfl hinX5 (by decide) hf28 rfl rfl dX5_markGoneByAdding_55 ?_
    refine g_cv (va_runV (As := [.ref (ad 4 (ia)), .int (nI (o)), .int (v), .ref (ad 4 (33))]) (rest := []) ⟨hx, hb, hml, hown, hts⟩ (c_X0_markOfValue l D G ad hI I ia o 33 v (show ia < 59 by omega) (by decide) hM) (cwV 4 hts gX5_markGoneByAdding_X0_markOfValue rfl rfl rfl (by decide +kernel) ⟨Nat.le_of_ble_eq_true rfl, Nat.le_of_ble_eq_true rfl⟩) (g_preV hK hW 5 (0) (mC (by decide) (by decide)) rfl rfl) rfl rfl hl.1 rfl (lv_room (Nat.le_of_ble_eq_true rfl)) dX5_markGoneByAdding_58 ⟨Nat.le_refl _, Nat.le_refl _⟩) hS (fun I3 H locs hp hW hS => ?_)
    have eI3 : I3 = mb I ia o v v 33 := hp
    refine lv_goto (tgt := 106) hx hb dX5_markGoneByAdding_61 (by decide) ?_
    rw [hQ]
    exact g_vret (wd := wC G ad) hx hb hr hlocks hW hS (by subst eI3 ex1; simp only [mg]; (repeat' split) <;> first | rfl | (exfalso; omega)) dX5_markGoneByAdding_106
  by_cases c9_1_2 : nI (kd I o) = nI 2
  · replace c9_1_2 : kd I o = 2 := (nI_eq (show kd I o < 2147483648 by omega) (by decide)).mp c9_1_2
    refine lv_tableIn (tgt := 106) (off := 97) hx hb dX5_markGoneByAdding_9 (by rw [c9_1_2]; decide) (by rw [c9_1_2]; decide) (by rw [c9_1_2]; rfl) (by decide) ?_
    rw [hQ]
    exact g_vret (wd := wC G ad) hx hb hr hlocks hW hS (by subst ex1; simp only [mg]; (repeat' split) <;> first | rfl | (exfalso; omega)) dX5_markGoneByAdding_106
  by_cases c9_1_3 : nI (kd I o) = nI 3
  · replace c9_1_3 : kd I o = 3 := (nI_eq (show kd I o < 2147483648 by omega) (by decide)).mp c9_1_3
    refine lv_tableIn (tgt := 87) (off := 78) hx hb dX5_markGoneByAdding_9 (by rw [c9_1_3]; decide) (by rw [c9_1_3]; decide) (by rw [c9_1_3]; rfl) (by decide) ?_
    refine lv_aload_n hx hb dX5_markGoneByAdding_87 rfl (lv_at hl 0 rfl) ?_
    refine r_get hx hb hts hown hK hW 0 (0) 0 (mC (by decide) (by decide)) rfl rfl hinX5 (by decide) hf10 rfl rfl dX5_markGoneByAdding_88 ?_
    refine r_get hx hb hts hown hK hW 1 (0) 0 (mC (by decide) (by decide)) rfl rfl hinX2 (by decide) hf51 rfl rfl dX5_markGoneByAdding_91 ?_
    refine lv_aload_n hx hb dX5_markGoneByAdding_94 rfl (lv_at hl 1 rfl) ?_
    refine lv_iload_n hx hb dX5_markGoneByAdding_95 rfl (lv_at hl 2 rfl) ?_
    refine lv_aload_n hx hb dX5_markGoneByAdding_96 rfl (lv_at hl 0 rfl) ?_
    refine r_get hx hb hts hown hK hW 0 (0) 4 (mC (by decide) (by decide)) rfl rfl hinX5 (by decide) hf28 rfl rfl dX5_markGoneByAdding_97 ?_
    refine g_cv (va_runV (As := [.ref (ad 4 (ia)), .int (nI (o)), .ref (ad 4 (33))]) (rest := []) ⟨hx, hb, hml, hown, hts⟩ (c_X0_markAll l D G ad hI I ia o 33 (show ia < 59 by omega) (by decide) hM) (cwV 3 hts gX5_markGoneByAdding_X0_markAll rfl rfl rfl (by decide +kernel) ⟨Nat.le_of_ble_eq_true rfl, Nat.le_of_ble_eq_true rfl⟩) (g_preV hK hW 5 (0) (mC (by decide) (by decide)) rfl rfl) rfl rfl hl.1 rfl (lv_room (Nat.le_of_ble_eq_true rfl)) dX5_markGoneByAdding_100 ⟨Nat.le_refl _, Nat.le_refl _⟩) hS (fun I4 H locs hp hW hS => ?_)
    have eI4 : I4 = mb I ia o (-2147483648) 2147483647 33 := hp
    refine lv_goto (tgt := 106) hx hb dX5_markGoneByAdding_103 (by decide) ?_
    rw [hQ]
    exact g_vret (wd := wC G ad) hx hb hr hlocks hW hS (by subst eI4 ex1; simp only [mg]; (repeat' split) <;> first | rfl | (exfalso; omega)) dX5_markGoneByAdding_106
  by_cases c9_1_4 : nI (kd I o) = nI 4
  · replace c9_1_4 : kd I o = 4 := (nI_eq (show kd I o < 2147483648 by omega) (by decide)).mp c9_1_4
    refine lv_tableIn (tgt := 64) (off := 55) hx hb dX5_markGoneByAdding_9 (by rw [c9_1_4]; decide) (by rw [c9_1_4]; decide) (by rw [c9_1_4]; rfl) (by decide) ?_
    refine lv_aload_n hx hb dX5_markGoneByAdding_64 rfl (lv_at hl 0 rfl) ?_
    refine r_get hx hb hts hown hK hW 0 (0) 0 (mC (by decide) (by decide)) rfl rfl hinX5 (by decide) hf10 rfl rfl dX5_markGoneByAdding_65 ?_
    refine r_get hx hb hts hown hK hW 1 (0) 0 (mC (by decide) (by decide)) rfl rfl hinX2 (by decide) hf51 rfl rfl dX5_markGoneByAdding_68 ?_
    refine lv_aload_n hx hb dX5_markGoneByAdding_71 rfl (lv_at hl 1 rfl) ?_
    refine lv_iload_n hx hb dX5_markGoneByAdding_72 rfl (lv_at hl 2 rfl) ?_
    refine lv_ldcw (v := (-2147483648)) hx hb hown (hts (.constant RX5 301 (-2147483648)) (by decide +kernel)) dX5_markGoneByAdding_73 ?_
    refine lv_iload_n hx hb dX5_markGoneByAdding_76 rfl (lv_at hl 3 rfl) ?_
    refine lv_aload_n hx hb dX5_markGoneByAdding_77 rfl (lv_at hl 0 rfl) ?_
    refine r_get hx hb hts hown hK hW 0 (0) 4 (mC (by decide) (by decide)) rfl rfl hinX5 (by decide) hf28 rfl rfl dX5_markGoneByAdding_78 ?_
    refine g_cv (va_runV (As := [.ref (ad 4 (ia)), .int (nI (o)), .int ((-2147483648)), .int (v), .ref (ad 4 (33))]) (rest := []) ⟨hx, hb, hml, hown, hts⟩ (c_X0_markBetween l D G ad hI I ia o 33 ((-2147483648)) v (show ia < 59 by omega) (by decide) hM) (cwV 5 hts gX5_markGoneByAdding_X0_markBetween rfl rfl rfl (by decide +kernel) ⟨Nat.le_of_ble_eq_true rfl, Nat.le_of_ble_eq_true rfl⟩) (g_preV hK hW 5 (0) (mC (by decide) (by decide)) rfl rfl) rfl rfl hl.1 rfl (lv_room (Nat.le_of_ble_eq_true rfl)) dX5_markGoneByAdding_81 ⟨Nat.le_refl _, Nat.le_refl _⟩) hS (fun I5 H locs hp hW hS => ?_)
    have eI5 : I5 = mb I ia o ((-2147483648)) v 33 := hp
    refine lv_goto (tgt := 106) hx hb dX5_markGoneByAdding_84 (by decide) ?_
    rw [hQ]
    exact g_vret (wd := wC G ad) hx hb hr hlocks hW hS (by subst eI5 ex1; simp only [mg]; (repeat' split) <;> first | rfl | (exfalso; omega)) dX5_markGoneByAdding_106
  by_cases c9_1_5 : nI (kd I o) = nI 5
  · replace c9_1_5 : kd I o = 5 := (nI_eq (show kd I o < 2147483648 by omega) (by decide)).mp c9_1_5
    refine lv_tableIn (tgt := 87) (off := 78) hx hb dX5_markGoneByAdding_9 (by rw [c9_1_5]; decide) (by rw [c9_1_5]; decide) (by rw [c9_1_5]; rfl) (by decide) ?_
    refine lv_aload_n hx hb dX5_markGoneByAdding_87 rfl (lv_at hl 0 rfl) ?_
    refine r_get hx hb hts hown hK hW 0 (0) 0 (mC (by decide) (by decide)) rfl rfl hinX5 (by decide) hf10 rfl rfl dX5_markGoneByAdding_88 ?_
    refine r_get hx hb hts hown hK hW 1 (0) 0 (mC (by decide) (by decide)) rfl rfl hinX2 (by decide) hf51 rfl rfl dX5_markGoneByAdding_91 ?_
    refine lv_aload_n hx hb dX5_markGoneByAdding_94 rfl (lv_at hl 1 rfl) ?_
    refine lv_iload_n hx hb dX5_markGoneByAdding_95 rfl (lv_at hl 2 rfl) ?_
    refine lv_aload_n hx hb dX5_markGoneByAdding_96 rfl (lv_at hl 0 rfl) ?_
    refine r_get hx hb hts hown hK hW 0 (0) 4 (mC (by decide) (by decide)) rfl rfl hinX5 (by decide) hf28 rfl rfl dX5_markGoneByAdding_97 ?_
    refine g_cv (va_runV (As := [.ref (ad 4 (ia)), .int (nI (o)), .ref (ad 4 (33))]) (rest := []) ⟨hx, hb, hml, hown, hts⟩ (c_X0_markAll l D G ad hI I ia o 33 (show ia < 59 by omega) (by decide) hM) (cwV 3 hts gX5_markGoneByAdding_X0_markAll rfl rfl rfl (by decide +kernel) ⟨Nat.le_of_ble_eq_true rfl, Nat.le_of_ble_eq_true rfl⟩) (g_preV hK hW 5 (0) (mC (by decide) (by decide)) rfl rfl) rfl rfl hl.1 rfl (lv_room (Nat.le_of_ble_eq_true rfl)) dX5_markGoneByAdding_100 ⟨Nat.le_refl _, Nat.le_refl _⟩) hS (fun I6 H locs hp hW hS => ?_)
    have eI6 : I6 = mb I ia o (-2147483648) 2147483647 33 := hp
    refine lv_goto (tgt := 106) hx hb dX5_markGoneByAdding_103 (by decide) ?_
    rw [hQ]
    exact g_vret (wd := wC G ad) hx hb hr hlocks hW hS (by subst eI6 ex1; simp only [mg]; (repeat' split) <;> first | rfl | (exfalso; omega)) dX5_markGoneByAdding_106
  refine lv_tableOut (tgt := 106) hx hb dX5_markGoneByAdding_9 (sw_rng 1 5 (by decide) (fun j h1 h2 => by rcases (by omega : j = 1 ∨ j = 2 ∨ j = 3 ∨ j = 4 ∨ j = 5) with rfl | rfl | rfl | rfl | rfl <;> assumption)) (by decide) ?_
  replace c9_1_1 : ¬ kd I o = 1 := fun h => c9_1_1 (by rw [h])
  replace c9_1_2 : ¬ kd I o = 2 := fun h => c9_1_2 (by rw [h])
  replace c9_1_3 : ¬ kd I o = 3 := fun h => c9_1_3 (by rw [h])
  replace c9_1_4 : ¬ kd I o = 4 := fun h => c9_1_4 (by rw [h])
  replace c9_1_5 : ¬ kd I o = 5 := fun h => c9_1_5 (by rw [h])
  rw [hQ]
  exact g_vret (wd := wC G ad) hx hb hr hlocks hW hS (by subst ex1; simp only [mg]; (repeat' split) <;> first | rfl | (exfalso; omega)) dX5_markGoneByAdding_106

set_option maxHeartbeats 4000000 in
set_option maxRecDepth 100000 in
theorem c_X5_meet_now (l : Launch) (D : va_G) (G : Nat → ClassId) (ad : Nat → Nat → Nat) (hI : wI LC ad) (I : St)  : Met l yX5_meet wsX5_meet ({ frames := 1, cells := 0, slots := 0, locals := 25 } : Room) (gPre D G LC ad [.ref (ad 0 (0)), .ref (ad 3 (0))] (wC G ad I)) (gQv D LC ad (wC G ad) (fun u => u = mtP I 0 4)) 0 0 (wA LC ad) := by
  refine g_entry (C := RX5) (cc := cX5_meet) (maxL := 3) (ret := none) rfl (by decide) rfl (Nat.le_of_ble_eq_true rfl) (fun p e s m args below meth c Q ls hQ hx hb hr hts hown hlocks hml hW hK hl => ?_)
  have hl : lv_has ls 3 [(0, .ref (ad 0 (0))), (1, .ref (ad 3 (0)))] := hl
  have hS := va_S.rf (A := wA LC ad) (H0 := s.heap)
  have hinX5 : ∀ w ∈ wsX50, w ∈ wsX5_meet := by decide +kernel
  have hf32 := hts (.fieldLink RX5 32 "JoinedStores" "all" "LJoinedStores$Store;") (by decide +kernel)
  refine lv_aload_n hx hb dX5_meet_0 rfl (lv_at hl 0 rfl) ?_
  refine r_get hx hb hts hown hK hW 0 (0) 5 (mC (by decide) (by decide)) rfl rfl hinX5 (by decide) hf32 rfl rfl dX5_meet_1 ?_
  refine g_cv (va_runV (As := []) (rest := []) ⟨hx, hb, hml, hown, hts⟩ (c_X4_empty l D G ad hI I 32 (by decide)) (cwV 0 hts gX5_meet_X4_empty rfl rfl rfl (by decide +kernel) ⟨Nat.le_of_ble_eq_true rfl, Nat.le_of_ble_eq_true rfl⟩) (g_preV hK hW 4 (32) (mC (by decide) (by decide)) rfl rfl) rfl rfl hl.1 rfl (lv_room (Nat.le_of_ble_eq_true rfl)) dX5_meet_4 ⟨Nat.le_refl _, Nat.le_refl _⟩) hS (fun I1 H locs hp hW hS => ?_)
  have eI1 : I1 = clr I 32 := hp
  refine lv_iconst (v := nI 0) hx hb dX5_meet_7 (by decide) ?_
  refine lv_istore_n (lv' := [(2, .int (nI (0))), (0, .ref (ad 0 (0))), (1, .ref (ad 3 (0)))]) hx hb dX5_meet_8 rfl hl (by decide) rfl (fun ls hl => ?_)
  have K9 : ∀ (n : Nat) (i : Nat), (i ≤ 4) → 4 < i + n → ∀ (H : Heap) (locs : List Loc), va_P D vwCl (wS LC ad (wC G ad (mtP I 0 i))) H → va_S (wA LC ad) s.heap H locs → ∀ (ls : Array Slot), lv_has ls 3 [(2, .int (nI (i))), (0, .ref (ad 0 (0))), (1, .ref (ad 3 (0)))] → W p l e ({ frames := 1, cells := 0, slots := 0, locals := 25 } : Room) s m args below meth c H locs 0 0 Q (F0 m 9 ls []) := by
    intro n9
    induction n9 with
    | zero => intro i hi hfu; exact absurd hfu (by omega)
    | succ n9 ih9 =>
      intro i hi hfu H locs hW hS ls hl
      refine lv_iload_n hx hb dX5_meet_9 rfl (lv_at hl 0 rfl) ?_
      refine lv_iconst (v := nI 4) hx hb dX5_meet_10 (by decide) ?_
      refine lv_icmp_ge (tgt := 30) hx hb dX5_meet_11 (by decide) (fun c11_1 => ?_) (fun c11_1 => ?_)
      · replace c11_1 : 4 ≤ i := (nI_leI (show 4 < 2147483648 by omega) (show i < 2147483648 by omega)).mp c11_1
        rw [hQ]
        exact g_vret (wd := wC G ad) hx hb hr hlocks hW hS (by have e4 : i = 4 := (by omega); subst e4; rfl) dX5_meet_30
      · replace c11_1 : ¬ (4 ≤ i) := fun h => c11_1 ((nI_leI (show 4 < 2147483648 by omega) (show i < 2147483648 by omega)).mpr h)
        refine lv_aload_n hx hb dX5_meet_14 rfl (lv_at hl 1 rfl) ?_
        refine r_get hx hb hts hown hK hW 0 (0) 5 (mC (by decide) (by decide)) rfl rfl hinX5 (by decide) hf32 rfl rfl dX5_meet_15 ?_
        refine lv_aload_n hx hb dX5_meet_18 rfl (lv_at hl 2 rfl) ?_
        refine lv_iload_n hx hb dX5_meet_19 rfl (lv_at hl 0 rfl) ?_
        refine r_aald hx hb hK hW 1 3 (0) (i) (mC (by decide) (by decide)) rfl rfl (show i < 4 by omega) (by decide) rfl rfl dX5_meet_20 ?_
        refine g_cv (va_runV (As := [.ref (ad 4 (i))]) (rest := []) ⟨hx, hb, hml, hown, hts⟩ (c_X4_join l D G ad hI (mtP I 0 i) 32 i (by decide) (show i < 59 by omega)) (cwV 1 hts gX5_meet_X4_join rfl rfl rfl (by decide +kernel) ⟨Nat.le_of_ble_eq_true rfl, Nat.le_of_ble_eq_true rfl⟩) (g_preV hK hW 4 (32) (mC (by decide) (by decide)) rfl rfl) rfl rfl hl.1 rfl (lv_room (Nat.le_of_ble_eq_true rfl)) dX5_meet_21 ⟨Nat.le_refl _, Nat.le_refl _⟩) hS (fun I3 H locs hp hW hS => ?_)
        have eI3 : I3 = jn (mtP I 0 i) 32 i := hp
        refine lv_iinc (v := nI (i + 1)) (lv' := [(2, .int (nI (i + 1))), (0, .ref (ad 0 (0))), (1, .ref (ad 3 (0)))]) hx hb dX5_meet_24 hl (k := 0) rfl (nI_inc i 1) (by decide) rfl (fun ls hl => ?_)
        refine lv_goto (tgt := 9) hx hb dX5_meet_27 (by decide) ?_
        have e9 : I3 = mtP I 0 (i + 1) := by
          subst eI3
          rfl
        have hW9 := hW
        rw [e9] at hW9
        exact ih9 (i + 1) (by omega) (by omega) _ _ hW9 hS _ (lv_sub hl [0, 1, 2] rfl)
  have e9 : I1 = mtP I 0 0 := by
    subst eI1
    rfl
  have hW9 := hW
  rw [e9] at hW9
  exact K9 (4 + 1) (0) (by omega) (by omega) _ _ hW9 hS _ (lv_sub hl [0, 1, 2] rfl)

set_option maxHeartbeats 4000000 in
set_option maxRecDepth 100000 in
theorem c_X5_alikeAll_now (l : Launch) (D : va_G) (G : Nat → ClassId) (ad : Nat → Nat → Nat) (hI : wI LC ad) (I : St)  : Met l yX5_alikeAll wsX5_alikeAll ({ frames := 3, cells := 0, slots := 0, locals := 64 } : Room) (gPre D G LC ad [.ref (ad 0 (0)), .ref (ad 3 (0))] (wC G ad I)) (gQi D LC ad (wC G ad) (fun r9 u => r9 = nI (cntS I 0 4) ∧ u = mtP I 0 4)) 0 0 (wA LC ad) := by
  refine g_entry (C := RX5) (cc := cX5_alikeAll) (maxL := 4) (ret := (some .int)) rfl (by decide) rfl (Nat.le_of_ble_eq_true rfl) (fun p e s m args below meth c Q ls hQ hx hb hr hts hown hlocks hml hW hK hl => ?_)
  have hl : lv_has ls 4 [(0, .ref (ad 0 (0))), (1, .ref (ad 3 (0)))] := hl
  have hS := va_S.rf (A := wA LC ad) (H0 := s.heap)
  have hinX5 : ∀ w ∈ wsX50, w ∈ wsX5_alikeAll := by decide +kernel
  have hf32 := hts (.fieldLink RX5 32 "JoinedStores" "all" "LJoinedStores$Store;") (by decide +kernel)
  refine lv_aload_n hx hb dX5_alikeAll_0 rfl (lv_at hl 0 rfl) ?_
  refine lv_aload_n hx hb dX5_alikeAll_1 rfl (lv_at hl 1 rfl) ?_
  refine g_cv (va_runV (As := [.ref (ad 3 (0))]) (rest := []) ⟨hx, hb, hml, hown, hts⟩ (c_X5_meet_now l D G ad hI I  ) (cwV 1 hts gX5_alikeAll_X5_meet rfl rfl rfl (by decide +kernel) ⟨Nat.le_of_ble_eq_true rfl, Nat.le_of_ble_eq_true rfl⟩) (g_preV hK hW 0 (0) (mC (by decide) (by decide)) rfl rfl) rfl rfl hl.1 rfl (lv_room (Nat.le_of_ble_eq_true rfl)) dX5_alikeAll_2 ⟨Nat.le_refl _, Nat.le_refl _⟩) hS (fun I1 H locs hp hW hS => ?_)
  have eI1 : I1 = mtP I 0 4 := hp
  refine lv_iconst (v := nI 0) hx hb dX5_alikeAll_5 (by decide) ?_
  refine lv_istore_n (lv' := [(2, .int (nI (0))), (0, .ref (ad 0 (0))), (1, .ref (ad 3 (0)))]) hx hb dX5_alikeAll_6 rfl hl (by decide) rfl (fun ls hl => ?_)
  refine lv_iconst (v := nI 0) hx hb dX5_alikeAll_7 (by decide) ?_
  refine lv_istore_n (lv' := [(3, .int (nI (0))), (2, .int (nI (0))), (0, .ref (ad 0 (0))), (1, .ref (ad 3 (0)))]) hx hb dX5_alikeAll_8 rfl hl (by decide) rfl (fun ls hl => ?_)
  have K9 : ∀ (n : Nat) (i : Nat) (z : Nat), (i ≤ 4) → (z = cntS I 0 i) → 4 < i + n → ∀ (H : Heap) (locs : List Loc), va_P D vwCl (wS LC ad (wC G ad (mtP I 0 4))) H → va_S (wA LC ad) s.heap H locs → ∀ (ls : Array Slot), lv_has ls 4 [(3, .int (nI (i))), (2, .int (nI (z))), (0, .ref (ad 0 (0))), (1, .ref (ad 3 (0)))] → W p l e ({ frames := 3, cells := 0, slots := 0, locals := 64 } : Room) s m args below meth c H locs 0 0 Q (F0 m 9 ls []) := by
    intro n9
    induction n9 with
    | zero => intro i z hi hz hfu; exact absurd hfu (by omega)
    | succ n9 ih9 =>
      intro i z hi hz hfu H locs hW hS ls hl
      refine lv_iload_n hx hb dX5_alikeAll_9 rfl (lv_at hl 0 rfl) ?_
      refine lv_iconst (v := nI 4) hx hb dX5_alikeAll_10 (by decide) ?_
      refine lv_icmp_ge (tgt := 36) hx hb dX5_alikeAll_11 (by decide) (fun c11_1 => ?_) (fun c11_1 => ?_)
      · replace c11_1 : 4 ≤ i := (nI_leI (show 4 < 2147483648 by omega) (show i < 2147483648 by omega)).mp c11_1
        refine lv_iload_n hx hb dX5_alikeAll_36 rfl (lv_at hl 1 rfl) ?_
        rw [hQ]
        exact g_iret (wd := wC G ad) hx hb hr rfl hlocks hW hS (by have e4 : i = 4 := (by omega); subst e4; exact ⟨by rw [hz], rfl⟩) dX5_alikeAll_37
      · replace c11_1 : ¬ (4 ≤ i) := fun h => c11_1 ((nI_leI (show 4 < 2147483648 by omega) (show i < 2147483648 by omega)).mpr h)
        refine lv_aload_n hx hb dX5_alikeAll_14 rfl (lv_at hl 3 rfl) ?_
        refine lv_iload_n hx hb dX5_alikeAll_15 rfl (lv_at hl 0 rfl) ?_
        refine r_aald hx hb hK hW 1 3 (0) (i) (mC (by decide) (by decide)) rfl rfl (show i < 4 by omega) (by decide) rfl rfl dX5_alikeAll_16 ?_
        refine lv_aload_n hx hb dX5_alikeAll_17 rfl (lv_at hl 2 rfl) ?_
        refine r_get hx hb hts hown hK hW 0 (0) 5 (mC (by decide) (by decide)) rfl rfl hinX5 (by decide) hf32 rfl rfl dX5_alikeAll_18 ?_
        refine g_ci (va_runV (As := [.ref (ad 4 (32))]) (rest := []) ⟨hx, hb, hml, hown, hts⟩ (c_X4_isSame l D G ad hI (mtP I 0 4) i 32 (show i < 59 by omega) (by decide)) (cwV 1 hts gX5_alikeAll_X4_isSame rfl rfl rfl (by decide +kernel) ⟨Nat.le_of_ble_eq_true rfl, Nat.le_of_ble_eq_true rfl⟩) (g_preV hK hW 4 (i) (mC (by decide) (show i < 59 by omega)) rfl rfl) rfl rfl hl.1 rfl (lv_room (Nat.le_of_ble_eq_true rfl)) dX5_alikeAll_21 ⟨Nat.le_refl _, Nat.le_refl _⟩) hS (fun x3 I3 H locs hp hW hS => ?_)
        obtain ⟨ex3, eI3⟩ := hp
        rw [eI3] at hW
        clear eI3
        refine lv_if_eq (tgt := 30) hx hb dX5_alikeAll_24 (by decide) (fun c24_3 => ?_) (fun c24_3 => ?_)
        · rw [ex3] at c24_3
          replace c24_3 := bI_0.mp c24_3
          refine lv_iinc (v := nI (i + 1)) (lv' := [(3, .int (nI (i + 1))), (2, .int (nI (z))), (0, .ref (ad 0 (0))), (1, .ref (ad 3 (0)))]) hx hb dX5_alikeAll_30 hl (k := 0) rfl (nI_inc i 1) (by decide) rfl (fun ls hl => ?_)
          refine lv_goto (tgt := 9) hx hb dX5_alikeAll_33 (by decide) ?_
          exact ih9 (i + 1) (z) (by omega) (by subst ex3; rw [cntS, if_neg (show ¬ same0 (mtP I 0 4) (i + 0) 32 = true from fun q9 => absurd (c24_3.symm.trans q9) (by decide)), hz]) (by omega) _ _ hW hS _ (lv_sub hl [0, 1, 2, 3] rfl)
        · rw [ex3] at c24_3
          replace c24_3 := bI_1.mp c24_3
          refine lv_iinc (v := nI (z + 1)) (lv' := [(2, .int (nI (z + 1))), (3, .int (nI (i))), (0, .ref (ad 0 (0))), (1, .ref (ad 3 (0)))]) hx hb dX5_alikeAll_27 hl (k := 1) rfl (nI_inc z 1) (by decide) rfl (fun ls hl => ?_)
          refine lv_iinc (v := nI (i + 1)) (lv' := [(3, .int (nI (i + 1))), (2, .int (nI (z + 1))), (0, .ref (ad 0 (0))), (1, .ref (ad 3 (0)))]) hx hb dX5_alikeAll_30 hl (k := 1) rfl (nI_inc i 1) (by decide) rfl (fun ls hl => ?_)
          refine lv_goto (tgt := 9) hx hb dX5_alikeAll_33 (by decide) ?_
          exact ih9 (i + 1) (z + 1) (by omega) (by subst ex3; rw [cntS, if_pos (show same0 (mtP I 0 4) (i + 0) 32 = true from c24_3), hz]) (by omega) _ _ hW hS _ (lv_sub hl [0, 1, 2, 3] rfl)
  have e9 : I1 = mtP I 0 4 := by
    subst eI1
    rfl
  have hW9 := hW
  rw [e9] at hW9
  exact K9 (4 + 1) (0) (0) (by decide) rfl (by omega) _ _ hW9 hS _ (lv_sub hl [0, 1, 2, 3] rfl)

set_option maxHeartbeats 4000000 in
set_option maxRecDepth 100000 in
theorem c_X5_meet_th (l : Launch) (D : va_G) (G : Nat → ClassId) (ad : Nat → Nat → Nat) (hI : wI LC ad) (I : St)  : Met l yX5_meet wsX5_meet ({ frames := 1, cells := 0, slots := 0, locals := 25 } : Room) (gPre D G LC ad [.ref (ad 0 (0)), .ref (ad 3 (4))] (wC G ad I)) (gQv D LC ad (wC G ad) (fun u => u = mtP I 35 4)) 0 0 (wA LC ad) := by
  refine g_entry (C := RX5) (cc := cX5_meet) (maxL := 3) (ret := none) rfl (by decide) rfl (Nat.le_of_ble_eq_true rfl) (fun p e s m args below meth c Q ls hQ hx hb hr hts hown hlocks hml hW hK hl => ?_)
  have hl : lv_has ls 3 [(0, .ref (ad 0 (0))), (1, .ref (ad 3 (4)))] := hl
  have hS := va_S.rf (A := wA LC ad) (H0 := s.heap)
  have hinX5 : ∀ w ∈ wsX50, w ∈ wsX5_meet := by decide +kernel
  have hf32 := hts (.fieldLink RX5 32 "JoinedStores" "all" "LJoinedStores$Store;") (by decide +kernel)
  refine lv_aload_n hx hb dX5_meet_0 rfl (lv_at hl 0 rfl) ?_
  refine r_get hx hb hts hown hK hW 0 (0) 5 (mC (by decide) (by decide)) rfl rfl hinX5 (by decide) hf32 rfl rfl dX5_meet_1 ?_
  refine g_cv (va_runV (As := []) (rest := []) ⟨hx, hb, hml, hown, hts⟩ (c_X4_empty l D G ad hI I 32 (by decide)) (cwV 0 hts gX5_meet_X4_empty rfl rfl rfl (by decide +kernel) ⟨Nat.le_of_ble_eq_true rfl, Nat.le_of_ble_eq_true rfl⟩) (g_preV hK hW 4 (32) (mC (by decide) (by decide)) rfl rfl) rfl rfl hl.1 rfl (lv_room (Nat.le_of_ble_eq_true rfl)) dX5_meet_4 ⟨Nat.le_refl _, Nat.le_refl _⟩) hS (fun I1 H locs hp hW hS => ?_)
  have eI1 : I1 = clr I 32 := hp
  refine lv_iconst (v := nI 0) hx hb dX5_meet_7 (by decide) ?_
  refine lv_istore_n (lv' := [(2, .int (nI (0))), (0, .ref (ad 0 (0))), (1, .ref (ad 3 (4)))]) hx hb dX5_meet_8 rfl hl (by decide) rfl (fun ls hl => ?_)
  have K9 : ∀ (n : Nat) (i : Nat), (i ≤ 4) → 4 < i + n → ∀ (H : Heap) (locs : List Loc), va_P D vwCl (wS LC ad (wC G ad (mtP I 35 i))) H → va_S (wA LC ad) s.heap H locs → ∀ (ls : Array Slot), lv_has ls 3 [(2, .int (nI (i))), (0, .ref (ad 0 (0))), (1, .ref (ad 3 (4)))] → W p l e ({ frames := 1, cells := 0, slots := 0, locals := 25 } : Room) s m args below meth c H locs 0 0 Q (F0 m 9 ls []) := by
    intro n9
    induction n9 with
    | zero => intro i hi hfu; exact absurd hfu (by omega)
    | succ n9 ih9 =>
      intro i hi hfu H locs hW hS ls hl
      refine lv_iload_n hx hb dX5_meet_9 rfl (lv_at hl 0 rfl) ?_
      refine lv_iconst (v := nI 4) hx hb dX5_meet_10 (by decide) ?_
      refine lv_icmp_ge (tgt := 30) hx hb dX5_meet_11 (by decide) (fun c11_1 => ?_) (fun c11_1 => ?_)
      · replace c11_1 : 4 ≤ i := (nI_leI (show 4 < 2147483648 by omega) (show i < 2147483648 by omega)).mp c11_1
        rw [hQ]
        exact g_vret (wd := wC G ad) hx hb hr hlocks hW hS (by have e4 : i = 4 := (by omega); subst e4; rfl) dX5_meet_30
      · replace c11_1 : ¬ (4 ≤ i) := fun h => c11_1 ((nI_leI (show 4 < 2147483648 by omega) (show i < 2147483648 by omega)).mpr h)
        refine lv_aload_n hx hb dX5_meet_14 rfl (lv_at hl 1 rfl) ?_
        refine r_get hx hb hts hown hK hW 0 (0) 5 (mC (by decide) (by decide)) rfl rfl hinX5 (by decide) hf32 rfl rfl dX5_meet_15 ?_
        refine lv_aload_n hx hb dX5_meet_18 rfl (lv_at hl 2 rfl) ?_
        refine lv_iload_n hx hb dX5_meet_19 rfl (lv_at hl 0 rfl) ?_
        refine r_aald hx hb hK hW 1 3 (4) (i) (mC (by decide) (by decide)) rfl rfl (show i < 4 by omega) (by decide) rfl rfl dX5_meet_20 ?_
        refine g_cv (va_runV (As := [.ref (ad 4 (i + 35))]) (rest := []) ⟨hx, hb, hml, hown, hts⟩ (c_X4_join l D G ad hI (mtP I 35 i) 32 (i + 35) (by decide) (show i + 35 < 59 by omega)) (cwV 1 hts gX5_meet_X4_join rfl rfl rfl (by decide +kernel) ⟨Nat.le_of_ble_eq_true rfl, Nat.le_of_ble_eq_true rfl⟩) (g_preV hK hW 4 (32) (mC (by decide) (by decide)) rfl rfl) rfl rfl hl.1 rfl (lv_room (Nat.le_of_ble_eq_true rfl)) dX5_meet_21 ⟨Nat.le_refl _, Nat.le_refl _⟩) hS (fun I3 H locs hp hW hS => ?_)
        have eI3 : I3 = jn (mtP I 35 i) 32 (i + 35) := hp
        refine lv_iinc (v := nI (i + 1)) (lv' := [(2, .int (nI (i + 1))), (0, .ref (ad 0 (0))), (1, .ref (ad 3 (4)))]) hx hb dX5_meet_24 hl (k := 0) rfl (nI_inc i 1) (by decide) rfl (fun ls hl => ?_)
        refine lv_goto (tgt := 9) hx hb dX5_meet_27 (by decide) ?_
        have e9 : I3 = mtP I 35 (i + 1) := by
          subst eI3
          rfl
        have hW9 := hW
        rw [e9] at hW9
        exact ih9 (i + 1) (by omega) (by omega) _ _ hW9 hS _ (lv_sub hl [0, 1, 2] rfl)
  have e9 : I1 = mtP I 35 0 := by
    subst eI1
    rfl
  have hW9 := hW
  rw [e9] at hW9
  exact K9 (4 + 1) (0) (by omega) (by omega) _ _ hW9 hS _ (lv_sub hl [0, 1, 2] rfl)

set_option maxHeartbeats 4000000 in
set_option maxRecDepth 100000 in
theorem c_X5_alikeAll_th (l : Launch) (D : va_G) (G : Nat → ClassId) (ad : Nat → Nat → Nat) (hI : wI LC ad) (I : St)  : Met l yX5_alikeAll wsX5_alikeAll ({ frames := 3, cells := 0, slots := 0, locals := 64 } : Room) (gPre D G LC ad [.ref (ad 0 (0)), .ref (ad 3 (4))] (wC G ad I)) (gQi D LC ad (wC G ad) (fun r9 u => r9 = nI (cntS I 35 4) ∧ u = mtP I 35 4)) 0 0 (wA LC ad) := by
  refine g_entry (C := RX5) (cc := cX5_alikeAll) (maxL := 4) (ret := (some .int)) rfl (by decide) rfl (Nat.le_of_ble_eq_true rfl) (fun p e s m args below meth c Q ls hQ hx hb hr hts hown hlocks hml hW hK hl => ?_)
  have hl : lv_has ls 4 [(0, .ref (ad 0 (0))), (1, .ref (ad 3 (4)))] := hl
  have hS := va_S.rf (A := wA LC ad) (H0 := s.heap)
  have hinX5 : ∀ w ∈ wsX50, w ∈ wsX5_alikeAll := by decide +kernel
  have hf32 := hts (.fieldLink RX5 32 "JoinedStores" "all" "LJoinedStores$Store;") (by decide +kernel)
  refine lv_aload_n hx hb dX5_alikeAll_0 rfl (lv_at hl 0 rfl) ?_
  refine lv_aload_n hx hb dX5_alikeAll_1 rfl (lv_at hl 1 rfl) ?_
  refine g_cv (va_runV (As := [.ref (ad 3 (4))]) (rest := []) ⟨hx, hb, hml, hown, hts⟩ (c_X5_meet_th l D G ad hI I  ) (cwV 1 hts gX5_alikeAll_X5_meet rfl rfl rfl (by decide +kernel) ⟨Nat.le_of_ble_eq_true rfl, Nat.le_of_ble_eq_true rfl⟩) (g_preV hK hW 0 (0) (mC (by decide) (by decide)) rfl rfl) rfl rfl hl.1 rfl (lv_room (Nat.le_of_ble_eq_true rfl)) dX5_alikeAll_2 ⟨Nat.le_refl _, Nat.le_refl _⟩) hS (fun I1 H locs hp hW hS => ?_)
  have eI1 : I1 = mtP I 35 4 := hp
  refine lv_iconst (v := nI 0) hx hb dX5_alikeAll_5 (by decide) ?_
  refine lv_istore_n (lv' := [(2, .int (nI (0))), (0, .ref (ad 0 (0))), (1, .ref (ad 3 (4)))]) hx hb dX5_alikeAll_6 rfl hl (by decide) rfl (fun ls hl => ?_)
  refine lv_iconst (v := nI 0) hx hb dX5_alikeAll_7 (by decide) ?_
  refine lv_istore_n (lv' := [(3, .int (nI (0))), (2, .int (nI (0))), (0, .ref (ad 0 (0))), (1, .ref (ad 3 (4)))]) hx hb dX5_alikeAll_8 rfl hl (by decide) rfl (fun ls hl => ?_)
  have K9 : ∀ (n : Nat) (i : Nat) (z : Nat), (i ≤ 4) → (z = cntS I 35 i) → 4 < i + n → ∀ (H : Heap) (locs : List Loc), va_P D vwCl (wS LC ad (wC G ad (mtP I 35 4))) H → va_S (wA LC ad) s.heap H locs → ∀ (ls : Array Slot), lv_has ls 4 [(3, .int (nI (i))), (2, .int (nI (z))), (0, .ref (ad 0 (0))), (1, .ref (ad 3 (4)))] → W p l e ({ frames := 3, cells := 0, slots := 0, locals := 64 } : Room) s m args below meth c H locs 0 0 Q (F0 m 9 ls []) := by
    intro n9
    induction n9 with
    | zero => intro i z hi hz hfu; exact absurd hfu (by omega)
    | succ n9 ih9 =>
      intro i z hi hz hfu H locs hW hS ls hl
      refine lv_iload_n hx hb dX5_alikeAll_9 rfl (lv_at hl 0 rfl) ?_
      refine lv_iconst (v := nI 4) hx hb dX5_alikeAll_10 (by decide) ?_
      refine lv_icmp_ge (tgt := 36) hx hb dX5_alikeAll_11 (by decide) (fun c11_1 => ?_) (fun c11_1 => ?_)
      · replace c11_1 : 4 ≤ i := (nI_leI (show 4 < 2147483648 by omega) (show i < 2147483648 by omega)).mp c11_1
        refine lv_iload_n hx hb dX5_alikeAll_36 rfl (lv_at hl 1 rfl) ?_
        rw [hQ]
        exact g_iret (wd := wC G ad) hx hb hr rfl hlocks hW hS (by have e4 : i = 4 := (by omega); subst e4; exact ⟨by rw [hz], rfl⟩) dX5_alikeAll_37
      · replace c11_1 : ¬ (4 ≤ i) := fun h => c11_1 ((nI_leI (show 4 < 2147483648 by omega) (show i < 2147483648 by omega)).mpr h)
        refine lv_aload_n hx hb dX5_alikeAll_14 rfl (lv_at hl 3 rfl) ?_
        refine lv_iload_n hx hb dX5_alikeAll_15 rfl (lv_at hl 0 rfl) ?_
        refine r_aald hx hb hK hW 1 3 (4) (i) (mC (by decide) (by decide)) rfl rfl (show i < 4 by omega) (by decide) rfl rfl dX5_alikeAll_16 ?_
        refine lv_aload_n hx hb dX5_alikeAll_17 rfl (lv_at hl 2 rfl) ?_
        refine r_get hx hb hts hown hK hW 0 (0) 5 (mC (by decide) (by decide)) rfl rfl hinX5 (by decide) hf32 rfl rfl dX5_alikeAll_18 ?_
        refine g_ci (va_runV (As := [.ref (ad 4 (32))]) (rest := []) ⟨hx, hb, hml, hown, hts⟩ (c_X4_isSame l D G ad hI (mtP I 35 4) (i + 35) 32 (show i + 35 < 59 by omega) (by decide)) (cwV 1 hts gX5_alikeAll_X4_isSame rfl rfl rfl (by decide +kernel) ⟨Nat.le_of_ble_eq_true rfl, Nat.le_of_ble_eq_true rfl⟩) (g_preV hK hW 4 (i + 35) (mC (by decide) (show i + 35 < 59 by omega)) rfl rfl) rfl rfl hl.1 rfl (lv_room (Nat.le_of_ble_eq_true rfl)) dX5_alikeAll_21 ⟨Nat.le_refl _, Nat.le_refl _⟩) hS (fun x3 I3 H locs hp hW hS => ?_)
        obtain ⟨ex3, eI3⟩ := hp
        rw [eI3] at hW
        clear eI3
        refine lv_if_eq (tgt := 30) hx hb dX5_alikeAll_24 (by decide) (fun c24_3 => ?_) (fun c24_3 => ?_)
        · rw [ex3] at c24_3
          replace c24_3 := bI_0.mp c24_3
          refine lv_iinc (v := nI (i + 1)) (lv' := [(3, .int (nI (i + 1))), (2, .int (nI (z))), (0, .ref (ad 0 (0))), (1, .ref (ad 3 (4)))]) hx hb dX5_alikeAll_30 hl (k := 0) rfl (nI_inc i 1) (by decide) rfl (fun ls hl => ?_)
          refine lv_goto (tgt := 9) hx hb dX5_alikeAll_33 (by decide) ?_
          exact ih9 (i + 1) (z) (by omega) (by subst ex3; rw [cntS, if_neg (show ¬ same0 (mtP I 35 4) (i + 35) 32 = true from fun q9 => absurd (c24_3.symm.trans q9) (by decide)), hz]) (by omega) _ _ hW hS _ (lv_sub hl [0, 1, 2, 3] rfl)
        · rw [ex3] at c24_3
          replace c24_3 := bI_1.mp c24_3
          refine lv_iinc (v := nI (z + 1)) (lv' := [(2, .int (nI (z + 1))), (3, .int (nI (i))), (0, .ref (ad 0 (0))), (1, .ref (ad 3 (4)))]) hx hb dX5_alikeAll_27 hl (k := 1) rfl (nI_inc z 1) (by decide) rfl (fun ls hl => ?_)
          refine lv_iinc (v := nI (i + 1)) (lv' := [(3, .int (nI (i + 1))), (2, .int (nI (z + 1))), (0, .ref (ad 0 (0))), (1, .ref (ad 3 (4)))]) hx hb dX5_alikeAll_30 hl (k := 1) rfl (nI_inc i 1) (by decide) rfl (fun ls hl => ?_)
          refine lv_goto (tgt := 9) hx hb dX5_alikeAll_33 (by decide) ?_
          exact ih9 (i + 1) (z + 1) (by omega) (by subst ex3; rw [cntS, if_pos (show same0 (mtP I 35 4) (i + 35) 32 = true from c24_3), hz]) (by omega) _ _ hW hS _ (lv_sub hl [0, 1, 2, 3] rfl)
  have e9 : I1 = mtP I 35 4 := by
    subst eI1
    rfl
  have hW9 := hW
  rw [e9] at hW9
  exact K9 (4 + 1) (0) (0) (by decide) rfl (by omega) _ _ hW9 hS _ (lv_sub hl [0, 1, 2, 3] rfl)

set_option maxHeartbeats 4000000 in
set_option maxRecDepth 100000 in
theorem c_X5_isAhead (l : Launch) (D : va_G) (G : Nat → ClassId) (ad : Nat → Nat → Nat) (hI : wI LC ad) (I : St) (ia ib : Nat) (hia : ia < 59) (hib : ib < 59) : Met l yX5_isAhead wsX5_isAhead ({ frames := 3, cells := 0, slots := 0, locals := 64 } : Room) (gPre D G LC ad [.ref (ad 0 (0)), .ref (ad 4 (ia)), .ref (ad 4 (ib))] (wC G ad I)) (gQi D LC ad (wC G ad) (fun r9 u => r9 = bI (same0 (ahS I ia ib) 34 ia) ∧ u = ahS I ia ib)) 0 0 (wA LC ad) := by
  refine g_entry (C := RX5) (cc := cX5_isAhead) (maxL := 3) (ret := (some .boolean)) rfl (by decide) rfl (Nat.le_of_ble_eq_true rfl) (fun p e s m args below meth c Q ls hQ hx hb hr hts hown hlocks hml hW hK hl => ?_)
  have hl : lv_has ls 3 [(0, .ref (ad 0 (0))), (1, .ref (ad 4 (ia))), (2, .ref (ad 4 (ib)))] := hl
  have hS := va_S.rf (A := wA LC ad) (H0 := s.heap)
  have hinX5 : ∀ w ∈ wsX50, w ∈ wsX5_isAhead := by decide +kernel
  have hf35 := hts (.fieldLink RX5 35 "JoinedStores" "thought" "LJoinedStores$Store;") (by decide +kernel)
  refine lv_aload_n hx hb dX5_isAhead_0 rfl (lv_at hl 0 rfl) ?_
  refine r_get hx hb hts hown hK hW 0 (0) 6 (mC (by decide) (by decide)) rfl rfl hinX5 (by decide) hf35 rfl rfl dX5_isAhead_1 ?_
  refine lv_aload_n hx hb dX5_isAhead_4 rfl (lv_at hl 1 rfl) ?_
  refine g_cv (va_runV (As := [.ref (ad 4 (ia))]) (rest := []) ⟨hx, hb, hml, hown, hts⟩ (c_X4_become l D G ad hI I 34 ia (by decide) (show ia < 59 by omega)) (cwV 1 hts gX5_isAhead_X4_become rfl rfl rfl (by decide +kernel) ⟨Nat.le_of_ble_eq_true rfl, Nat.le_of_ble_eq_true rfl⟩) (g_preV hK hW 4 (34) (mC (by decide) (by decide)) rfl rfl) rfl rfl hl.1 rfl (lv_room (Nat.le_of_ble_eq_true rfl)) dX5_isAhead_5 ⟨Nat.le_refl _, Nat.le_refl _⟩) hS (fun I1 H locs hp hW hS => ?_)
  have eI1 : I1 = cpy I 34 ia := hp
  refine lv_aload_n hx hb dX5_isAhead_8 rfl (lv_at hl 0 rfl) ?_
  refine r_get hx hb hts hown hK hW 0 (0) 6 (mC (by decide) (by decide)) rfl rfl hinX5 (by decide) hf35 rfl rfl dX5_isAhead_9 ?_
  refine lv_aload_n hx hb dX5_isAhead_12 rfl (lv_at hl 2 rfl) ?_
  refine g_cv (va_runV (As := [.ref (ad 4 (ib))]) (rest := []) ⟨hx, hb, hml, hown, hts⟩ (c_X4_join l D G ad hI I1 34 ib (by decide) (show ib < 59 by omega)) (cwV 1 hts gX5_isAhead_X4_join rfl rfl rfl (by decide +kernel) ⟨Nat.le_of_ble_eq_true rfl, Nat.le_of_ble_eq_true rfl⟩) (g_preV hK hW 4 (34) (mC (by decide) (by decide)) rfl rfl) rfl rfl hl.1 rfl (lv_room (Nat.le_of_ble_eq_true rfl)) dX5_isAhead_13 ⟨Nat.le_refl _, Nat.le_refl _⟩) hS (fun I2 H locs hp hW hS => ?_)
  have eI2 : I2 = jn I1 34 ib := hp
  refine lv_aload_n hx hb dX5_isAhead_16 rfl (lv_at hl 0 rfl) ?_
  refine r_get hx hb hts hown hK hW 0 (0) 6 (mC (by decide) (by decide)) rfl rfl hinX5 (by decide) hf35 rfl rfl dX5_isAhead_17 ?_
  refine lv_aload_n hx hb dX5_isAhead_20 rfl (lv_at hl 1 rfl) ?_
  refine g_ci (va_runV (As := [.ref (ad 4 (ia))]) (rest := []) ⟨hx, hb, hml, hown, hts⟩ (c_X4_isSame l D G ad hI I2 34 ia (by decide) (show ia < 59 by omega)) (cwV 1 hts gX5_isAhead_X4_isSame rfl rfl rfl (by decide +kernel) ⟨Nat.le_of_ble_eq_true rfl, Nat.le_of_ble_eq_true rfl⟩) (g_preV hK hW 4 (34) (mC (by decide) (by decide)) rfl rfl) rfl rfl hl.1 rfl (lv_room (Nat.le_of_ble_eq_true rfl)) dX5_isAhead_21 ⟨Nat.le_refl _, Nat.le_refl _⟩) hS (fun x3 I3 H locs hp hW hS => ?_)
  obtain ⟨ex3, eI3⟩ := hp
  rw [eI3] at hW
  clear eI3
  rw [hQ]
  exact g_iret (wd := wC G ad) hx hb hr (narB ex3) hlocks hW hS (by subst ex3 eI2 eI1; exact ⟨rfl, rfl⟩) dX5_isAhead_24

set_option maxHeartbeats 4000000 in
set_option maxRecDepth 100000 in
theorem c_X5_messagesTo (l : Launch) (D : va_G) (G : Nat → ClassId) (ad : Nat → Nat → Nat) (hI : wI LC ad) (I : St) (r : Nat) (hr4 : r < 4) (hT : okT I) (hWt : okW I) : Met l yX5_messagesTo wsX5_messagesTo ({ frames := 0, cells := 0, slots := 0, locals := 0 } : Room) (gPre D G LC ad [.ref (ad 0 (0)), .int (nI (r))] (wC G ad I)) (gQi D LC ad (wC G ad) (fun r9 u => r9 = mtoP I r (wt I) ∧ u = I)) 0 0 (wA LC ad) := by
  refine g_entry (C := RX5) (cc := cX5_messagesTo) (maxL := 4) (ret := (some .int)) rfl (by decide) rfl (Nat.le_of_ble_eq_true rfl) (fun p e s m args below meth c Q ls hQ hx hb hr hts hown hlocks hml hW hK hl => ?_)
  have hl : lv_has ls 4 [(0, .ref (ad 0 (0))), (1, .int (nI (r)))] := hl
  have hS := va_S.rf (A := wA LC ad) (H0 := s.heap)
  have hinX1 : ∀ w ∈ wsX10, w ∈ wsX5_messagesTo := by decide +kernel
  have hinX2 : ∀ w ∈ wsX20, w ∈ wsX5_messagesTo := by decide +kernel
  have hinX5 : ∀ w ∈ wsX50, w ∈ wsX5_messagesTo := by decide +kernel
  have hf10 := hts (.fieldLink RX5 10 "JoinedStores" "now" "LJoinedStores$Network;") (by decide +kernel)
  have hf148 := hts (.fieldLink RX5 148 "JoinedStores$Network" "waits" "I") (by decide +kernel)
  have hf165 := hts (.fieldLink RX5 165 "JoinedStores$Network" "waiting" "[LJoinedStores$Message;") (by decide +kernel)
  have hf169 := hts (.fieldLink RX5 169 "JoinedStores$Message" "to" "I") (by decide +kernel)
  have hw6 := hT.2
  refine lv_iconst (v := nI 0) hx hb dX5_messagesTo_0 (by decide) ?_
  refine lv_istore_n (lv' := [(2, .int (nI (0))), (0, .ref (ad 0 (0))), (1, .int (nI (r)))]) hx hb dX5_messagesTo_1 rfl hl (by decide) rfl (fun ls hl => ?_)
  refine lv_iconst (v := nI 0) hx hb dX5_messagesTo_2 (by decide) ?_
  refine lv_istore_n (lv' := [(3, .int (nI (0))), (2, .int (nI (0))), (0, .ref (ad 0 (0))), (1, .int (nI (r)))]) hx hb dX5_messagesTo_3 rfl hl (by decide) rfl (fun ls hl => ?_)
  have K4 : ∀ (n : Nat) (i : Nat) (d : Int32), (i ≤ wt I) → (d = mtoP I r i) → (wt I) < i + n → ∀ (H : Heap) (locs : List Loc), va_P D vwCl (wS LC ad (wC G ad I)) H → va_S (wA LC ad) s.heap H locs → ∀ (ls : Array Slot), lv_has ls 4 [(3, .int (nI (i))), (2, .int (d)), (0, .ref (ad 0 (0))), (1, .int (nI (r)))] → W p l e ({ frames := 0, cells := 0, slots := 0, locals := 0 } : Room) s m args below meth c H locs 0 0 Q (F0 m 4 ls []) := by
    intro n4
    induction n4 with
    | zero => intro i d hi hd hfu; exact absurd hfu (by omega)
    | succ n4 ih4 =>
      intro i d hi hd hfu H locs hW hS ls hl
      refine lv_iload_n hx hb dX5_messagesTo_4 rfl (lv_at hl 0 rfl) ?_
      refine lv_aload_n hx hb dX5_messagesTo_5 rfl (lv_at hl 2 rfl) ?_
      refine r_get hx hb hts hown hK hW 0 (0) 0 (mC (by decide) (by decide)) rfl rfl hinX5 (by decide) hf10 rfl rfl dX5_messagesTo_6 ?_
      refine r_get hx hb hts hown hK hW 1 (0) 6 (mC (by decide) (by decide)) rfl rfl hinX2 (by decide) hf148 rfl rfl dX5_messagesTo_9 (lv_topi (fun x1 ex1 => ?_))
      have hw6 := hT.2
      refine r_top (show x1 = nI (wt I) from (ex1.trans hT.1)) ?_
      refine lv_icmp_ge (tgt := 43) hx hb dX5_messagesTo_12 (by decide) (fun c12_1 => ?_) (fun c12_1 => ?_)
      · replace c12_1 : wt I ≤ i := (nI_leI (show wt I < 2147483648 by omega) (show i < 2147483648 by omega)).mp c12_1
        refine lv_iload_n hx hb dX5_messagesTo_43 rfl (lv_at hl 1 rfl) ?_
        rw [hQ]
        exact g_iret (wd := wC G ad) hx hb hr rfl hlocks hW hS (by have e4 : i = wt I := (by omega); subst e4; exact ⟨hd, rfl⟩) dX5_messagesTo_44
      · replace c12_1 : ¬ (wt I ≤ i) := fun h => c12_1 ((nI_leI (show wt I < 2147483648 by omega) (show i < 2147483648 by omega)).mpr h)
        refine lv_aload_n hx hb dX5_messagesTo_15 rfl (lv_at hl 2 rfl) ?_
        refine r_get hx hb hts hown hK hW 0 (0) 0 (mC (by decide) (by decide)) rfl rfl hinX5 (by decide) hf10 rfl rfl dX5_messagesTo_16 ?_
        refine r_get hx hb hts hown hK hW 1 (0) 5 (mC (by decide) (by decide)) rfl rfl hinX2 (by decide) hf165 rfl rfl dX5_messagesTo_19 ?_
        refine lv_iload_n hx hb dX5_messagesTo_22 rfl (lv_at hl 0 rfl) ?_
        refine r_aald hx hb hK hW 2 6 (0) (i) (mC (by decide) (by decide)) rfl rfl (show i < 6 by omega) (by decide) rfl rfl dX5_messagesTo_23 ?_
        have hp1 := hWt 0 i (by decide) (by omega)
        refine r_get hx hb hts hown hK hW 8 ((I 6 0 i).toNatClampNeg) 1 (mC (by decide) (show (I 6 0 i).toNatClampNeg < 12 by omega)) rfl rfl hinX1 (by decide) hf169 rfl rfl dX5_messagesTo_24 (lv_topi (fun x3 ex3 => ?_))
        refine lv_iload_n hx hb dX5_messagesTo_27 rfl (lv_at hl 3 rfl) ?_
        refine lv_icmp_ne (tgt := 37) hx hb dX5_messagesTo_28 (by decide) (fun c28_3 => ?_) (fun c28_3 => ?_)
        · replace c28_3 := fun q => c28_3 (ex3.trans q)
          refine lv_iinc (v := nI (i + 1)) (lv' := [(3, .int (nI (i + 1))), (2, .int (d)), (0, .ref (ad 0 (0))), (1, .int (nI (r)))]) hx hb dX5_messagesTo_37 hl (k := 0) rfl (nI_inc i 1) (by decide) rfl (fun ls hl => ?_)
          refine lv_goto (tgt := 4) hx hb dX5_messagesTo_40 (by decide) ?_
          exact ih4 (i + 1) (d) (by omega) (by subst ex3 ex1; rw [mtoP, if_neg c28_3, hd]) (by omega) _ _ hW hS _ (lv_sub hl [0, 1, 2, 3] rfl)
        · replace c28_3 := ex3.symm.trans c28_3
          refine lv_iload_n hx hb dX5_messagesTo_31 rfl (lv_at hl 1 rfl) ?_
          refine lv_iconst (v := nI 1) hx hb dX5_messagesTo_32 (by decide) ?_
          refine lv_iload_n hx hb dX5_messagesTo_33 rfl (lv_at hl 0 rfl) ?_
          refine lv_ishl hx hb dX5_messagesTo_34 (lv_topi (fun x5 ex5 => ?_))
          replace ex5 : x5 = b1 i := ex5
          refine lv_ior hx hb dX5_messagesTo_35 (lv_topi (fun x6 ex6 => ?_))
          refine lv_istore_n (lv' := [(2, .int (x6)), (3, .int (nI (i))), (0, .ref (ad 0 (0))), (1, .int (nI (r)))]) hx hb dX5_messagesTo_36 rfl hl (by decide) rfl (fun ls hl => ?_)
          refine lv_iinc (v := nI (i + 1)) (lv' := [(3, .int (nI (i + 1))), (2, .int (x6)), (0, .ref (ad 0 (0))), (1, .int (nI (r)))]) hx hb dX5_messagesTo_37 hl (k := 1) rfl (nI_inc i 1) (by decide) rfl (fun ls hl => ?_)
          refine lv_goto (tgt := 4) hx hb dX5_messagesTo_40 (by decide) ?_
          exact ih4 (i + 1) (x6) (by omega) (by subst ex6 ex5 ex3 ex1; rw [mtoP, if_pos c28_3, hd]) (by omega) _ _ hW hS _ (lv_sub hl [0, 1, 2, 3] rfl)
  exact K4 ((wt I) + 1) (0) (nI (0)) (Nat.zero_le _) rfl (by omega) _ _ hW hS _ (lv_sub hl [0, 1, 2, 3] rfl)

set_option maxHeartbeats 4000000 in
set_option maxRecDepth 100000 in
theorem c_X5_thinkComing (l : Launch) (D : va_G) (G : Nat → ClassId) (ad : Nat → Nat → Nat) (hI : wI LC ad) (I : St) (r : Nat) (x : Int32) (hr4 : r < 4) (hT : okT I) (hWt : okW I) : Met l yX5_thinkComing wsX5_thinkComing ({ frames := 1, cells := 0, slots := 0, locals := 25 } : Room) (gPre D G LC ad [.ref (ad 0 (0)), .int (nI (r)), .int (x)] (wC G ad I)) (gQv D LC ad (wC G ad) (fun u => u = tcP I r x (wt I))) 0 0 (wA LC ad) := by
  refine g_entry (C := RX5) (cc := cX5_thinkComing) (maxL := 4) (ret := none) rfl (by decide) rfl (Nat.le_of_ble_eq_true rfl) (fun p e s m args below meth c Q ls hQ hx hb hr hts hown hlocks hml hW hK hl => ?_)
  have hl : lv_has ls 4 [(0, .ref (ad 0 (0))), (1, .int (nI (r))), (2, .int (x))] := hl
  have hS := va_S.rf (A := wA LC ad) (H0 := s.heap)
  have hinX1 : ∀ w ∈ wsX10, w ∈ wsX5_thinkComing := by decide +kernel
  have hinX2 : ∀ w ∈ wsX20, w ∈ wsX5_thinkComing := by decide +kernel
  have hinX5 : ∀ w ∈ wsX50, w ∈ wsX5_thinkComing := by decide +kernel
  have hf10 := hts (.fieldLink RX5 10 "JoinedStores" "now" "LJoinedStores$Network;") (by decide +kernel)
  have hf35 := hts (.fieldLink RX5 35 "JoinedStores" "thought" "LJoinedStores$Store;") (by decide +kernel)
  have hf68 := hts (.fieldLink RX5 68 "JoinedStores$Network" "stores" "[LJoinedStores$Store;") (by decide +kernel)
  have hf148 := hts (.fieldLink RX5 148 "JoinedStores$Network" "waits" "I") (by decide +kernel)
  have hf165 := hts (.fieldLink RX5 165 "JoinedStores$Network" "waiting" "[LJoinedStores$Message;") (by decide +kernel)
  have hf174 := hts (.fieldLink RX5 174 "JoinedStores$Message" "store" "LJoinedStores$Store;") (by decide +kernel)
  have hw6 := hT.2
  refine lv_aload_n hx hb dX5_thinkComing_0 rfl (lv_at hl 0 rfl) ?_
  refine r_get hx hb hts hown hK hW 0 (0) 6 (mC (by decide) (by decide)) rfl rfl hinX5 (by decide) hf35 rfl rfl dX5_thinkComing_1 ?_
  refine lv_aload_n hx hb dX5_thinkComing_4 rfl (lv_at hl 0 rfl) ?_
  refine r_get hx hb hts hown hK hW 0 (0) 0 (mC (by decide) (by decide)) rfl rfl hinX5 (by decide) hf10 rfl rfl dX5_thinkComing_5 ?_
  refine r_get hx hb hts hown hK hW 1 (0) 2 (mC (by decide) (by decide)) rfl rfl hinX2 (by decide) hf68 rfl rfl dX5_thinkComing_8 ?_
  refine lv_iload_n hx hb dX5_thinkComing_11 rfl (lv_at hl 1 rfl) ?_
  refine r_aald hx hb hK hW 1 3 (0) (r) (mC (by decide) (by decide)) rfl rfl (show r < 4 by omega) (by decide) rfl rfl dX5_thinkComing_12 ?_
  refine g_cv (va_runV (As := [.ref (ad 4 (r))]) (rest := []) ⟨hx, hb, hml, hown, hts⟩ (c_X4_become l D G ad hI I 34 r (by decide) (show r < 59 by omega)) (cwV 1 hts gX5_thinkComing_X4_become rfl rfl rfl (by decide +kernel) ⟨Nat.le_of_ble_eq_true rfl, Nat.le_of_ble_eq_true rfl⟩) (g_preV hK hW 4 (34) (mC (by decide) (by decide)) rfl rfl) rfl rfl hl.1 rfl (lv_room (Nat.le_of_ble_eq_true rfl)) dX5_thinkComing_13 ⟨Nat.le_refl _, Nat.le_refl _⟩) hS (fun I1 H locs hp hW hS => ?_)
  have eI1 : I1 = cpy I 34 r := hp
  refine lv_iconst (v := nI 0) hx hb dX5_thinkComing_16 (by decide) ?_
  refine lv_istore_n (lv' := [(3, .int (nI (0))), (0, .ref (ad 0 (0))), (1, .int (nI (r))), (2, .int (x))]) hx hb dX5_thinkComing_17 rfl hl (by decide) rfl (fun ls hl => ?_)
  have K18 : ∀ (n : Nat) (i : Nat), (i ≤ wt I) → (wt I) < i + n → ∀ (H : Heap) (locs : List Loc), va_P D vwCl (wS LC ad (wC G ad (tcP I r x i))) H → va_S (wA LC ad) s.heap H locs → ∀ (ls : Array Slot), lv_has ls 4 [(3, .int (nI (i))), (0, .ref (ad 0 (0))), (1, .int (nI (r))), (2, .int (x))] → W p l e ({ frames := 1, cells := 0, slots := 0, locals := 25 } : Room) s m args below meth c H locs 0 0 Q (F0 m 18 ls []) := by
    intro n18
    induction n18 with
    | zero => intro i hi hfu; exact absurd hfu (by omega)
    | succ n18 ih18 =>
      intro i hi hfu H locs hW hS ls hl
      refine lv_iload_n hx hb dX5_thinkComing_18 rfl (lv_at hl 0 rfl) ?_
      refine lv_aload_n hx hb dX5_thinkComing_19 rfl (lv_at hl 1 rfl) ?_
      refine r_get hx hb hts hown hK hW 0 (0) 0 (mC (by decide) (by decide)) rfl rfl hinX5 (by decide) hf10 rfl rfl dX5_thinkComing_20 ?_
      refine r_get hx hb hts hown hK hW 1 (0) 6 (mC (by decide) (by decide)) rfl rfl hinX2 (by decide) hf148 rfl rfl dX5_thinkComing_23 (lv_topi (fun x2 ex2 => ?_))
      refine r_top (show x2 = nI (wt I) from (ex2.trans ((tcP_n (by decide) (by decide) _).trans hT.1))) ?_
      refine lv_icmp_ge (tgt := 63) hx hb dX5_thinkComing_26 (by decide) (fun c26_2 => ?_) (fun c26_2 => ?_)
      · replace c26_2 : wt I ≤ i := (nI_leI (show wt I < 2147483648 by omega) (show i < 2147483648 by omega)).mp c26_2
        rw [hQ]
        exact g_vret (wd := wC G ad) hx hb hr hlocks hW hS (by have e4 : i = wt I := (by omega); subst e4; rfl) dX5_thinkComing_63
      · replace c26_2 : ¬ (wt I ≤ i) := fun h => c26_2 ((nI_leI (show wt I < 2147483648 by omega) (show i < 2147483648 by omega)).mpr h)
        refine lv_iload_n hx hb dX5_thinkComing_29 rfl (lv_at hl 3 rfl) ?_
        refine lv_iload_n hx hb dX5_thinkComing_30 rfl (lv_at hl 0 rfl) ?_
        refine lv_iushr hx hb dX5_thinkComing_31 rfl (lv_topi (fun x4 ex4 => ?_))
        replace ex4 : x4 = us x (nI (i)) := ex4
        refine lv_iconst (v := nI 1) hx hb dX5_thinkComing_32 (by decide) ?_
        refine lv_iand hx hb dX5_thinkComing_33 (lv_topi (fun x5 ex5 => ?_))
        refine lv_iconst (v := nI 1) hx hb dX5_thinkComing_34 (by decide) ?_
        refine lv_icmp_ne (tgt := 57) hx hb dX5_thinkComing_35 (by decide) (fun c35_5 => ?_) (fun c35_5 => ?_)
        · refine lv_iinc (v := nI (i + 1)) (lv' := [(3, .int (nI (i + 1))), (0, .ref (ad 0 (0))), (1, .int (nI (r))), (2, .int (x))]) hx hb dX5_thinkComing_57 hl (k := 0) rfl (nI_inc i 1) (by decide) rfl (fun ls hl => ?_)
          refine lv_goto (tgt := 18) hx hb dX5_thinkComing_60 (by decide) ?_
          have e9 : tcP I r x i = tcP I r x (i + 1) := by
            subst ex5 ex4 ex2
            rw [tcP, if_neg (show ¬ tb x i = true from fun q => c35_5 (of_decide_eq_true q))]
          have hW9 := hW
          rw [e9] at hW9
          exact ih18 (i + 1) (by omega) (by omega) _ _ hW9 hS _ (lv_sub hl [0, 1, 2, 3] rfl)
        · refine lv_aload_n hx hb dX5_thinkComing_38 rfl (lv_at hl 1 rfl) ?_
          refine r_get hx hb hts hown hK hW 0 (0) 6 (mC (by decide) (by decide)) rfl rfl hinX5 (by decide) hf35 rfl rfl dX5_thinkComing_39 ?_
          refine lv_aload_n hx hb dX5_thinkComing_42 rfl (lv_at hl 1 rfl) ?_
          refine r_get hx hb hts hown hK hW 0 (0) 0 (mC (by decide) (by decide)) rfl rfl hinX5 (by decide) hf10 rfl rfl dX5_thinkComing_43 ?_
          refine r_get hx hb hts hown hK hW 1 (0) 5 (mC (by decide) (by decide)) rfl rfl hinX2 (by decide) hf165 rfl rfl dX5_thinkComing_46 ?_
          refine lv_iload_n hx hb dX5_thinkComing_49 rfl (lv_at hl 0 rfl) ?_
          refine r_aald hx hb hK hW 2 6 (0) (i) (mC (by decide) (by decide)) rfl rfl (show i < 6 by omega) (by decide) rfl rfl dX5_thinkComing_50 ?_
          have hp1 : (tcP I r x i 6 0 i).toNatClampNeg < 6 := by rw [tcP_n (by decide) (by decide)]; exact hWt 0 i (by decide) (by omega)
          refine r_get hx hb hts hown hK hW 8 (((tcP I r x i) 6 0 i).toNatClampNeg) 2 (mC (by decide) (show ((tcP I r x i) 6 0 i).toNatClampNeg < 12 by omega)) rfl rfl hinX1 (by decide) hf174 rfl rfl dX5_thinkComing_51 ?_
          refine g_cv (va_runV (As := [.ref (ad 4 (((tcP I r x i) 6 0 i).toNatClampNeg + 20))]) (rest := []) ⟨hx, hb, hml, hown, hts⟩ (c_X4_join l D G ad hI (tcP I r x i) 34 (((tcP I r x i) 6 0 i).toNatClampNeg + 20) (by decide) (show ((tcP I r x i) 6 0 i).toNatClampNeg + 20 < 59 by omega)) (cwV 1 hts gX5_thinkComing_X4_join rfl rfl rfl (by decide +kernel) ⟨Nat.le_of_ble_eq_true rfl, Nat.le_of_ble_eq_true rfl⟩) (g_preV hK hW 4 (34) (mC (by decide) (by decide)) rfl rfl) rfl rfl hl.1 rfl (lv_room (Nat.le_of_ble_eq_true rfl)) dX5_thinkComing_54 ⟨Nat.le_refl _, Nat.le_refl _⟩) hS (fun I7 H locs hp hW hS => ?_)
          have eI7 : I7 = jn (tcP I r x i) 34 (((tcP I r x i) 6 0 i).toNatClampNeg + 20) := hp
          refine lv_iinc (v := nI (i + 1)) (lv' := [(3, .int (nI (i + 1))), (0, .ref (ad 0 (0))), (1, .int (nI (r))), (2, .int (x))]) hx hb dX5_thinkComing_57 hl (k := 0) rfl (nI_inc i 1) (by decide) rfl (fun ls hl => ?_)
          refine lv_goto (tgt := 18) hx hb dX5_thinkComing_60 (by decide) ?_
          have e9 : I7 = tcP I r x (i + 1) := by
            subst eI7 ex5 ex4 ex2
            rw [tcP, if_pos (show tb x i = true from decide_eq_true c35_5)]
          have hW9 := hW
          rw [e9] at hW9
          exact ih18 (i + 1) (by omega) (by omega) _ _ hW9 hS _ (lv_sub hl [0, 1, 2, 3] rfl)
  have e9 : I1 = tcP I r x 0 := by
    subst eI1
    rfl
  have hW9 := hW
  rw [e9] at hW9
  exact K18 ((wt I) + 1) (0) (by omega) (by omega) _ _ hW9 hS _ (lv_sub hl [0, 1, 2, 3] rfl)

set_option maxHeartbeats 4000000 in
set_option maxRecDepth 100000 in
theorem c_X5_replicaDrawn (l : Launch) (z : Int32) : Met l yX5_replicaDrawn wsX5_replicaDrawn ({ frames := 0, cells := 0, slots := 0, locals := 0 } : Room) (pPre [.int (z)]) (pQi (nI (rd z))) 0 0 (fun _ => False) := by
  refine p_entry (C := RX5) (cc := cX5_replicaDrawn) (maxL := 1) (ret := (some .int)) rfl (by decide) rfl (Nat.le_of_ble_eq_true rfl) (fun p e s m args below meth c Q ls hQ hx hb hr hts hown hlocks hml hl => ?_)
  have hl : lv_has ls 1 [(0, .int (z))] := hl
  have hS := va_S.rf (A := fun _ => False) (H0 := s.heap)
  refine lv_iload_n hx hb dX5_replicaDrawn_0 rfl (lv_at hl 0 rfl) ?_
  refine lv_bipush (v := nI 9) hx hb dX5_replicaDrawn_1 (by decide) ?_
  refine lv_iushr hx hb dX5_replicaDrawn_3 rfl (r_top (us9 z) ?_)
  have hz9 := z.toBitVec.isLt
  refine lv_iconst (v := nI 4) hx hb dX5_replicaDrawn_4 (by decide) ?_
  refine lv_irem hx hb dX5_replicaDrawn_5 (by decide) (r_top (pk_rem (show z.toBitVec.toNat / 512 < 2147483648 by omega) (by decide) (by decide)) ?_)
  rw [hQ]
  exact p_iret hx hb hr rfl hlocks hS (by rfl) dX5_replicaDrawn_6

set_option maxHeartbeats 4000000 in
set_option maxRecDepth 100000 in
theorem c_X5_greatestDivisorOfBoth (l : Launch) (m0 g0 : Nat) (hm0 : m0 ≤ 8) (hg0 : g0 ≤ 8) : Met l yX5_greatestDivisorOfBoth wsX5_greatestDivisorOfBoth ({ frames := 0, cells := 0, slots := 0, locals := 0 } : Room) (pPre [.int (nI (m0)), .int (nI (g0))]) (pQi (nI (gdv m0 g0 m0))) 0 0 (fun _ => False) := by
  refine p_entry (C := RX5) (cc := cX5_greatestDivisorOfBoth) (maxL := 3) (ret := (some .int)) rfl (by decide) rfl (Nat.le_of_ble_eq_true rfl) (fun p e s m args below meth c Q ls hQ hx hb hr hts hown hlocks hml hl => ?_)
  have hl : lv_has ls 3 [(0, .int (nI (m0))), (1, .int (nI (g0)))] := hl
  have hS := va_S.rf (A := fun _ => False) (H0 := s.heap)
  refine lv_iload_n hx hb dX5_greatestDivisorOfBoth_0 rfl (lv_at hl 0 rfl) ?_
  refine lv_istore_n (lv' := [(2, .int (nI (m0))), (0, .int (nI (m0))), (1, .int (nI (g0)))]) hx hb dX5_greatestDivisorOfBoth_1 rfl hl (by decide) rfl (fun ls hl => ?_)
  have K2 : ∀ (n : Nat) (d : Nat), (d ≤ m0) → (gdv m0 g0 d = gdv m0 g0 m0) → m0 < (m0 - d) + n → ∀ (H : Heap) (locs : List Loc), va_S (fun _ => False) s.heap H locs → ∀ (ls : Array Slot), lv_has ls 3 [(2, .int (nI (d))), (0, .int (nI (m0))), (1, .int (nI (g0)))] → W p l e ({ frames := 0, cells := 0, slots := 0, locals := 0 } : Room) s m args below meth c H locs 0 0 Q (F0 m 2 ls []) := by
    intro n2
    induction n2 with
    | zero => intro d hdm hg hfu; exact absurd hfu (by omega)
    | succ n2 ih2 =>
      intro d hdm hg hfu H locs hS ls hl
      refine lv_iload_n hx hb dX5_greatestDivisorOfBoth_2 rfl (lv_at hl 0 rfl) ?_
      refine lv_iconst (v := nI 1) hx hb dX5_greatestDivisorOfBoth_3 (by decide) ?_
      refine lv_icmp_le (tgt := 27) hx hb dX5_greatestDivisorOfBoth_4 (by decide) (fun c4_0 => ?_) (fun c4_0 => ?_)
      · replace c4_0 : d ≤ 1 := (nI_leI (show d < 2147483648 by omega) (show 1 < 2147483648 by omega)).mp c4_0
        refine lv_iconst (v := nI 1) hx hb dX5_greatestDivisorOfBoth_27 (by decide) ?_
        rw [hQ]
        exact p_iret hx hb hr rfl hlocks hS (by rw [← hg]; rcases (by omega : d = 0 ∨ d = 1) with e9 | e9 <;> subst e9 <;> simp [gdv]) dX5_greatestDivisorOfBoth_28
      · replace c4_0 : ¬ (d ≤ 1) := fun h => c4_0 ((nI_leI (show d < 2147483648 by omega) (show 1 < 2147483648 by omega)).mpr h)
        have hml1 := Nat.mod_lt m0 (show d > 0 by omega)
        have hml2 := Nat.mod_lt g0 (show d > 0 by omega)
        refine lv_iload_n hx hb dX5_greatestDivisorOfBoth_7 rfl (lv_at hl 1 rfl) ?_
        refine lv_iload_n hx hb dX5_greatestDivisorOfBoth_8 rfl (lv_at hl 0 rfl) ?_
        refine lv_irem hx hb dX5_greatestDivisorOfBoth_9 (nI_ne0 (by omega) (by omega)) (r_top (pk_rem (show m0 < 2147483648 by omega) (show 0 < d by omega) (show d < 2147483648 by omega)) ?_)
        refine lv_if_ne (tgt := 21) hx hb dX5_greatestDivisorOfBoth_10 (by decide) (fun c10_1 => ?_) (fun c10_1 => ?_)
        · replace c10_1 : ¬ m0 % d = 0 := fun h => c10_1 ((nI_eq (show m0 % d < 2147483648 by omega) (show 0 < 2147483648 by omega)).mpr h)
          refine lv_iinc (v := nI (d - 1)) (lv' := [(2, .int (nI (d - 1))), (0, .int (nI (m0))), (1, .int (nI (g0)))]) hx hb dX5_greatestDivisorOfBoth_21 hl (k := 0) rfl (pk_dec (by omega)) (by decide) rfl (fun ls hl => ?_)
          refine lv_goto (tgt := 2) hx hb dX5_greatestDivisorOfBoth_24 (by decide) ?_
          exact ih2 (d - 1) (by omega) (by rw [← hg]; obtain ⟨d9, rfl⟩ : ∃ k, d = k + 1 := ⟨d - 1, by omega⟩; rw [gdv.eq_2, if_neg (by omega), if_neg (by intro q9; omega), Nat.add_sub_cancel]) (by omega) _ _ hS _ (lv_sub hl [0, 1, 2] rfl)
        · replace c10_1 : m0 % d = 0 := (nI_eq (show m0 % d < 2147483648 by omega) (show 0 < 2147483648 by omega)).mp c10_1
          refine lv_iload_n hx hb dX5_greatestDivisorOfBoth_13 rfl (lv_at hl 2 rfl) ?_
          refine lv_iload_n hx hb dX5_greatestDivisorOfBoth_14 rfl (lv_at hl 0 rfl) ?_
          refine lv_irem hx hb dX5_greatestDivisorOfBoth_15 (nI_ne0 (by omega) (by omega)) (r_top (pk_rem (show g0 < 2147483648 by omega) (show 0 < d by omega) (show d < 2147483648 by omega)) ?_)
          refine lv_if_ne (tgt := 21) hx hb dX5_greatestDivisorOfBoth_16 (by decide) (fun c16_2 => ?_) (fun c16_2 => ?_)
          · replace c16_2 : ¬ g0 % d = 0 := fun h => c16_2 ((nI_eq (show g0 % d < 2147483648 by omega) (show 0 < 2147483648 by omega)).mpr h)
            refine lv_iinc (v := nI (d - 1)) (lv' := [(2, .int (nI (d - 1))), (0, .int (nI (m0))), (1, .int (nI (g0)))]) hx hb dX5_greatestDivisorOfBoth_21 hl (k := 0) rfl (pk_dec (by omega)) (by decide) rfl (fun ls hl => ?_)
            refine lv_goto (tgt := 2) hx hb dX5_greatestDivisorOfBoth_24 (by decide) ?_
            exact ih2 (d - 1) (by omega) (by rw [← hg]; obtain ⟨d9, rfl⟩ : ∃ k, d = k + 1 := ⟨d - 1, by omega⟩; rw [gdv.eq_2, if_neg (by omega), if_neg (by intro q9; omega), Nat.add_sub_cancel]) (by omega) _ _ hS _ (lv_sub hl [0, 1, 2] rfl)
          · replace c16_2 : g0 % d = 0 := (nI_eq (show g0 % d < 2147483648 by omega) (show 0 < 2147483648 by omega)).mp c16_2
            refine lv_iload_n hx hb dX5_greatestDivisorOfBoth_19 rfl (lv_at hl 0 rfl) ?_
            rw [hQ]
            exact p_iret hx hb hr rfl hlocks hS (by rw [← hg]; obtain ⟨d9, rfl⟩ : ∃ k, d = k + 1 := ⟨d - 1, by omega⟩; rw [gdv, if_neg (by omega), if_pos (by constructor <;> assumption)]) dX5_greatestDivisorOfBoth_20
  exact K2 (m0 + 1) (m0) (Nat.le_refl _) rfl (by omega) _ _ hS _ (lv_sub hl [0, 1, 2] rfl)

set_option maxHeartbeats 4000000 in
set_option maxRecDepth 100000 in
theorem c_X5_alikeAfterDrawing (l : Launch) (D : va_G) (G : Nat → ClassId) (ad : Nat → Nat → Nat) (hI : wI LC ad) (I : St) (z : Int32) (nd : Nat) (hnd : nd ≤ 20) : Met l yX5_alikeAfterDrawing wsX5_alikeAfterDrawing ({ frames := 4, cells := 0, slots := 0, locals := 87 } : Room) (gPre D G LC ad [.ref (ad 0 (0)), .int (z), .int (nI (nd))] (wC G ad I)) (gQi D LC ad (wC G ad) (fun r9 u => r9 = nI (cntS (dwP I z nd) 35 4) ∧ u = mtP (dwP I z nd) 35 4)) 0 0 (wA LC ad) := by
  refine g_entry (C := RX5) (cc := cX5_alikeAfterDrawing) (maxL := 7) (ret := (some .int)) rfl (by decide) rfl (Nat.le_of_ble_eq_true rfl) (fun p e s m args below meth c Q ls hQ hx hb hr hts hown hlocks hml hW hK hl => ?_)
  have hl : lv_has ls 7 [(0, .ref (ad 0 (0))), (1, .int (z)), (2, .int (nI (nd)))] := hl
  have hS := va_S.rf (A := wA LC ad) (H0 := s.heap)
  have hinX2 : ∀ w ∈ wsX20, w ∈ wsX5_alikeAfterDrawing := by decide +kernel
  have hinX5 : ∀ w ∈ wsX50, w ∈ wsX5_alikeAfterDrawing := by decide +kernel
  have hf10 := hts (.fieldLink RX5 10 "JoinedStores" "now" "LJoinedStores$Network;") (by decide +kernel)
  have hf38 := hts (.fieldLink RX5 38 "JoinedStores" "thoughts" "[LJoinedStores$Store;") (by decide +kernel)
  have hf68 := hts (.fieldLink RX5 68 "JoinedStores$Network" "stores" "[LJoinedStores$Store;") (by decide +kernel)
  refine lv_iconst (v := nI 0) hx hb dX5_alikeAfterDrawing_0 (by decide) ?_
  refine lv_istore_n (lv' := [(3, .int (nI (0))), (0, .ref (ad 0 (0))), (1, .int (z)), (2, .int (nI (nd)))]) hx hb dX5_alikeAfterDrawing_1 rfl hl (by decide) rfl (fun ls hl => ?_)
  have K2 : ∀ (n : Nat) (i : Nat), (i ≤ 4) → 4 < i + n → ∀ (H : Heap) (locs : List Loc), va_P D vwCl (wS LC ad (wC G ad (adP I i))) H → va_S (wA LC ad) s.heap H locs → ∀ (ls : Array Slot), lv_has ls 7 [(3, .int (nI (i))), (0, .ref (ad 0 (0))), (1, .int (z)), (2, .int (nI (nd)))] → W p l e ({ frames := 4, cells := 0, slots := 0, locals := 87 } : Room) s m args below meth c H locs 0 0 Q (F0 m 2 ls []) := by
    intro n2
    induction n2 with
    | zero => intro i hi hfu; exact absurd hfu (by omega)
    | succ n2 ih2 =>
      intro i hi hfu H locs hW hS ls hl
      refine lv_iload_n hx hb dX5_alikeAfterDrawing_2 rfl (lv_at hl 0 rfl) ?_
      refine lv_iconst (v := nI 4) hx hb dX5_alikeAfterDrawing_3 (by decide) ?_
      refine lv_icmp_ge (tgt := 31) hx hb dX5_alikeAfterDrawing_4 (by decide) (fun c4_0 => ?_) (fun c4_0 => ?_)
      · replace c4_0 : 4 ≤ i := (nI_leI (show 4 < 2147483648 by omega) (show i < 2147483648 by omega)).mp c4_0
        refine lv_iload_n hx hb dX5_alikeAfterDrawing_31 rfl (lv_at hl 2 rfl) ?_
        refine lv_istore_n (lv' := [(3, .int (z)), (0, .ref (ad 0 (0))), (1, .int (z)), (2, .int (nI (nd)))]) hx hb dX5_alikeAfterDrawing_32 rfl hl (by decide) rfl (fun ls hl => ?_)
        refine lv_iconst (v := nI 0) hx hb dX5_alikeAfterDrawing_33 (by decide) ?_
        refine lv_istore (lv' := [(4, .int (nI (0))), (3, .int (z)), (0, .ref (ad 0 (0))), (1, .int (z)), (2, .int (nI (nd)))]) hx hb dX5_alikeAfterDrawing_34 hl (by decide) rfl (fun ls hl => ?_)
        have K36 : ∀ (n : Nat) (q : Nat) (y : Int32), (q ≤ nd) → (y = zs z q) → nd < q + n → ∀ (H : Heap) (locs : List Loc), va_P D vwCl (wS LC ad (wC G ad (dwP I z q))) H → va_S (wA LC ad) s.heap H locs → ∀ (ls : Array Slot), lv_has ls 7 [(4, .int (nI (q))), (3, .int (y)), (0, .ref (ad 0 (0))), (1, .int (z)), (2, .int (nI (nd)))] → W p l e ({ frames := 4, cells := 0, slots := 0, locals := 87 } : Room) s m args below meth c H locs 0 0 Q (F0 m 36 ls []) := by
          intro n36
          induction n36 with
          | zero => intro q y hq hy hfu; exact absurd hfu (by omega)
          | succ n36 ih36 =>
            intro q y hq hy hfu H locs hW hS ls hl
            refine lv_iload hx hb dX5_alikeAfterDrawing_36 (lv_at hl 0 rfl) ?_
            refine lv_iload_n hx hb dX5_alikeAfterDrawing_38 rfl (lv_at hl 4 rfl) ?_
            refine lv_icmp_ge (tgt := 87) hx hb dX5_alikeAfterDrawing_39 (by decide) (fun c39_1 => ?_) (fun c39_1 => ?_)
            · replace c39_1 : nd ≤ q := (nI_leI (show nd < 2147483648 by omega) (show q < 2147483648 by omega)).mp c39_1
              refine lv_aload_n hx hb dX5_alikeAfterDrawing_87 rfl (lv_at hl 2 rfl) ?_
              refine lv_aload_n hx hb dX5_alikeAfterDrawing_88 rfl (lv_at hl 2 rfl) ?_
              refine r_get hx hb hts hown hK hW 0 (0) 7 (mC (by decide) (by decide)) rfl rfl hinX5 (by decide) hf38 rfl rfl dX5_alikeAfterDrawing_89 ?_
              refine g_ci (va_runV (As := [.ref (ad 3 (4))]) (rest := []) ⟨hx, hb, hml, hown, hts⟩ (c_X5_alikeAll_th l D G ad hI (dwP I z q)  ) (cwV 1 hts gX5_alikeAfterDrawing_X5_alikeAll rfl rfl rfl (by decide +kernel) ⟨Nat.le_of_ble_eq_true rfl, Nat.le_of_ble_eq_true rfl⟩) (g_preV hK hW 0 (0) (mC (by decide) (by decide)) rfl rfl) rfl rfl hl.1 rfl (lv_room (Nat.le_of_ble_eq_true rfl)) dX5_alikeAfterDrawing_92 ⟨Nat.le_refl _, Nat.le_refl _⟩) hS (fun x3 I3 H locs hp hW hS => ?_)
              obtain ⟨ex3, eI3⟩ := hp
              refine r_top ex3 ?_
              rw [hQ]
              exact g_iret (wd := wC G ad) hx hb hr rfl hlocks hW hS (by have e4 : q = nd := (by omega); subst e4; subst eI3 ex3; exact ⟨rfl, rfl⟩) dX5_alikeAfterDrawing_95
            · replace c39_1 : ¬ (nd ≤ q) := fun h => c39_1 ((nI_leI (show nd < 2147483648 by omega) (show q < 2147483648 by omega)).mpr h)
              refine lv_iload_n hx hb dX5_alikeAfterDrawing_42 rfl (lv_at hl 1 rfl) ?_
              refine g_pi (va_runS (As := [.int (y)]) (rest := []) ⟨hx, hb, hml, hown, hts⟩ (c_X5_nextDrawn l y) (va_cwS 1 hts gX5_alikeAfterDrawing_X5_nextDrawn rfl rfl rfl (by decide +kernel) ⟨Nat.le_of_ble_eq_true rfl, Nat.le_of_ble_eq_true rfl⟩) p_preS rfl rfl hl.1 rfl (lv_room (Nat.le_of_ble_eq_true rfl)) dX5_alikeAfterDrawing_43 ⟨Nat.le_refl _, Nat.le_refl _⟩) hW hS (fun H locs hW hS => ?_)
              refine lv_istore_n (lv' := [(3, .int (y * 1103515245 + 12345)), (4, .int (nI (q))), (0, .ref (ad 0 (0))), (1, .int (z)), (2, .int (nI (nd)))]) hx hb dX5_alikeAfterDrawing_46 rfl hl (by decide) rfl (fun ls hl => ?_)
              refine lv_iload_n hx hb dX5_alikeAfterDrawing_47 rfl (lv_at hl 0 rfl) ?_
              refine g_pi (va_runS (As := [.int (y * 1103515245 + 12345)]) (rest := []) ⟨hx, hb, hml, hown, hts⟩ (c_X5_replicaDrawn l (y * 1103515245 + 12345)) (va_cwS 1 hts gX5_alikeAfterDrawing_X5_replicaDrawn rfl rfl rfl (by decide +kernel) ⟨Nat.le_of_ble_eq_true rfl, Nat.le_of_ble_eq_true rfl⟩) p_preS rfl rfl hl.1 rfl (lv_room (Nat.le_of_ble_eq_true rfl)) dX5_alikeAfterDrawing_48 ⟨Nat.le_refl _, Nat.le_refl _⟩) hW hS (fun H locs hW hS => ?_)
              have hr1 := rd_lt (y * 1103515245 + 12345)
              refine lv_istore (lv' := [(5, .int (nI (rd (y * 1103515245 + 12345)))), (3, .int (y * 1103515245 + 12345)), (4, .int (nI (q))), (0, .ref (ad 0 (0))), (1, .int (z)), (2, .int (nI (nd)))]) hx hb dX5_alikeAfterDrawing_51 hl (by decide) rfl (fun ls hl => ?_)
              refine lv_iload_n hx hb dX5_alikeAfterDrawing_53 rfl (lv_at hl 1 rfl) ?_
              refine g_pi (va_runS (As := [.int (y * 1103515245 + 12345)]) (rest := []) ⟨hx, hb, hml, hown, hts⟩ (c_X5_nextDrawn l (y * 1103515245 + 12345)) (va_cwS 1 hts gX5_alikeAfterDrawing_X5_nextDrawn rfl rfl rfl (by decide +kernel) ⟨Nat.le_of_ble_eq_true rfl, Nat.le_of_ble_eq_true rfl⟩) p_preS rfl rfl hl.1 rfl (lv_room (Nat.le_of_ble_eq_true rfl)) dX5_alikeAfterDrawing_54 ⟨Nat.le_refl _, Nat.le_refl _⟩) hW hS (fun H locs hW hS => ?_)
              refine lv_istore_n (lv' := [(3, .int ((y * 1103515245 + 12345) * 1103515245 + 12345)), (5, .int (nI (rd (y * 1103515245 + 12345)))), (4, .int (nI (q))), (0, .ref (ad 0 (0))), (1, .int (z)), (2, .int (nI (nd)))]) hx hb dX5_alikeAfterDrawing_57 rfl hl (by decide) rfl (fun ls hl => ?_)
              refine lv_iload_n hx hb dX5_alikeAfterDrawing_58 rfl (lv_at hl 0 rfl) ?_
              refine g_pi (va_runS (As := [.int ((y * 1103515245 + 12345) * 1103515245 + 12345)]) (rest := []) ⟨hx, hb, hml, hown, hts⟩ (c_X5_replicaDrawn l ((y * 1103515245 + 12345) * 1103515245 + 12345)) (va_cwS 1 hts gX5_alikeAfterDrawing_X5_replicaDrawn rfl rfl rfl (by decide +kernel) ⟨Nat.le_of_ble_eq_true rfl, Nat.le_of_ble_eq_true rfl⟩) p_preS rfl rfl hl.1 rfl (lv_room (Nat.le_of_ble_eq_true rfl)) dX5_alikeAfterDrawing_59 ⟨Nat.le_refl _, Nat.le_refl _⟩) hW hS (fun H locs hW hS => ?_)
              have hr2 := rd_lt ((y * 1103515245 + 12345) * 1103515245 + 12345)
              refine lv_istore (lv' := [(6, .int (nI (rd ((y * 1103515245 + 12345) * 1103515245 + 12345)))), (3, .int ((y * 1103515245 + 12345) * 1103515245 + 12345)), (5, .int (nI (rd (y * 1103515245 + 12345)))), (4, .int (nI (q))), (0, .ref (ad 0 (0))), (1, .int (z)), (2, .int (nI (nd)))]) hx hb dX5_alikeAfterDrawing_62 hl (by decide) rfl (fun ls hl => ?_)
              refine lv_aload_n hx hb dX5_alikeAfterDrawing_64 rfl (lv_at hl 4 rfl) ?_
              refine r_get hx hb hts hown hK hW 0 (0) 7 (mC (by decide) (by decide)) rfl rfl hinX5 (by decide) hf38 rfl rfl dX5_alikeAfterDrawing_65 ?_
              refine lv_iload hx hb dX5_alikeAfterDrawing_68 (lv_at hl 0 rfl) ?_
              refine r_aald hx hb hK hW 1 3 (4) (rd ((y * 1103515245 + 12345) * 1103515245 + 12345)) (mC (by decide) (by decide)) rfl rfl (show rd ((y * 1103515245 + 12345) * 1103515245 + 12345) < 4 by omega) (by decide) rfl rfl dX5_alikeAfterDrawing_70 ?_
              refine lv_aload_n hx hb dX5_alikeAfterDrawing_71 rfl (lv_at hl 4 rfl) ?_
              refine r_get hx hb hts hown hK hW 0 (0) 7 (mC (by decide) (by decide)) rfl rfl hinX5 (by decide) hf38 rfl rfl dX5_alikeAfterDrawing_72 ?_
              refine lv_iload hx hb dX5_alikeAfterDrawing_75 (lv_at hl 2 rfl) ?_
              refine r_aald hx hb hK hW 1 3 (4) (rd (y * 1103515245 + 12345)) (mC (by decide) (by decide)) rfl rfl (show rd (y * 1103515245 + 12345) < 4 by omega) (by decide) rfl rfl dX5_alikeAfterDrawing_77 ?_
              refine g_cv (va_runV (As := [.ref (ad 4 (rd (y * 1103515245 + 12345) + 35))]) (rest := []) ⟨hx, hb, hml, hown, hts⟩ (c_X4_join l D G ad hI (dwP I z q) (rd ((y * 1103515245 + 12345) * 1103515245 + 12345) + 35) (rd (y * 1103515245 + 12345) + 35) (show rd ((y * 1103515245 + 12345) * 1103515245 + 12345) + 35 < 59 by omega) (show rd (y * 1103515245 + 12345) + 35 < 59 by omega)) (cwV 1 hts gX5_alikeAfterDrawing_X4_join rfl rfl rfl (by decide +kernel) ⟨Nat.le_of_ble_eq_true rfl, Nat.le_of_ble_eq_true rfl⟩) (g_preV hK hW 4 (rd ((y * 1103515245 + 12345) * 1103515245 + 12345) + 35) (mC (by decide) (show rd ((y * 1103515245 + 12345) * 1103515245 + 12345) + 35 < 59 by omega)) rfl rfl) rfl rfl hl.1 rfl (lv_room (Nat.le_of_ble_eq_true rfl)) dX5_alikeAfterDrawing_78 ⟨Nat.le_refl _, Nat.le_refl _⟩) hS (fun I4 H locs hp hW hS => ?_)
              have eI4 : I4 = jn (dwP I z q) (rd ((y * 1103515245 + 12345) * 1103515245 + 12345) + 35) (rd (y * 1103515245 + 12345) + 35) := hp
              refine lv_iinc (v := nI (q + 1)) (lv' := [(4, .int (nI (q + 1))), (6, .int (nI (rd ((y * 1103515245 + 12345) * 1103515245 + 12345)))), (3, .int ((y * 1103515245 + 12345) * 1103515245 + 12345)), (5, .int (nI (rd (y * 1103515245 + 12345)))), (0, .ref (ad 0 (0))), (1, .int (z)), (2, .int (nI (nd)))]) hx hb dX5_alikeAfterDrawing_81 hl (k := 3) rfl (nI_inc q 1) (by decide) rfl (fun ls hl => ?_)
              refine lv_goto (tgt := 36) hx hb dX5_alikeAfterDrawing_84 (by decide) ?_
              have e9 : I4 = dwP I z (q + 1) := by
                subst eI4
                rw [hy]
                rfl
              have hW9 := hW
              rw [e9] at hW9
              exact ih36 (q + 1) ((y * 1103515245 + 12345) * 1103515245 + 12345) (by omega) (by rw [hy]; rfl) (by omega) _ _ hW9 hS _ (lv_sub hl [0, 2, 4, 5, 6] rfl)
        have e9 : adP I i = dwP I z 0 := by
          have e4 : i = 4 := (by omega)
          subst e4
          skip
          rfl
        have hW9 := hW
        rw [e9] at hW9
        exact K36 (nd + 1) (0) (z) (Nat.zero_le _) rfl (by omega) _ _ hW9 hS _ (lv_sub hl [0, 1, 2, 3, 4] rfl)
      · replace c4_0 : ¬ (4 ≤ i) := fun h => c4_0 ((nI_leI (show 4 < 2147483648 by omega) (show i < 2147483648 by omega)).mpr h)
        refine lv_aload_n hx hb dX5_alikeAfterDrawing_7 rfl (lv_at hl 1 rfl) ?_
        refine r_get hx hb hts hown hK hW 0 (0) 7 (mC (by decide) (by decide)) rfl rfl hinX5 (by decide) hf38 rfl rfl dX5_alikeAfterDrawing_8 ?_
        refine lv_iload_n hx hb dX5_alikeAfterDrawing_11 rfl (lv_at hl 0 rfl) ?_
        refine r_aald hx hb hK hW 1 3 (4) (i) (mC (by decide) (by decide)) rfl rfl (show i < 4 by omega) (by decide) rfl rfl dX5_alikeAfterDrawing_12 ?_
        refine lv_aload_n hx hb dX5_alikeAfterDrawing_13 rfl (lv_at hl 1 rfl) ?_
        refine r_get hx hb hts hown hK hW 0 (0) 0 (mC (by decide) (by decide)) rfl rfl hinX5 (by decide) hf10 rfl rfl dX5_alikeAfterDrawing_14 ?_
        refine r_get hx hb hts hown hK hW 1 (0) 2 (mC (by decide) (by decide)) rfl rfl hinX2 (by decide) hf68 rfl rfl dX5_alikeAfterDrawing_17 ?_
        refine lv_iload_n hx hb dX5_alikeAfterDrawing_20 rfl (lv_at hl 0 rfl) ?_
        refine r_aald hx hb hK hW 1 3 (0) (i) (mC (by decide) (by decide)) rfl rfl (show i < 4 by omega) (by decide) rfl rfl dX5_alikeAfterDrawing_21 ?_
        refine g_cv (va_runV (As := [.ref (ad 4 (i))]) (rest := []) ⟨hx, hb, hml, hown, hts⟩ (c_X4_become l D G ad hI (adP I i) (i + 35) i (show i + 35 < 59 by omega) (show i < 59 by omega)) (cwV 1 hts gX5_alikeAfterDrawing_X4_become rfl rfl rfl (by decide +kernel) ⟨Nat.le_of_ble_eq_true rfl, Nat.le_of_ble_eq_true rfl⟩) (g_preV hK hW 4 (i + 35) (mC (by decide) (show i + 35 < 59 by omega)) rfl rfl) rfl rfl hl.1 rfl (lv_room (Nat.le_of_ble_eq_true rfl)) dX5_alikeAfterDrawing_22 ⟨Nat.le_refl _, Nat.le_refl _⟩) hS (fun I5 H locs hp hW hS => ?_)
        have eI5 : I5 = cpy (adP I i) (i + 35) i := hp
        refine lv_iinc (v := nI (i + 1)) (lv' := [(3, .int (nI (i + 1))), (0, .ref (ad 0 (0))), (1, .int (z)), (2, .int (nI (nd)))]) hx hb dX5_alikeAfterDrawing_25 hl (k := 0) rfl (nI_inc i 1) (by decide) rfl (fun ls hl => ?_)
        refine lv_goto (tgt := 2) hx hb dX5_alikeAfterDrawing_28 (by decide) ?_
        have e9 : I5 = adP I (i + 1) := by
          subst eI5
          rfl
        have hW9 := hW
        rw [e9] at hW9
        exact ih2 (i + 1) (by omega) (by omega) _ _ hW9 hS _ (lv_sub hl [0, 1, 2, 3] rfl)
  have e9 : I = adP I 0 := by
    skip
    rfl
  have hW9 := hW
  rw [e9] at hW9
  exact K2 (4 + 1) (0) (by omega) (by omega) _ _ hW9 hS _ (lv_sub hl [0, 1, 2, 3] rfl)

set_option maxHeartbeats 4000000 in
set_option maxRecDepth 100000 in
theorem c_X5_kindOfFirst (l : Launch) (D : va_G) (G : Nat → ClassId) (ad : Nat → Nat → Nat) (hI : wI LC ad) (I : St) (rm : Nat) (hrm : rm < 3) (hKd : okK I) : Met l yX5_kindOfFirst wsX5_kindOfFirst ({ frames := 1, cells := 0, slots := 0, locals := 21 } : Room) (gPre D G LC ad [.ref (ad 0 (0)), .int (nI (rm))] (wC G ad I)) (gQi D LC ad (wC G ad) (fun r9 u => r9 = nI (kd I (rm * 4)) ∧ u = I)) 0 0 (wA LC ad) := by
  refine g_entry (C := RX5) (cc := cX5_kindOfFirst) (maxL := 2) (ret := (some .int)) rfl (by decide) rfl (Nat.le_of_ble_eq_true rfl) (fun p e s m args below meth c Q ls hQ hx hb hr hts hown hlocks hml hW hK hl => ?_)
  have hl : lv_has ls 2 [(0, .ref (ad 0 (0))), (1, .int (nI (rm)))] := hl
  have hS := va_S.rf (A := wA LC ad) (H0 := s.heap)
  have hinX2 : ∀ w ∈ wsX20, w ∈ wsX5_kindOfFirst := by decide +kernel
  have hinX5 : ∀ w ∈ wsX50, w ∈ wsX5_kindOfFirst := by decide +kernel
  have hf10 := hts (.fieldLink RX5 10 "JoinedStores" "now" "LJoinedStores$Network;") (by decide +kernel)
  have hf108 := hts (.fieldLink RX5 108 "JoinedStores$Network" "kinds" "[I") (by decide +kernel)
  refine lv_aload_n hx hb dX5_kindOfFirst_0 rfl (lv_at hl 0 rfl) ?_
  refine r_get hx hb hts hown hK hW 0 (0) 0 (mC (by decide) (by decide)) rfl rfl hinX5 (by decide) hf10 rfl rfl dX5_kindOfFirst_1 ?_
  refine r_get hx hb hts hown hK hW 1 (0) 1 (mC (by decide) (by decide)) rfl rfl hinX2 (by decide) hf108 rfl rfl dX5_kindOfFirst_4 ?_
  refine lv_iload_n hx hb dX5_kindOfFirst_7 rfl (lv_at hl 1 rfl) ?_
  refine lv_iconst (v := nI 0) hx hb dX5_kindOfFirst_8 (by decide) ?_
  refine g_pi (va_runS (As := [.int (nI (rm)), .int (nI (0))]) (rest := [.ref (ad 16 (0))]) ⟨hx, hb, hml, hown, hts⟩ (c_X5_objectAt l (rm) (0)) (va_cwS 2 hts gX5_kindOfFirst_X5_objectAt rfl rfl rfl (by decide +kernel) ⟨Nat.le_of_ble_eq_true rfl, Nat.le_of_ble_eq_true rfl⟩) p_preS rfl rfl hl.1 rfl (lv_room (Nat.le_of_ble_eq_true rfl)) dX5_kindOfFirst_9 ⟨Nat.le_refl _, Nat.le_refl _⟩) hW hS (fun H locs hW hS => ?_)
  refine rC_iald hx hb hK hW 16 (0) (rm * 4 + 0) (by decide) (by decide) (by decide) (show rm * 4 + 0 < 12 by omega) rfl dX5_kindOfFirst_12 (fun x1 ex1 => ?_)
  refine r_top (show x1 = nI (kd I (rm * 4 + 0)) from (ex1.trans (hKd (rm * 4 + 0) (by omega)).1)) ?_
  rw [hQ]
  exact g_iret (wd := wC G ad) hx hb hr rfl hlocks hW hS (by exact ⟨rfl, rfl⟩) dX5_kindOfFirst_13

set_option maxHeartbeats 4000000 in
set_option maxRecDepth 100000 in
theorem c_X5_firstOtherwise (l : Launch) (D : va_G) (G : Nat → ClassId) (ad : Nat → Nat → Nat) (hI : wI LC ad) (I : St) (k ia rm kf L : Nat) (hk4 : k < 4) (hia : ia < 59) (hrm : rm < 3) (hkf : kf < 6) (hL4 : L ≤ 4) (hLe : I 7 k 1 = nI L) (hM : okM I) (hKd : okK I) : Met l yX5_firstOtherwise wsX5_firstOtherwise ({ frames := 5, cells := 0, slots := 0, locals := 247 } : Room) (gPre D G LC ad [.ref (ad 0 (0)), .ref (ad 7 (k)), .ref (ad 4 (ia)), .int (nI (rm)), .int (nI (kf))] (wC G ad I)) (gQi D LC ad (wC G ad) (fun r9 u => r9 = fo I k ia rm kf L ∧ Sm gG I u)) 0 0 (wA LC ad) := by
  refine g_entry (C := RX5) (cc := cX5_firstOtherwise) (maxL := 8) (ret := (some .int)) rfl (by decide) rfl (Nat.le_of_ble_eq_true rfl) (fun p e s m args below meth c Q ls hQ hx hb hr hts hown hlocks hml hW hK hl => ?_)
  have hl : lv_has ls 8 [(0, .ref (ad 0 (0))), (1, .ref (ad 7 (k))), (2, .ref (ad 4 (ia))), (3, .int (nI (rm))), (4, .int (nI (kf)))] := hl
  have hS := va_S.rf (A := wA LC ad) (H0 := s.heap)
  have hinX2 : ∀ w ∈ wsX20, w ∈ wsX5_firstOtherwise := by decide +kernel
  have hinX3 : ∀ w ∈ wsX30, w ∈ wsX5_firstOtherwise := by decide +kernel
  have hinX5 : ∀ w ∈ wsX50, w ∈ wsX5_firstOtherwise := by decide +kernel
  have hf10 := hts (.fieldLink RX5 10 "JoinedStores" "now" "LJoinedStores$Network;") (by decide +kernel)
  have hf51 := hts (.fieldLink RX5 51 "JoinedStores$Network" "dots" "LJoinedStores$Dots;") (by decide +kernel)
  have hf108 := hts (.fieldLink RX5 108 "JoinedStores$Network" "kinds" "[I") (by decide +kernel)
  have hf233 := hts (.fieldLink RX5 233 "JoinedStores$Sheet" "length" "I") (by decide +kernel)
  have hf256 := hts (.fieldLink RX5 256 "JoinedStores$Sheet" "items" "[I") (by decide +kernel)
  refine lv_iconst (v := nI 0) hx hb dX5_firstOtherwise_0 (by decide) ?_
  refine lv_istore (lv' := [(5, .int (nI (0))), (0, .ref (ad 0 (0))), (1, .ref (ad 7 (k))), (2, .ref (ad 4 (ia))), (3, .int (nI (rm))), (4, .int (nI (kf)))]) hx hb dX5_firstOtherwise_1 hl (by decide) rfl (fun ls hl => ?_)
  have K3 : ∀ (n : Nat) (i : Nat) (v : St), (i ≤ L) → (Sm gG I v) → (∀ j, j < i → foq I k ia rm kf j = false) → L < i + n → ∀ (H : Heap) (locs : List Loc), va_P D vwCl (wS LC ad (wC G ad v)) H → va_S (wA LC ad) s.heap H locs → ∀ (ls : Array Slot), lv_has ls 8 [(5, .int (nI (i))), (0, .ref (ad 0 (0))), (1, .ref (ad 7 (k))), (2, .ref (ad 4 (ia))), (3, .int (nI (rm))), (4, .int (nI (kf)))] → W p l e ({ frames := 5, cells := 0, slots := 0, locals := 247 } : Room) s m args below meth c H locs 0 0 Q (F0 m 3 ls []) := by
    intro n3
    induction n3 with
    | zero => intro i v hi hu hno hfu; exact absurd hfu (by omega)
    | succ n3 ih3 =>
      intro i v hi hu hno hfu H locs hW hS ls hl
      refine lv_iload hx hb dX5_firstOtherwise_3 (lv_at hl 0 rfl) ?_
      refine lv_aload_n hx hb dX5_firstOtherwise_5 rfl (lv_at hl 2 rfl) ?_
      refine r_get hx hb hts hown hK hW 7 (k) 1 (mC (by decide) (show k < 4 by omega)) rfl rfl hinX3 (by decide) hf233 rfl rfl dX5_firstOtherwise_6 (lv_topi (fun x1 ex1 => ?_))
      refine r_top (show x1 = nI (L) from (ex1.trans ((hu 7 _ _ (by intro q; exact absurd (show (7 : Nat) = 20 from q) (by decide))).trans hLe))) ?_
      refine lv_icmp_ge (tgt := 83) hx hb dX5_firstOtherwise_9 (by decide) (fun c9_1 => ?_) (fun c9_1 => ?_)
      · replace c9_1 : L ≤ i := (nI_leI (show L < 2147483648 by omega) (show i < 2147483648 by omega)).mp c9_1
        refine lv_iconst (v := (-1)) hx hb dX5_firstOtherwise_83 (by decide) ?_
        rw [hQ]
        exact g_iret (wd := wC G ad) hx hb hr rfl hlocks hW hS (by refine ⟨?_, hu⟩; have e4 : i = L := (by omega); subst e4; exact (fow_n hno).symm) dX5_firstOtherwise_84
      · replace c9_1 : ¬ (L ≤ i) := fun h => c9_1 ((nI_leI (show L < 2147483648 by omega) (show i < 2147483648 by omega)).mpr h)
        refine lv_iload hx hb dX5_firstOtherwise_12 (lv_at hl 0 rfl) ?_
        refine lv_iconst (v := nI 4) hx hb dX5_firstOtherwise_14 (by decide) ?_
        refine lv_icmp_ge (tgt := 83) hx hb dX5_firstOtherwise_15 (by decide) (fun c15_2 => absurd c15_2 (nI_ge (show i < 4 by omega) (by decide))) (fun c15_2 => ?_)
        replace c15_2 : ¬ (4 ≤ i) := fun h => c15_2 ((nI_leI (show 4 < 2147483648 by omega) (show i < 2147483648 by omega)).mpr h)
        refine lv_iload_n hx hb dX5_firstOtherwise_18 rfl (lv_at hl 4 rfl) ?_
        refine lv_iload hx hb dX5_firstOtherwise_19 (lv_at hl 0 rfl) ?_
        refine g_pi (va_runS (As := [.int (nI (rm)), .int (nI (i))]) (rest := []) ⟨hx, hb, hml, hown, hts⟩ (c_X5_objectAt l (rm) (i)) (va_cwS 2 hts gX5_firstOtherwise_X5_objectAt rfl rfl rfl (by decide +kernel) ⟨Nat.le_of_ble_eq_true rfl, Nat.le_of_ble_eq_true rfl⟩) p_preS rfl rfl hl.1 rfl (lv_room (Nat.le_of_ble_eq_true rfl)) dX5_firstOtherwise_21 ⟨Nat.le_refl _, Nat.le_refl _⟩) hW hS (fun H locs hW hS => ?_)
        refine lv_istore (lv' := [(6, .int (nI (rm * 4 + i))), (5, .int (nI (i))), (0, .ref (ad 0 (0))), (1, .ref (ad 7 (k))), (2, .ref (ad 4 (ia))), (3, .int (nI (rm))), (4, .int (nI (kf)))]) hx hb dX5_firstOtherwise_24 hl (by decide) rfl (fun ls hl => ?_)
        refine lv_iload hx hb dX5_firstOtherwise_26 (lv_at hl 1 rfl) ?_
        refine lv_if_ne (tgt := 36) hx hb dX5_firstOtherwise_28 (by decide) (fun c28_3 => ?_) (fun c28_3 => ?_)
        · replace c28_3 : ¬ i = 0 := fun h => c28_3 ((nI_eq (show i < 2147483648 by omega) (show 0 < 2147483648 by omega)).mpr h)
          refine lv_aload_n hx hb dX5_firstOtherwise_36 rfl (lv_at hl 2 rfl) ?_
          refine r_get hx hb hts hown hK hW 0 (0) 0 (mC (by decide) (by decide)) rfl rfl hinX5 (by decide) hf10 rfl rfl dX5_firstOtherwise_37 ?_
          refine r_get hx hb hts hown hK hW 1 (0) 1 (mC (by decide) (by decide)) rfl rfl hinX2 (by decide) hf108 rfl rfl dX5_firstOtherwise_40 ?_
          refine lv_iload hx hb dX5_firstOtherwise_43 (lv_at hl 0 rfl) ?_
          refine rC_iald hx hb hK hW 16 (0) (rm * 4 + i) (by decide) (by decide) (by decide) (show rm * 4 + i < 12 by omega) rfl dX5_firstOtherwise_45 (fun x5 ex5 => ?_)
          have hk6 := (hKd (rm * 4 + i) (by omega)).2
          refine r_top (show x5 = nI (kd I (rm * 4 + i)) from (ex5.trans ((hu 16 _ _ (by intro q; exact absurd (show (16 : Nat) = 20 from q) (by decide))).trans (hKd _ (by omega)).1))) ?_
          refine lv_istore (lv' := [(7, .int (nI (kd I (rm * 4 + i)))), (6, .int (nI (rm * 4 + i))), (5, .int (nI (i))), (0, .ref (ad 0 (0))), (1, .ref (ad 7 (k))), (2, .ref (ad 4 (ia))), (3, .int (nI (rm))), (4, .int (nI (kf)))]) hx hb dX5_firstOtherwise_46 hl (by decide) rfl (fun ls hl => ?_)
          refine lv_aload_n hx hb dX5_firstOtherwise_48 rfl (lv_at hl 4 rfl) ?_
          refine r_get hx hb hts hown hK hW 7 (k) 2 (mC (by decide) (show k < 4 by omega)) rfl rfl hinX3 (by decide) hf256 rfl rfl dX5_firstOtherwise_49 ?_
          refine lv_iload hx hb dX5_firstOtherwise_52 (lv_at hl 2 rfl) ?_
          refine rC_iald hx hb hK hW 19 (k) (i) (by decide) (by decide) (show k < 4 by omega) (show i < 40 by omega) rfl dX5_firstOtherwise_54 (fun x6 ex6 => ?_)
          refine lv_aload_n hx hb dX5_firstOtherwise_55 rfl (lv_at hl 3 rfl) ?_
          refine r_get hx hb hts hown hK hW 0 (0) 0 (mC (by decide) (by decide)) rfl rfl hinX5 (by decide) hf10 rfl rfl dX5_firstOtherwise_56 ?_
          refine r_get hx hb hts hown hK hW 1 (0) 0 (mC (by decide) (by decide)) rfl rfl hinX2 (by decide) hf51 rfl rfl dX5_firstOtherwise_59 ?_
          refine lv_aload_n hx hb dX5_firstOtherwise_62 rfl (lv_at hl 5 rfl) ?_
          refine lv_iload hx hb dX5_firstOtherwise_63 (lv_at hl 1 rfl) ?_
          refine lv_iload hx hb dX5_firstOtherwise_65 (lv_at hl 0 rfl) ?_
          refine g_cl (va_runV (As := [.ref (ad 4 (ia)), .int (nI (rm * 4 + i)), .int (nI (kd I (rm * 4 + i)))]) (rest := [.int (x6)]) ⟨hx, hb, hml, hown, hts⟩ (c_X0_worthAs l D G ad hI v ia (rm * 4 + i) (kd I (rm * 4 + i)) (show ia < 59 by omega) (show kd I (rm * 4 + i) < 6 by omega) (Sm.M hu.GC hM)) (cwV 3 hts gX5_firstOtherwise_X0_worthAs rfl rfl rfl (by decide +kernel) ⟨Nat.le_of_ble_eq_true rfl, Nat.le_of_ble_eq_true rfl⟩) (g_preV hK hW 5 (0) (mC (by decide) (by decide)) rfl rfl) rfl rfl hl.1 rfl (lv_room (Nat.le_of_ble_eq_true rfl)) dX5_firstOtherwise_67 ⟨Nat.le_refl _, Nat.le_refl _⟩) hS (fun x7 I7 H locs hp hW hS => ?_)
          obtain ⟨ex7, eI7⟩ := hp
          refine lv_l2i hx hb dX5_firstOtherwise_70 rfl ?_
          refine lv_icmp_eq (tgt := 77) hx hb dX5_firstOtherwise_71 (by decide) (fun c71_7 => ?_) (fun c71_7 => ?_)
          · refine lv_iinc (v := nI (i + 1)) (lv' := [(5, .int (nI (i + 1))), (7, .int (nI (kd I (rm * 4 + i)))), (6, .int (nI (rm * 4 + i))), (0, .ref (ad 0 (0))), (1, .ref (ad 7 (k))), (2, .ref (ad 4 (ia))), (3, .int (nI (rm))), (4, .int (nI (kf)))]) hx hb dX5_firstOtherwise_77 hl (k := 2) rfl (nI_inc i 1) (by decide) rfl (fun ls hl => ?_)
            refine lv_goto (tgt := 3) hx hb dX5_firstOtherwise_80 (by decide) ?_
            exact ih3 (i + 1) (I7) (by omega) (by subst eI7 ex7 ex6 ex5 ex1; exact Sm.gst (fun _ => rfl) hu _) (fun j hj => by rcases Nat.lt_succ_iff_lt_or_eq.mp hj with q9 | q9; exact hno j q9; subst q9; rw [foq]; simp only [decide_eq_false_iff_not, Decidable.not_not]; rw [if_neg c28_3, ← hu.wthG hM, ← hu 19 k _ (by intro q; exact absurd (show (19 : Nat) = 20 from q) (by decide))]; exact ex6.symm.trans (c71_7.trans (congrArg Int64.toInt32 ex7))) (by omega) _ _ hW hS _ (lv_sub hl [0, 3, 4, 5, 6, 7] rfl)
          · refine lv_iload hx hb dX5_firstOtherwise_74 (lv_at hl 2 rfl) ?_
            rw [hQ]
            exact g_iret (wd := wC G ad) hx hb hr rfl hlocks hW hS (by subst eI7 ex7 ex6 ex5 ex1; refine ⟨?_, Sm.gst (fun _ => rfl) hu _⟩; refine (fow_y (by omega) ?_ hno).symm; rw [foq]; simp only [decide_eq_true_eq]; rw [if_neg c28_3, ← hu.wthG hM, ← hu 19 k _ (by intro q; exact absurd (show (19 : Nat) = 20 from q) (by decide))]; assumption) dX5_firstOtherwise_76
        · replace c28_3 : i = 0 := (nI_eq (show i < 2147483648 by omega) (show 0 < 2147483648 by omega)).mp c28_3
          refine lv_iload hx hb dX5_firstOtherwise_31 (lv_at hl 6 rfl) ?_
          refine lv_goto (tgt := 46) hx hb dX5_firstOtherwise_33 (by decide) ?_
          refine lv_istore (lv' := [(7, .int (nI (kf))), (6, .int (nI (rm * 4 + i))), (5, .int (nI (i))), (0, .ref (ad 0 (0))), (1, .ref (ad 7 (k))), (2, .ref (ad 4 (ia))), (3, .int (nI (rm))), (4, .int (nI (kf)))]) hx hb dX5_firstOtherwise_46 hl (by decide) rfl (fun ls hl => ?_)
          refine lv_aload_n hx hb dX5_firstOtherwise_48 rfl (lv_at hl 4 rfl) ?_
          refine r_get hx hb hts hown hK hW 7 (k) 2 (mC (by decide) (show k < 4 by omega)) rfl rfl hinX3 (by decide) hf256 rfl rfl dX5_firstOtherwise_49 ?_
          refine lv_iload hx hb dX5_firstOtherwise_52 (lv_at hl 2 rfl) ?_
          refine rC_iald hx hb hK hW 19 (k) (i) (by decide) (by decide) (show k < 4 by omega) (show i < 40 by omega) rfl dX5_firstOtherwise_54 (fun x9 ex9 => ?_)
          refine lv_aload_n hx hb dX5_firstOtherwise_55 rfl (lv_at hl 3 rfl) ?_
          refine r_get hx hb hts hown hK hW 0 (0) 0 (mC (by decide) (by decide)) rfl rfl hinX5 (by decide) hf10 rfl rfl dX5_firstOtherwise_56 ?_
          refine r_get hx hb hts hown hK hW 1 (0) 0 (mC (by decide) (by decide)) rfl rfl hinX2 (by decide) hf51 rfl rfl dX5_firstOtherwise_59 ?_
          refine lv_aload_n hx hb dX5_firstOtherwise_62 rfl (lv_at hl 5 rfl) ?_
          refine lv_iload hx hb dX5_firstOtherwise_63 (lv_at hl 1 rfl) ?_
          refine lv_iload hx hb dX5_firstOtherwise_65 (lv_at hl 0 rfl) ?_
          refine g_cl (va_runV (As := [.ref (ad 4 (ia)), .int (nI (rm * 4 + i)), .int (nI (kf))]) (rest := [.int (x9)]) ⟨hx, hb, hml, hown, hts⟩ (c_X0_worthAs l D G ad hI v ia (rm * 4 + i) kf (show ia < 59 by omega) (show kf < 6 by omega) (Sm.M hu.GC hM)) (cwV 3 hts gX5_firstOtherwise_X0_worthAs rfl rfl rfl (by decide +kernel) ⟨Nat.le_of_ble_eq_true rfl, Nat.le_of_ble_eq_true rfl⟩) (g_preV hK hW 5 (0) (mC (by decide) (by decide)) rfl rfl) rfl rfl hl.1 rfl (lv_room (Nat.le_of_ble_eq_true rfl)) dX5_firstOtherwise_67 ⟨Nat.le_refl _, Nat.le_refl _⟩) hS (fun x10 I10 H locs hp hW hS => ?_)
          obtain ⟨ex10, eI10⟩ := hp
          refine lv_l2i hx hb dX5_firstOtherwise_70 rfl ?_
          refine lv_icmp_eq (tgt := 77) hx hb dX5_firstOtherwise_71 (by decide) (fun c71_10 => ?_) (fun c71_10 => ?_)
          · refine lv_iinc (v := nI (i + 1)) (lv' := [(5, .int (nI (i + 1))), (7, .int (nI (kf))), (6, .int (nI (rm * 4 + i))), (0, .ref (ad 0 (0))), (1, .ref (ad 7 (k))), (2, .ref (ad 4 (ia))), (3, .int (nI (rm))), (4, .int (nI (kf)))]) hx hb dX5_firstOtherwise_77 hl (k := 2) rfl (nI_inc i 1) (by decide) rfl (fun ls hl => ?_)
            refine lv_goto (tgt := 3) hx hb dX5_firstOtherwise_80 (by decide) ?_
            exact ih3 (i + 1) (I10) (by omega) (by subst eI10 ex10 ex9 ex1; exact Sm.gst (fun _ => rfl) hu _) (fun j hj => by rcases Nat.lt_succ_iff_lt_or_eq.mp hj with q9 | q9; exact hno j q9; subst q9; rw [foq]; simp only [decide_eq_false_iff_not, Decidable.not_not]; rw [if_pos c28_3, ← hu.wthG hM, ← hu 19 k _ (by intro q; exact absurd (show (19 : Nat) = 20 from q) (by decide))]; exact ex9.symm.trans (c71_10.trans (congrArg Int64.toInt32 ex10))) (by omega) _ _ hW hS _ (lv_sub hl [0, 3, 4, 5, 6, 7] rfl)
          · refine lv_iload hx hb dX5_firstOtherwise_74 (lv_at hl 2 rfl) ?_
            rw [hQ]
            exact g_iret (wd := wC G ad) hx hb hr rfl hlocks hW hS (by subst eI10 ex10 ex9 ex1; refine ⟨?_, Sm.gst (fun _ => rfl) hu _⟩; refine (fow_y (by omega) ?_ hno).symm; rw [foq]; simp only [decide_eq_true_eq]; rw [if_pos c28_3, ← hu.wthG hM, ← hu 19 k _ (by intro q; exact absurd (show (19 : Nat) = 20 from q) (by decide))]; assumption) dX5_firstOtherwise_76
  exact K3 (L + 1) (0) (I) (Nat.zero_le _) Sm.rf (fun j hj => absurd hj (Nat.not_lt_zero _)) (by omega) _ _ hW hS _ (lv_sub hl [0, 1, 2, 3, 4, 5] rfl)

set_option maxHeartbeats 4000000 in
set_option maxRecDepth 100000 in
theorem c_X5_replicasThatTell (l : Launch) (D : va_G) (G : Nat → ClassId) (ad : Nat → Nat → Nat) (hI : wI LC ad) (I : St) (k rm L : Nat) (hk4 : k < 4) (hrm : rm < 3) (hL4 : L ≤ 4) (hLe : I 7 k 1 = nI L) (hM : okM I) (hKd : okK I) : Met l yX5_replicasThatTell wsX5_replicasThatTell ({ frames := 6, cells := 0, slots := 0, locals := 274 } : Room) (gPre D G LC ad [.ref (ad 0 (0)), .ref (ad 7 (k)), .int (nI (rm))] (wC G ad I)) (gQi D LC ad (wC G ad) (fun r9 u => r9 = bits (fun q => decide (fo I k q rm (kd I (rm * 4)) L = -1)) 4 ∧ Sm gC I u)) 0 0 (wA LC ad) := by
  refine g_entry (C := RX5) (cc := cX5_replicasThatTell) (maxL := 5) (ret := (some .int)) rfl (by decide) rfl (Nat.le_of_ble_eq_true rfl) (fun p e s m args below meth c Q ls hQ hx hb hr hts hown hlocks hml hW hK hl => ?_)
  have hl : lv_has ls 5 [(0, .ref (ad 0 (0))), (1, .ref (ad 7 (k))), (2, .int (nI (rm)))] := hl
  have hS := va_S.rf (A := wA LC ad) (H0 := s.heap)
  have hinX2 : ∀ w ∈ wsX20, w ∈ wsX5_replicasThatTell := by decide +kernel
  have hinX5 : ∀ w ∈ wsX50, w ∈ wsX5_replicasThatTell := by decide +kernel
  have hf10 := hts (.fieldLink RX5 10 "JoinedStores" "now" "LJoinedStores$Network;") (by decide +kernel)
  have hf68 := hts (.fieldLink RX5 68 "JoinedStores$Network" "stores" "[LJoinedStores$Store;") (by decide +kernel)
  have hw6 := True.intro
  refine lv_iconst (v := nI 0) hx hb dX5_replicasThatTell_0 (by decide) ?_
  refine lv_istore_n (lv' := [(3, .int (nI (0))), (0, .ref (ad 0 (0))), (1, .ref (ad 7 (k))), (2, .int (nI (rm)))]) hx hb dX5_replicasThatTell_1 rfl hl (by decide) rfl (fun ls hl => ?_)
  refine lv_iconst (v := nI 0) hx hb dX5_replicasThatTell_2 (by decide) ?_
  refine lv_istore (lv' := [(4, .int (nI (0))), (3, .int (nI (0))), (0, .ref (ad 0 (0))), (1, .ref (ad 7 (k))), (2, .int (nI (rm)))]) hx hb dX5_replicasThatTell_3 hl (by decide) rfl (fun ls hl => ?_)
  have K5 : ∀ (n : Nat) (i : Nat) (d : Int32) (v : St), (i ≤ 4) → (Sm gC I v) → (d = bits (fun q => decide (fo I k q rm (kd I (rm * 4)) L = -1)) i) → 4 < i + n → ∀ (H : Heap) (locs : List Loc), va_P D vwCl (wS LC ad (wC G ad v)) H → va_S (wA LC ad) s.heap H locs → ∀ (ls : Array Slot), lv_has ls 5 [(4, .int (nI (i))), (3, .int (d)), (0, .ref (ad 0 (0))), (1, .ref (ad 7 (k))), (2, .int (nI (rm)))] → W p l e ({ frames := 6, cells := 0, slots := 0, locals := 274 } : Room) s m args below meth c H locs 0 0 Q (F0 m 5 ls []) := by
    intro n5
    induction n5 with
    | zero => intro i d v hi hu hd hfu; exact absurd hfu (by omega)
    | succ n5 ih5 =>
      intro i d v hi hu hd hfu H locs hW hS ls hl
      refine lv_iload hx hb dX5_replicasThatTell_5 (lv_at hl 0 rfl) ?_
      refine lv_iconst (v := nI 4) hx hb dX5_replicasThatTell_7 (by decide) ?_
      refine lv_icmp_ge (tgt := 49) hx hb dX5_replicasThatTell_8 (by decide) (fun c8_0 => ?_) (fun c8_0 => ?_)
      · replace c8_0 : 4 ≤ i := (nI_leI (show 4 < 2147483648 by omega) (show i < 2147483648 by omega)).mp c8_0
        refine lv_iload_n hx hb dX5_replicasThatTell_49 rfl (lv_at hl 1 rfl) ?_
        rw [hQ]
        exact g_iret (wd := wC G ad) hx hb hr rfl hlocks hW hS (by have e4 : i = 4 := (by omega); subst e4; exact ⟨hd, hu⟩) dX5_replicasThatTell_50
      · replace c8_0 : ¬ (4 ≤ i) := fun h => c8_0 ((nI_leI (show 4 < 2147483648 by omega) (show i < 2147483648 by omega)).mpr h)
        refine lv_aload_n hx hb dX5_replicasThatTell_11 rfl (lv_at hl 2 rfl) ?_
        refine lv_aload_n hx hb dX5_replicasThatTell_12 rfl (lv_at hl 3 rfl) ?_
        refine lv_aload_n hx hb dX5_replicasThatTell_13 rfl (lv_at hl 2 rfl) ?_
        refine r_get hx hb hts hown hK hW 0 (0) 0 (mC (by decide) (by decide)) rfl rfl hinX5 (by decide) hf10 rfl rfl dX5_replicasThatTell_14 ?_
        refine r_get hx hb hts hown hK hW 1 (0) 2 (mC (by decide) (by decide)) rfl rfl hinX2 (by decide) hf68 rfl rfl dX5_replicasThatTell_17 ?_
        refine lv_iload hx hb dX5_replicasThatTell_20 (lv_at hl 0 rfl) ?_
        refine r_aald hx hb hK hW 1 3 (0) (i) (mC (by decide) (by decide)) rfl rfl (show i < 4 by omega) (by decide) rfl rfl dX5_replicasThatTell_22 ?_
        refine lv_iload_n hx hb dX5_replicasThatTell_23 rfl (lv_at hl 4 rfl) ?_
        refine lv_aload_n hx hb dX5_replicasThatTell_24 rfl (lv_at hl 2 rfl) ?_
        refine lv_iload_n hx hb dX5_replicasThatTell_25 rfl (lv_at hl 4 rfl) ?_
        refine g_ci (va_runV (As := [.int (nI (rm))]) (rest := [.int (nI (rm)), .ref (ad 4 (i)), .ref (ad 7 (k)), .ref (ad 0 (0))]) ⟨hx, hb, hml, hown, hts⟩ (c_X5_kindOfFirst l D G ad hI v rm (show rm < 3 by omega) (Sm.K hu hKd)) (cwV 1 hts gX5_replicasThatTell_X5_kindOfFirst rfl rfl rfl (by decide +kernel) ⟨Nat.le_of_ble_eq_true rfl, Nat.le_of_ble_eq_true rfl⟩) (g_preV hK hW 0 (0) (mC (by decide) (by decide)) rfl rfl) rfl rfl hl.1 rfl (lv_room (Nat.le_of_ble_eq_true rfl)) dX5_replicasThatTell_26 ⟨Nat.le_refl _, Nat.le_refl _⟩) hS (fun x2 I2 H locs hp hW hS => ?_)
        obtain ⟨ex2, eI2⟩ := hp
        rw [eI2] at hW
        clear eI2
        refine r_top ex2 ?_
        have hkf6 := ((hu.K hKd) (rm * 4) (by omega)).2
        refine g_ci (va_runV (As := [.ref (ad 7 (k)), .ref (ad 4 (i)), .int (nI (rm)), .int (nI (kd v (rm * 4)))]) (rest := []) ⟨hx, hb, hml, hown, hts⟩ (c_X5_firstOtherwise l D G ad hI v k i rm (kd v (rm * 4)) L (show k < 4 by omega) (show i < 59 by omega) (show rm < 3 by omega) (show kd v (rm * 4) < 6 by omega) hL4 ((Sm.e hu (by decide) (by decide) (by decide)).trans hLe) (Sm.M hu hM) (Sm.K hu hKd)) (cwV 4 hts gX5_replicasThatTell_X5_firstOtherwise rfl rfl rfl (by decide +kernel) ⟨Nat.le_of_ble_eq_true rfl, Nat.le_of_ble_eq_true rfl⟩) (g_preV hK hW 0 (0) (mC (by decide) (by decide)) rfl rfl) rfl rfl hl.1 rfl (lv_room (Nat.le_of_ble_eq_true rfl)) dX5_replicasThatTell_29 ⟨Nat.le_refl _, Nat.le_refl _⟩) hS (fun x3 I3 H locs hp hW hS => ?_)
        obtain ⟨ex3, hs3⟩ := hp
        have hu3 : Sm gC I I3 := Sm.tr hu hs3.GC
        have ef : x3 = fo I k i rm (kd I (rm * 4)) L := by rw [ex3, hu.kd, hu.fo hM (fun r9 _ => hu 11 i r9 (gC_lo (by decide) (by omega)))]
        have hPy : x3 = -1 → decide (fo I k i rm (kd I (rm * 4)) L = -1) = true := fun q9 => decide_eq_true (ef.symm.trans q9)
        have hPn : decide (fo I k i rm (kd I (rm * 4)) L = -1) = true → x3 = -1 := fun q9 => ef.trans (of_decide_eq_true q9)
        refine lv_iconst (v := (-1)) hx hb dX5_replicasThatTell_32 (by decide) ?_
        refine lv_icmp_ne (tgt := 43) hx hb dX5_replicasThatTell_33 (by decide) (fun c33_3 => ?_) (fun c33_3 => ?_)
        · refine lv_iinc (v := nI (i + 1)) (lv' := [(4, .int (nI (i + 1))), (3, .int (d)), (0, .ref (ad 0 (0))), (1, .ref (ad 7 (k))), (2, .int (nI (rm)))]) hx hb dX5_replicasThatTell_43 hl (k := 0) rfl (nI_inc i 1) (by decide) rfl (fun ls hl => ?_)
          refine lv_goto (tgt := 5) hx hb dX5_replicasThatTell_46 (by decide) ?_
          exact ih5 (i + 1) (d) (I3) (by omega) hu3 (by rw [bits, if_neg (fun q9 => c33_3 (hPn q9)), hd]) (by omega) _ _ hW hS _ (lv_sub hl [0, 1, 2, 3, 4] rfl)
        · refine lv_iload_n hx hb dX5_replicasThatTell_36 rfl (lv_at hl 1 rfl) ?_
          refine lv_iconst (v := nI 1) hx hb dX5_replicasThatTell_37 (by decide) ?_
          refine lv_iload hx hb dX5_replicasThatTell_38 (lv_at hl 0 rfl) ?_
          refine lv_ishl hx hb dX5_replicasThatTell_40 (lv_topi (fun x5 ex5 => ?_))
          replace ex5 : x5 = b1 i := ex5
          refine lv_ior hx hb dX5_replicasThatTell_41 (lv_topi (fun x6 ex6 => ?_))
          refine lv_istore_n (lv' := [(3, .int (x6)), (4, .int (nI (i))), (0, .ref (ad 0 (0))), (1, .ref (ad 7 (k))), (2, .int (nI (rm)))]) hx hb dX5_replicasThatTell_42 rfl hl (by decide) rfl (fun ls hl => ?_)
          refine lv_iinc (v := nI (i + 1)) (lv' := [(4, .int (nI (i + 1))), (3, .int (x6)), (0, .ref (ad 0 (0))), (1, .ref (ad 7 (k))), (2, .int (nI (rm)))]) hx hb dX5_replicasThatTell_43 hl (k := 1) rfl (nI_inc i 1) (by decide) rfl (fun ls hl => ?_)
          refine lv_goto (tgt := 5) hx hb dX5_replicasThatTell_46 (by decide) ?_
          exact ih5 (i + 1) (x6) (I3) (by omega) hu3 (by rw [bits, if_pos (hPy c33_3)]; subst ex6 ex5 ex3 ex2; rw [hd]) (by omega) _ _ hW hS _ (lv_sub hl [0, 1, 2, 3, 4] rfl)
  exact K5 (4 + 1) (0) (nI (0)) (I) (Nat.zero_le _) Sm.rf rfl (by omega) _ _ hW hS _ (lv_sub hl [0, 1, 2, 3, 4] rfl)

set_option maxHeartbeats 4000000 in
set_option maxRecDepth 100000 in
theorem c_X5_kindsThatTell (l : Launch) (D : va_G) (G : Nat → ClassId) (ad : Nat → Nat → Nat) (hI : wI LC ad) (I : St) (k r rm L : Nat) (hk4 : k < 4) (hr4 : r < 4) (hrm : rm < 3) (hL4 : L ≤ 4) (hLe : I 7 k 1 = nI L) (hM : okM I) (hKd : okK I) : Met l yX5_kindsThatTell wsX5_kindsThatTell ({ frames := 6, cells := 0, slots := 0, locals := 274 } : Room) (gPre D G LC ad [.ref (ad 0 (0)), .ref (ad 7 (k)), .int (nI (r)), .int (nI (rm))] (wC G ad I)) (gQi D LC ad (wC G ad) (fun r9 u => r9 = bits (fun q => decide (fo I k r rm q L = -1)) 6 ∧ Sm gC I u)) 0 0 (wA LC ad) := by
  refine g_entry (C := RX5) (cc := cX5_kindsThatTell) (maxL := 6) (ret := (some .int)) rfl (by decide) rfl (Nat.le_of_ble_eq_true rfl) (fun p e s m args below meth c Q ls hQ hx hb hr hts hown hlocks hml hW hK hl => ?_)
  have hl : lv_has ls 6 [(0, .ref (ad 0 (0))), (1, .ref (ad 7 (k))), (2, .int (nI (r))), (3, .int (nI (rm)))] := hl
  have hS := va_S.rf (A := wA LC ad) (H0 := s.heap)
  have hinX2 : ∀ w ∈ wsX20, w ∈ wsX5_kindsThatTell := by decide +kernel
  have hinX5 : ∀ w ∈ wsX50, w ∈ wsX5_kindsThatTell := by decide +kernel
  have hf10 := hts (.fieldLink RX5 10 "JoinedStores" "now" "LJoinedStores$Network;") (by decide +kernel)
  have hf68 := hts (.fieldLink RX5 68 "JoinedStores$Network" "stores" "[LJoinedStores$Store;") (by decide +kernel)
  have hw6 := True.intro
  refine lv_iconst (v := nI 0) hx hb dX5_kindsThatTell_0 (by decide) ?_
  refine lv_istore (lv' := [(4, .int (nI (0))), (0, .ref (ad 0 (0))), (1, .ref (ad 7 (k))), (2, .int (nI (r))), (3, .int (nI (rm)))]) hx hb dX5_kindsThatTell_1 hl (by decide) rfl (fun ls hl => ?_)
  refine lv_iconst (v := nI 0) hx hb dX5_kindsThatTell_3 (by decide) ?_
  refine lv_istore (lv' := [(5, .int (nI (0))), (4, .int (nI (0))), (0, .ref (ad 0 (0))), (1, .ref (ad 7 (k))), (2, .int (nI (r))), (3, .int (nI (rm)))]) hx hb dX5_kindsThatTell_4 hl (by decide) rfl (fun ls hl => ?_)
  have K6 : ∀ (n : Nat) (i : Nat) (d : Int32) (v : St), (i ≤ 6) → (Sm gC I v) → (d = bits (fun q => decide (fo I k r rm q L = -1)) i) → 6 < i + n → ∀ (H : Heap) (locs : List Loc), va_P D vwCl (wS LC ad (wC G ad v)) H → va_S (wA LC ad) s.heap H locs → ∀ (ls : Array Slot), lv_has ls 6 [(5, .int (nI (i))), (4, .int (d)), (0, .ref (ad 0 (0))), (1, .ref (ad 7 (k))), (2, .int (nI (r))), (3, .int (nI (rm)))] → W p l e ({ frames := 6, cells := 0, slots := 0, locals := 274 } : Room) s m args below meth c H locs 0 0 Q (F0 m 6 ls []) := by
    intro n6
    induction n6 with
    | zero => intro i d v hi hu hd hfu; exact absurd hfu (by omega)
    | succ n6 ih6 =>
      intro i d v hi hu hd hfu H locs hW hS ls hl
      refine lv_iload hx hb dX5_kindsThatTell_6 (lv_at hl 0 rfl) ?_
      refine lv_bipush (v := nI 6) hx hb dX5_kindsThatTell_8 (by decide) ?_
      refine lv_icmp_ge (tgt := 49) hx hb dX5_kindsThatTell_10 (by decide) (fun c10_0 => ?_) (fun c10_0 => ?_)
      · replace c10_0 : 6 ≤ i := (nI_leI (show 6 < 2147483648 by omega) (show i < 2147483648 by omega)).mp c10_0
        refine lv_iload hx hb dX5_kindsThatTell_49 (lv_at hl 1 rfl) ?_
        rw [hQ]
        exact g_iret (wd := wC G ad) hx hb hr rfl hlocks hW hS (by have e4 : i = 6 := (by omega); subst e4; exact ⟨hd, hu⟩) dX5_kindsThatTell_51
      · replace c10_0 : ¬ (6 ≤ i) := fun h => c10_0 ((nI_leI (show 6 < 2147483648 by omega) (show i < 2147483648 by omega)).mpr h)
        refine lv_aload_n hx hb dX5_kindsThatTell_13 rfl (lv_at hl 2 rfl) ?_
        refine lv_aload_n hx hb dX5_kindsThatTell_14 rfl (lv_at hl 3 rfl) ?_
        refine lv_aload_n hx hb dX5_kindsThatTell_15 rfl (lv_at hl 2 rfl) ?_
        refine r_get hx hb hts hown hK hW 0 (0) 0 (mC (by decide) (by decide)) rfl rfl hinX5 (by decide) hf10 rfl rfl dX5_kindsThatTell_16 ?_
        refine r_get hx hb hts hown hK hW 1 (0) 2 (mC (by decide) (by decide)) rfl rfl hinX2 (by decide) hf68 rfl rfl dX5_kindsThatTell_19 ?_
        refine lv_iload_n hx hb dX5_kindsThatTell_22 rfl (lv_at hl 4 rfl) ?_
        refine r_aald hx hb hK hW 1 3 (0) (r) (mC (by decide) (by decide)) rfl rfl (show r < 4 by omega) (by decide) rfl rfl dX5_kindsThatTell_23 ?_
        refine lv_iload_n hx hb dX5_kindsThatTell_24 rfl (lv_at hl 5 rfl) ?_
        refine lv_iload hx hb dX5_kindsThatTell_25 (lv_at hl 0 rfl) ?_
        refine g_ci (va_runV (As := [.ref (ad 7 (k)), .ref (ad 4 (r)), .int (nI (rm)), .int (nI (i))]) (rest := []) ⟨hx, hb, hml, hown, hts⟩ (c_X5_firstOtherwise l D G ad hI v k r rm i L (show k < 4 by omega) (show r < 59 by omega) (show rm < 3 by omega) (show i < 6 by omega) hL4 ((Sm.e hu (by decide) (by decide) (by decide)).trans hLe) (Sm.M hu hM) (Sm.K hu hKd)) (cwV 4 hts gX5_kindsThatTell_X5_firstOtherwise rfl rfl rfl (by decide +kernel) ⟨Nat.le_of_ble_eq_true rfl, Nat.le_of_ble_eq_true rfl⟩) (g_preV hK hW 0 (0) (mC (by decide) (by decide)) rfl rfl) rfl rfl hl.1 rfl (lv_room (Nat.le_of_ble_eq_true rfl)) dX5_kindsThatTell_27 ⟨Nat.le_refl _, Nat.le_refl _⟩) hS (fun x2 I2 H locs hp hW hS => ?_)
        obtain ⟨ex2, hs2⟩ := hp
        have hu2 : Sm gC I I2 := Sm.tr hu hs2.GC
        have ef : x2 = fo I k r rm i L := by rw [ex2, hu.fo hM (fun r9 _ => hu 11 r r9 (gC_lo (by decide) (by omega)))]
        have hPy : x2 = -1 → decide (fo I k r rm i L = -1) = true := fun q9 => decide_eq_true (ef.symm.trans q9)
        have hPn : decide (fo I k r rm i L = -1) = true → x2 = -1 := fun q9 => ef.trans (of_decide_eq_true q9)
        refine lv_iconst (v := (-1)) hx hb dX5_kindsThatTell_30 (by decide) ?_
        refine lv_icmp_ne (tgt := 43) hx hb dX5_kindsThatTell_31 (by decide) (fun c31_2 => ?_) (fun c31_2 => ?_)
        · refine lv_iinc (v := nI (i + 1)) (lv' := [(5, .int (nI (i + 1))), (4, .int (d)), (0, .ref (ad 0 (0))), (1, .ref (ad 7 (k))), (2, .int (nI (r))), (3, .int (nI (rm)))]) hx hb dX5_kindsThatTell_43 hl (k := 0) rfl (nI_inc i 1) (by decide) rfl (fun ls hl => ?_)
          refine lv_goto (tgt := 6) hx hb dX5_kindsThatTell_46 (by decide) ?_
          exact ih6 (i + 1) (d) (I2) (by omega) hu2 (by rw [bits, if_neg (fun q9 => c31_2 (hPn q9)), hd]) (by omega) _ _ hW hS _ (lv_sub hl [0, 1, 2, 3, 4, 5] rfl)
        · refine lv_iload hx hb dX5_kindsThatTell_34 (lv_at hl 1 rfl) ?_
          refine lv_iconst (v := nI 1) hx hb dX5_kindsThatTell_36 (by decide) ?_
          refine lv_iload hx hb dX5_kindsThatTell_37 (lv_at hl 0 rfl) ?_
          refine lv_ishl hx hb dX5_kindsThatTell_39 (lv_topi (fun x4 ex4 => ?_))
          replace ex4 : x4 = b1 i := ex4
          refine lv_ior hx hb dX5_kindsThatTell_40 (lv_topi (fun x5 ex5 => ?_))
          refine lv_istore (lv' := [(4, .int (x5)), (5, .int (nI (i))), (0, .ref (ad 0 (0))), (1, .ref (ad 7 (k))), (2, .int (nI (r))), (3, .int (nI (rm)))]) hx hb dX5_kindsThatTell_41 hl (by decide) rfl (fun ls hl => ?_)
          refine lv_iinc (v := nI (i + 1)) (lv' := [(5, .int (nI (i + 1))), (4, .int (x5)), (0, .ref (ad 0 (0))), (1, .ref (ad 7 (k))), (2, .int (nI (r))), (3, .int (nI (rm)))]) hx hb dX5_kindsThatTell_43 hl (k := 1) rfl (nI_inc i 1) (by decide) rfl (fun ls hl => ?_)
          refine lv_goto (tgt := 6) hx hb dX5_kindsThatTell_46 (by decide) ?_
          exact ih6 (i + 1) (x5) (I2) (by omega) hu2 (by rw [bits, if_pos (hPy c31_2)]; subst ex5 ex4 ex2; rw [hd]) (by omega) _ _ hW hS _ (lv_sub hl [0, 1, 2, 3, 4, 5] rfl)
  exact K6 (6 + 1) (0) (nI (0)) (I) (Nat.zero_le _) Sm.rf rfl (by omega) _ _ hW hS _ (lv_sub hl [0, 1, 2, 3, 4, 5] rfl)

set_option maxHeartbeats 4000000 in
set_option maxRecDepth 100000 in
theorem c_X5_messagesThatTell (l : Launch) (D : va_G) (G : Nat → ClassId) (ad : Nat → Nat → Nat) (hI : wI LC ad) (I : St) (k r rm L : Nat) (hk4 : k < 4) (hr4 : r < 4) (hrm : rm < 3) (hL4 : L ≤ 4) (hLe : I 7 k 1 = nI L) (hM : okM I) (hKd : okK I) (hT : okT I) (hWt : okW I) : Met l yX5_messagesThatTell wsX5_messagesThatTell ({ frames := 6, cells := 0, slots := 0, locals := 274 } : Room) (gPre D G LC ad [.ref (ad 0 (0)), .ref (ad 7 (k)), .int (nI (r)), .int (nI (rm))] (wC G ad I)) (gQi D LC ad (wC G ad) (fun r9 u => r9 = bits (fun q => tb (mtoP I r (wt I)) q && decide (fo (tcP I r (b1 q) (wt I)) k 34 rm (kd I (rm * 4)) L = -1)) (wt I) ∧ Sm gC I u)) 0 0 (wA LC ad) := by
  refine g_entry (C := RX5) (cc := cX5_messagesThatTell) (maxL := 7) (ret := (some .int)) rfl (by decide) rfl (Nat.le_of_ble_eq_true rfl) (fun p e s m args below meth c Q ls hQ hx hb hr hts hown hlocks hml hW hK hl => ?_)
  have hl : lv_has ls 7 [(0, .ref (ad 0 (0))), (1, .ref (ad 7 (k))), (2, .int (nI (r))), (3, .int (nI (rm)))] := hl
  have hS := va_S.rf (A := wA LC ad) (H0 := s.heap)
  have hinX2 : ∀ w ∈ wsX20, w ∈ wsX5_messagesThatTell := by decide +kernel
  have hinX5 : ∀ w ∈ wsX50, w ∈ wsX5_messagesThatTell := by decide +kernel
  have hf10 := hts (.fieldLink RX5 10 "JoinedStores" "now" "LJoinedStores$Network;") (by decide +kernel)
  have hf35 := hts (.fieldLink RX5 35 "JoinedStores" "thought" "LJoinedStores$Store;") (by decide +kernel)
  have hf148 := hts (.fieldLink RX5 148 "JoinedStores$Network" "waits" "I") (by decide +kernel)
  have hw6 := hT.2
  refine lv_iconst (v := nI 0) hx hb dX5_messagesThatTell_0 (by decide) ?_
  refine lv_istore (lv' := [(4, .int (nI (0))), (0, .ref (ad 0 (0))), (1, .ref (ad 7 (k))), (2, .int (nI (r))), (3, .int (nI (rm)))]) hx hb dX5_messagesThatTell_1 hl (by decide) rfl (fun ls hl => ?_)
  refine lv_aload_n hx hb dX5_messagesThatTell_3 rfl (lv_at hl 1 rfl) ?_
  refine lv_iload_n hx hb dX5_messagesThatTell_4 rfl (lv_at hl 3 rfl) ?_
  refine g_ci (va_runV (As := [.int (nI (r))]) (rest := []) ⟨hx, hb, hml, hown, hts⟩ (c_X5_messagesTo l D G ad hI I r (show r < 4 by omega) hT hWt) (cwV 1 hts gX5_messagesThatTell_X5_messagesTo rfl rfl rfl (by decide +kernel) ⟨Nat.le_of_ble_eq_true rfl, Nat.le_of_ble_eq_true rfl⟩) (g_preV hK hW 0 (0) (mC (by decide) (by decide)) rfl rfl) rfl rfl hl.1 rfl (lv_room (Nat.le_of_ble_eq_true rfl)) dX5_messagesThatTell_5 ⟨Nat.le_refl _, Nat.le_refl _⟩) hS (fun x1 I1 H locs hp hW hS => ?_)
  obtain ⟨ex1, eI1⟩ := hp
  rw [eI1] at hW
  clear eI1
  refine lv_istore (lv' := [(5, .int (x1)), (4, .int (nI (0))), (0, .ref (ad 0 (0))), (1, .ref (ad 7 (k))), (2, .int (nI (r))), (3, .int (nI (rm)))]) hx hb dX5_messagesThatTell_8 hl (by decide) rfl (fun ls hl => ?_)
  refine lv_iconst (v := nI 0) hx hb dX5_messagesThatTell_10 (by decide) ?_
  refine lv_istore (lv' := [(6, .int (nI (0))), (5, .int (x1)), (4, .int (nI (0))), (0, .ref (ad 0 (0))), (1, .ref (ad 7 (k))), (2, .int (nI (r))), (3, .int (nI (rm)))]) hx hb dX5_messagesThatTell_11 hl (by decide) rfl (fun ls hl => ?_)
  have K13 : ∀ (n : Nat) (i : Nat) (d : Int32) (v : St), (i ≤ wt I) → (Sm gC I v) → (d = bits (fun q => tb (mtoP I r (wt I)) q && decide (fo (tcP I r (b1 q) (wt I)) k 34 rm (kd I (rm * 4)) L = -1)) i) → (wt I) < i + n → ∀ (H : Heap) (locs : List Loc), va_P D vwCl (wS LC ad (wC G ad v)) H → va_S (wA LC ad) s.heap H locs → ∀ (ls : Array Slot), lv_has ls 7 [(6, .int (nI (i))), (5, .int (x1)), (4, .int (d)), (0, .ref (ad 0 (0))), (1, .ref (ad 7 (k))), (2, .int (nI (r))), (3, .int (nI (rm)))] → W p l e ({ frames := 6, cells := 0, slots := 0, locals := 274 } : Room) s m args below meth c H locs 0 0 Q (F0 m 13 ls []) := by
    intro n13
    induction n13 with
    | zero => intro i d v hi hu hd hfu; exact absurd hfu (by omega)
    | succ n13 ih13 =>
      intro i d v hi hu hd hfu H locs hW hS ls hl
      refine lv_iload hx hb dX5_messagesThatTell_13 (lv_at hl 0 rfl) ?_
      refine lv_aload_n hx hb dX5_messagesThatTell_15 rfl (lv_at hl 3 rfl) ?_
      refine r_get hx hb hts hown hK hW 0 (0) 0 (mC (by decide) (by decide)) rfl rfl hinX5 (by decide) hf10 rfl rfl dX5_messagesThatTell_16 ?_
      refine r_get hx hb hts hown hK hW 1 (0) 6 (mC (by decide) (by decide)) rfl rfl hinX2 (by decide) hf148 rfl rfl dX5_messagesThatTell_19 (lv_topi (fun x2 ex2 => ?_))
      refine r_top (show x2 = nI (wt I) from (ex2.trans ((hu.e (by decide) (by decide) (by decide)).trans hT.1))) ?_
      refine lv_icmp_ge (tgt := 79) hx hb dX5_messagesThatTell_22 (by decide) (fun c22_2 => ?_) (fun c22_2 => ?_)
      · replace c22_2 : wt I ≤ i := (nI_leI (show wt I < 2147483648 by omega) (show i < 2147483648 by omega)).mp c22_2
        refine lv_iload hx hb dX5_messagesThatTell_79 (lv_at hl 2 rfl) ?_
        rw [hQ]
        exact g_iret (wd := wC G ad) hx hb hr rfl hlocks hW hS (by have e4 : i = wt I := (by omega); subst e4; exact ⟨hd, hu⟩) dX5_messagesThatTell_81
      · replace c22_2 : ¬ (wt I ≤ i) := fun h => c22_2 ((nI_leI (show wt I < 2147483648 by omega) (show i < 2147483648 by omega)).mpr h)
        refine lv_iload hx hb dX5_messagesThatTell_25 (lv_at hl 1 rfl) ?_
        refine lv_iload hx hb dX5_messagesThatTell_27 (lv_at hl 0 rfl) ?_
        refine lv_iushr hx hb dX5_messagesThatTell_29 rfl (lv_topi (fun x4 ex4 => ?_))
        replace ex4 : x4 = us x1 (nI (i)) := ex4
        refine lv_iconst (v := nI 1) hx hb dX5_messagesThatTell_30 (by decide) ?_
        refine lv_iand hx hb dX5_messagesThatTell_31 (lv_topi (fun x5 ex5 => ?_))
        refine lv_iconst (v := nI 1) hx hb dX5_messagesThatTell_32 (by decide) ?_
        refine lv_icmp_ne (tgt := 73) hx hb dX5_messagesThatTell_33 (by decide) (fun c33_5 => ?_) (fun c33_5 => ?_)
        · replace c33_5 : ¬ us (mtoP I r (wt I)) (nI i) &&& nI 1 = nI 1 := by rw [← ex1, ← ex4, ← ex5]; exact c33_5
          refine lv_iinc (v := nI (i + 1)) (lv' := [(6, .int (nI (i + 1))), (5, .int (x1)), (4, .int (d)), (0, .ref (ad 0 (0))), (1, .ref (ad 7 (k))), (2, .int (nI (r))), (3, .int (nI (rm)))]) hx hb dX5_messagesThatTell_73 hl (k := 0) rfl (nI_inc i 1) (by decide) rfl (fun ls hl => ?_)
          refine lv_goto (tgt := 13) hx hb dX5_messagesThatTell_76 (by decide) ?_
          exact ih13 (i + 1) (d) (v) (by omega) hu (by rw [bits, if_neg (show ¬ (tb (mtoP I r (wt I)) i && decide (fo (tcP I r (b1 i) (wt I)) k 34 rm (kd I (rm * 4)) L = -1)) = true from fun q9 => c33_5 (of_decide_eq_true (okAnd q9).1))]; exact hd) (by omega) _ _ hW hS _ (lv_sub hl [0, 1, 2, 3, 4, 5, 6] rfl)
        · have htb : tb (mtoP I r (wt I)) i = true := decide_eq_true (by rw [← ex1, ← ex4, ← ex5]; exact c33_5)
          refine lv_aload_n hx hb dX5_messagesThatTell_36 rfl (lv_at hl 3 rfl) ?_
          refine lv_iload_n hx hb dX5_messagesThatTell_37 rfl (lv_at hl 5 rfl) ?_
          refine lv_iconst (v := nI 1) hx hb dX5_messagesThatTell_38 (by decide) ?_
          refine lv_iload hx hb dX5_messagesThatTell_39 (lv_at hl 0 rfl) ?_
          refine lv_ishl hx hb dX5_messagesThatTell_41 (lv_topi (fun x7 ex7 => ?_))
          replace ex7 : x7 = b1 i := ex7
          refine g_cv (va_runV (As := [.int (nI (r)), .int (x7)]) (rest := []) ⟨hx, hb, hml, hown, hts⟩ (c_X5_thinkComing l D G ad hI v r x7 (show r < 4 by omega) (Sm.T hu hT) (Sm.W hu hWt)) (cwV 2 hts gX5_messagesThatTell_X5_thinkComing rfl rfl rfl (by decide +kernel) ⟨Nat.le_of_ble_eq_true rfl, Nat.le_of_ble_eq_true rfl⟩) (g_preV hK hW 0 (0) (mC (by decide) (by decide)) rfl rfl) rfl rfl hl.1 rfl (lv_room (Nat.le_of_ble_eq_true rfl)) dX5_messagesThatTell_42 ⟨Nat.le_refl _, Nat.le_refl _⟩) hS (fun I8 H locs hp hW hS => ?_)
          have eI8 : I8 = tcP v r x7 (wt v) := hp
          have huI8 : Sm gC I I8 := by rw [eI8]; exact Sm.tcP hu _ _ _
          refine lv_aload_n hx hb dX5_messagesThatTell_45 rfl (lv_at hl 3 rfl) ?_
          refine lv_aload_n hx hb dX5_messagesThatTell_46 rfl (lv_at hl 4 rfl) ?_
          refine lv_aload_n hx hb dX5_messagesThatTell_47 rfl (lv_at hl 3 rfl) ?_
          refine r_get hx hb hts hown hK hW 0 (0) 6 (mC (by decide) (by decide)) rfl rfl hinX5 (by decide) hf35 rfl rfl dX5_messagesThatTell_48 ?_
          refine lv_iload_n hx hb dX5_messagesThatTell_51 rfl (lv_at hl 6 rfl) ?_
          refine lv_aload_n hx hb dX5_messagesThatTell_52 rfl (lv_at hl 3 rfl) ?_
          refine lv_iload_n hx hb dX5_messagesThatTell_53 rfl (lv_at hl 6 rfl) ?_
          refine g_ci (va_runV (As := [.int (nI (rm))]) (rest := [.int (nI (rm)), .ref (ad 4 (34)), .ref (ad 7 (k)), .ref (ad 0 (0))]) ⟨hx, hb, hml, hown, hts⟩ (c_X5_kindOfFirst l D G ad hI I8 rm (show rm < 3 by omega) (Sm.K huI8 hKd)) (cwV 1 hts gX5_messagesThatTell_X5_kindOfFirst rfl rfl rfl (by decide +kernel) ⟨Nat.le_of_ble_eq_true rfl, Nat.le_of_ble_eq_true rfl⟩) (g_preV hK hW 0 (0) (mC (by decide) (by decide)) rfl rfl) rfl rfl hl.1 rfl (lv_room (Nat.le_of_ble_eq_true rfl)) dX5_messagesThatTell_54 ⟨Nat.le_refl _, Nat.le_refl _⟩) hS (fun x9 I9 H locs hp hW hS => ?_)
          obtain ⟨ex9, eI9⟩ := hp
          rw [eI9] at hW
          clear eI9
          refine r_top ex9 ?_
          have hkf6 := ((huI8.K hKd) (rm * 4) (by omega)).2
          refine g_ci (va_runV (As := [.ref (ad 7 (k)), .ref (ad 4 (34)), .int (nI (rm)), .int (nI (kd I8 (rm * 4)))]) (rest := []) ⟨hx, hb, hml, hown, hts⟩ (c_X5_firstOtherwise l D G ad hI I8 k 34 rm (kd I8 (rm * 4)) L (show k < 4 by omega) (by decide) (show rm < 3 by omega) (show kd I8 (rm * 4) < 6 by omega) hL4 ((Sm.e huI8 (by decide) (by decide) (by decide)).trans hLe) (Sm.M huI8 hM) (Sm.K huI8 hKd)) (cwV 4 hts gX5_messagesThatTell_X5_firstOtherwise rfl rfl rfl (by decide +kernel) ⟨Nat.le_of_ble_eq_true rfl, Nat.le_of_ble_eq_true rfl⟩) (g_preV hK hW 0 (0) (mC (by decide) (by decide)) rfl rfl) rfl rfl hl.1 rfl (lv_room (Nat.le_of_ble_eq_true rfl)) dX5_messagesThatTell_57 ⟨Nat.le_refl _, Nat.le_refl _⟩) hS (fun x10 I10 H locs hp hW hS => ?_)
          obtain ⟨ex10, hs10⟩ := hp
          have hu10 : Sm gC I I10 := Sm.tr huI8 hs10.GC
          have ef : x10 = fo (tcP I r (b1 i) (wt I)) k 34 rm (kd I (rm * 4)) L := by rw [ex10, Sm.kd huI8, eI8, hu.wt, ex7, tcP_fo hu hM hWt hr4 (b1 i) hw6]
          have hPy : x10 = -1 → decide (fo (tcP I r (b1 i) (wt I)) k 34 rm (kd I (rm * 4)) L = -1) = true := fun q9 => decide_eq_true (ef.symm.trans q9)
          have hPn : decide (fo (tcP I r (b1 i) (wt I)) k 34 rm (kd I (rm * 4)) L = -1) = true → x10 = -1 := fun q9 => ef.trans (of_decide_eq_true q9)
          refine lv_iconst (v := (-1)) hx hb dX5_messagesThatTell_60 (by decide) ?_
          refine lv_icmp_ne (tgt := 73) hx hb dX5_messagesThatTell_61 (by decide) (fun c61_10 => ?_) (fun c61_10 => ?_)
          · refine lv_iinc (v := nI (i + 1)) (lv' := [(6, .int (nI (i + 1))), (5, .int (x1)), (4, .int (d)), (0, .ref (ad 0 (0))), (1, .ref (ad 7 (k))), (2, .int (nI (r))), (3, .int (nI (rm)))]) hx hb dX5_messagesThatTell_73 hl (k := 0) rfl (nI_inc i 1) (by decide) rfl (fun ls hl => ?_)
            refine lv_goto (tgt := 13) hx hb dX5_messagesThatTell_76 (by decide) ?_
            exact ih13 (i + 1) (d) (I10) (by omega) hu10 (by rw [bits, if_neg (fun q9 => c61_10 (hPn (okAnd q9).2))]; exact hd) (by omega) _ _ hW hS _ (lv_sub hl [0, 1, 2, 3, 4, 5, 6] rfl)
          · refine lv_iload hx hb dX5_messagesThatTell_64 (lv_at hl 2 rfl) ?_
            refine lv_iconst (v := nI 1) hx hb dX5_messagesThatTell_66 (by decide) ?_
            refine lv_iload hx hb dX5_messagesThatTell_67 (lv_at hl 0 rfl) ?_
            refine lv_ishl hx hb dX5_messagesThatTell_69 (lv_topi (fun x12 ex12 => ?_))
            replace ex12 : x12 = b1 i := ex12
            refine lv_ior hx hb dX5_messagesThatTell_70 (lv_topi (fun x13 ex13 => ?_))
            refine lv_istore (lv' := [(4, .int (x13)), (6, .int (nI (i))), (5, .int (x1)), (0, .ref (ad 0 (0))), (1, .ref (ad 7 (k))), (2, .int (nI (r))), (3, .int (nI (rm)))]) hx hb dX5_messagesThatTell_71 hl (by decide) rfl (fun ls hl => ?_)
            refine lv_iinc (v := nI (i + 1)) (lv' := [(6, .int (nI (i + 1))), (4, .int (x13)), (5, .int (x1)), (0, .ref (ad 0 (0))), (1, .ref (ad 7 (k))), (2, .int (nI (r))), (3, .int (nI (rm)))]) hx hb dX5_messagesThatTell_73 hl (k := 1) rfl (nI_inc i 1) (by decide) rfl (fun ls hl => ?_)
            refine lv_goto (tgt := 13) hx hb dX5_messagesThatTell_76 (by decide) ?_
            exact ih13 (i + 1) (x13) (I10) (by omega) hu10 (by rw [bits, if_pos (by rw [htb, Bool.true_and]; exact hPy c61_10)]; subst ex13 ex12 ex10 ex9 eI8 ex7 ex5 ex4 ex2; rw [hd]) (by omega) _ _ hW hS _ (lv_sub hl [0, 2, 1, 3, 4, 5, 6] rfl)
  exact K13 ((wt I) + 1) (0) (nI (0)) (I) (Nat.zero_le _) Sm.rf rfl (by omega) _ _ hW hS _ (lv_sub hl [0, 1, 2, 3, 4, 5, 6] rfl)

set_option maxHeartbeats 4000000 in
set_option maxRecDepth 100000 in
theorem c_X5_fewestToTell (l : Launch) (D : va_G) (G : Nat → ClassId) (ad : Nat → Nat → Nat) (hI : wI LC ad) (I : St) (r o : Nat) (w : Int64) (hr4 : r < 4) (ho : o < 12) (hM : okM I) (hKd : okK I) (hT : okT I) (hWt : okW I) : Met l yX5_fewestToTell wsX5_fewestToTell ({ frames := 6, cells := 0, slots := 0, locals := 269 } : Room) (gPre D G LC ad [.ref (ad 0 (0)), .int (nI (r)), .int (nI (o)), .long (w)] (wC G ad I)) (gQi D LC ad (wC G ad) (fun r9 u => r9 = ftb I r o w (mtoP I r (wt I)) 64 ∧ Sm gC I u)) 0 0 (wA LC ad) := by
  refine g_entry (C := RX5) (cc := cX5_fewestToTell) (maxL := 9) (ret := (some .int)) rfl (by decide) rfl (Nat.le_of_ble_eq_true rfl) (fun p e s m args below meth c Q ls hQ hx hb hr hts hown hlocks hml hW hK hl => ?_)
  have hl : lv_has ls 9 [(0, .ref (ad 0 (0))), (1, .int (nI (r))), (2, .int (nI (o))), (3, .long (w))] := hl
  have hS := va_S.rf (A := wA LC ad) (H0 := s.heap)
  have hinX5 : ∀ w ∈ wsX50, w ∈ wsX5_fewestToTell := by decide +kernel
  have hf10 := hts (.fieldLink RX5 10 "JoinedStores" "now" "LJoinedStores$Network;") (by decide +kernel)
  have hf35 := hts (.fieldLink RX5 35 "JoinedStores" "thought" "LJoinedStores$Store;") (by decide +kernel)
  have hw6 := hT.2
  refine lv_aload_n hx hb dX5_fewestToTell_0 rfl (lv_at hl 0 rfl) ?_
  refine lv_iload_n hx hb dX5_fewestToTell_1 rfl (lv_at hl 1 rfl) ?_
  refine g_ci (va_runV (As := [.int (nI (r))]) (rest := []) ⟨hx, hb, hml, hown, hts⟩ (c_X5_messagesTo l D G ad hI I r (show r < 4 by omega) hT hWt) (cwV 1 hts gX5_fewestToTell_X5_messagesTo rfl rfl rfl (by decide +kernel) ⟨Nat.le_of_ble_eq_true rfl, Nat.le_of_ble_eq_true rfl⟩) (g_preV hK hW 0 (0) (mC (by decide) (by decide)) rfl rfl) rfl rfl hl.1 rfl (lv_room (Nat.le_of_ble_eq_true rfl)) dX5_fewestToTell_2 ⟨Nat.le_refl _, Nat.le_refl _⟩) hS (fun x1 I1 H locs hp hW hS => ?_)
  obtain ⟨ex1, eI1⟩ := hp
  rw [eI1] at hW
  clear eI1
  refine lv_istore (lv' := [(5, .int (x1)), (0, .ref (ad 0 (0))), (1, .int (nI (r))), (2, .int (nI (o))), (3, .long (w))]) hx hb dX5_fewestToTell_5 hl (by decide) rfl (fun ls hl => ?_)
  refine lv_iconst (v := (-1)) hx hb dX5_fewestToTell_7 (by decide) ?_
  refine lv_istore (lv' := [(6, .int ((-1))), (5, .int (x1)), (0, .ref (ad 0 (0))), (1, .int (nI (r))), (2, .int (nI (o))), (3, .long (w))]) hx hb dX5_fewestToTell_8 hl (by decide) rfl (fun ls hl => ?_)
  refine lv_iconst (v := nI 0) hx hb dX5_fewestToTell_10 (by decide) ?_
  refine lv_istore (lv' := [(7, .int (nI (0))), (6, .int ((-1))), (5, .int (x1)), (0, .ref (ad 0 (0))), (1, .int (nI (r))), (2, .int (nI (o))), (3, .long (w))]) hx hb dX5_fewestToTell_11 hl (by decide) rfl (fun ls hl => ?_)
  have K13 : ∀ (n : Nat) (q : Nat) (b : Int32) (v : St), (q ≤ 64) → (Sm gC I v) → (b = ftb I r o w (mtoP I r (wt I)) q) → 64 < q + n → ∀ (H : Heap) (locs : List Loc), va_P D vwCl (wS LC ad (wC G ad v)) H → va_S (wA LC ad) s.heap H locs → ∀ (ls : Array Slot), lv_has ls 9 [(7, .int (nI (q))), (6, .int (b)), (5, .int (x1)), (0, .ref (ad 0 (0))), (1, .int (nI (r))), (2, .int (nI (o))), (3, .long (w))] → W p l e ({ frames := 6, cells := 0, slots := 0, locals := 269 } : Room) s m args below meth c H locs 0 0 Q (F0 m 13 ls []) := by
    intro n13
    induction n13 with
    | zero => intro q b v hq hu hbb hfu; exact absurd hfu (by omega)
    | succ n13 ih13 =>
      intro q b v hq hu hbb hfu H locs hW hS ls hl
      refine lv_iload hx hb dX5_fewestToTell_13 (lv_at hl 0 rfl) ?_
      refine lv_bipush (v := nI 64) hx hb dX5_fewestToTell_15 (by decide) ?_
      refine lv_icmp_ge (tgt := 95) hx hb dX5_fewestToTell_17 (by decide) (fun c17_1 => ?_) (fun c17_1 => ?_)
      · replace c17_1 : 64 ≤ q := (nI_leI (show 64 < 2147483648 by omega) (show q < 2147483648 by omega)).mp c17_1
        refine lv_iload hx hb dX5_fewestToTell_95 (lv_at hl 1 rfl) ?_
        rw [hQ]
        exact g_iret (wd := wC G ad) hx hb hr rfl hlocks hW hS (by have e4 : q = 64 := (by omega); subst e4; exact ⟨hbb, hu⟩) dX5_fewestToTell_97
      · replace c17_1 : ¬ (64 ≤ q) := fun h => c17_1 ((nI_leI (show 64 < 2147483648 by omega) (show q < 2147483648 by omega)).mpr h)
        refine lv_iload hx hb dX5_fewestToTell_20 (lv_at hl 1 rfl) ?_
        refine lv_iconst (v := (-1)) hx hb dX5_fewestToTell_22 (by decide) ?_
        refine lv_icmp_eq (tgt := 39) hx hb dX5_fewestToTell_23 (by decide) (fun c23_2 => ?_) (fun c23_2 => ?_)
        · refine lv_iconst (v := nI 1) hx hb dX5_fewestToTell_39 (by decide) ?_
          refine lv_goto (tgt := 44) hx hb dX5_fewestToTell_40 (by decide) ?_
          refine lv_istore (lv' := [(8, .int (nI (1))), (7, .int (nI (q))), (6, .int (b)), (5, .int (x1)), (0, .ref (ad 0 (0))), (1, .int (nI (r))), (2, .int (nI (o))), (3, .long (w))]) hx hb dX5_fewestToTell_44 hl (by decide) rfl (fun ls hl => ?_)
          refine lv_iload hx hb dX5_fewestToTell_46 (lv_at hl 1 rfl) ?_
          refine lv_iload hx hb dX5_fewestToTell_48 (lv_at hl 3 rfl) ?_
          refine lv_iconst (v := (-1)) hx hb dX5_fewestToTell_50 (by decide) ?_
          refine lv_ixor hx hb dX5_fewestToTell_51 (lv_topi (fun x4 ex4 => ?_))
          refine lv_iand hx hb dX5_fewestToTell_52 (lv_topi (fun x5 ex5 => ?_))
          refine lv_if_ne (tgt := 89) hx hb dX5_fewestToTell_53 (by decide) (fun c53_5 => ?_) (fun c53_5 => ?_)
          · rw [ex5, ex4, ex1] at c53_5
            refine lv_iinc (v := nI (q + 1)) (lv' := [(7, .int (nI (q + 1))), (8, .int (nI (1))), (6, .int (b)), (5, .int (x1)), (0, .ref (ad 0 (0))), (1, .int (nI (r))), (2, .int (nI (o))), (3, .long (w))]) hx hb dX5_fewestToTell_89 hl (k := 1) rfl (nI_inc q 1) (by decide) rfl (fun ls hl => ?_)
            refine lv_goto (tgt := 13) hx hb dX5_fewestToTell_92 (by decide) ?_
            exact ih13 (q + 1) (b) (v) (by omega) hu (by subst ex5 ex4; rw [ftb, ← hbb]; rw [if_neg (fun q9 => c53_5 q9.1)]) (by omega) _ _ hW hS _ (lv_sub hl [0, 2, 3, 4, 5, 6, 7] rfl)
          · rw [ex5, ex4, ex1] at c53_5
            refine lv_iload hx hb dX5_fewestToTell_56 (lv_at hl 0 rfl) ?_
            refine lv_if_eq (tgt := 89) hx hb dX5_fewestToTell_58 (by decide) (fun h => absurd h (by decide)) (fun _ => ?_)
            refine lv_aload_n hx hb dX5_fewestToTell_61 rfl (lv_at hl 4 rfl) ?_
            refine lv_iload_n hx hb dX5_fewestToTell_62 rfl (lv_at hl 5 rfl) ?_
            refine lv_iload hx hb dX5_fewestToTell_63 (lv_at hl 1 rfl) ?_
            refine g_cv (va_runV (As := [.int (nI (r)), .int (nI (q))]) (rest := []) ⟨hx, hb, hml, hown, hts⟩ (c_X5_thinkComing l D G ad hI v r (nI (q)) (show r < 4 by omega) (Sm.T hu hT) (Sm.W hu hWt)) (cwV 2 hts gX5_fewestToTell_X5_thinkComing rfl rfl rfl (by decide +kernel) ⟨Nat.le_of_ble_eq_true rfl, Nat.le_of_ble_eq_true rfl⟩) (g_preV hK hW 0 (0) (mC (by decide) (by decide)) rfl rfl) rfl rfl hl.1 rfl (lv_room (Nat.le_of_ble_eq_true rfl)) dX5_fewestToTell_65 ⟨Nat.le_refl _, Nat.le_refl _⟩) hS (fun I8 H locs hp hW hS => ?_)
            have eI8 : I8 = tcP v r (nI (q)) (wt v) := hp
            have huI8 : Sm gC I I8 := by rw [eI8]; exact Sm.tcP hu _ _ _
            refine lv_aload_n hx hb dX5_fewestToTell_68 rfl (lv_at hl 4 rfl) ?_
            refine r_get hx hb hts hown hK hW 0 (0) 0 (mC (by decide) (by decide)) rfl rfl hinX5 (by decide) hf10 rfl rfl dX5_fewestToTell_69 ?_
            refine lv_aload_n hx hb dX5_fewestToTell_72 rfl (lv_at hl 4 rfl) ?_
            refine r_get hx hb hts hown hK hW 0 (0) 6 (mC (by decide) (by decide)) rfl rfl hinX5 (by decide) hf35 rfl rfl dX5_fewestToTell_73 ?_
            refine lv_iload_n hx hb dX5_fewestToTell_76 rfl (lv_at hl 6 rfl) ?_
            refine g_cl (va_runV (As := [.ref (ad 4 (34)), .int (nI (o))]) (rest := []) ⟨hx, hb, hml, hown, hts⟩ (c_X2_worthIn l D G ad hI I8 34 o (by decide) (show o < 12 by omega) (Sm.M huI8 hM) (Sm.K huI8 hKd)) (cwV 2 hts gX5_fewestToTell_X2_worthIn rfl rfl rfl (by decide +kernel) ⟨Nat.le_of_ble_eq_true rfl, Nat.le_of_ble_eq_true rfl⟩) (g_preV hK hW 1 (0) (mC (by decide) (by decide)) rfl rfl) rfl rfl hl.1 rfl (lv_room (Nat.le_of_ble_eq_true rfl)) dX5_fewestToTell_77 ⟨Nat.le_refl _, Nat.le_refl _⟩) hS (fun x9 I9 H locs hp hW hS => ?_)
            obtain ⟨ex9, eI9⟩ := hp
            have hw9 : x9 = wth (tcP I r (nI q) (wt I)) 34 o (kd I o) := by rw [ex9, Sm.kd huI8, eI8, hu.wt, tcP_wth hu hM hWt hr4 _ hw6]
            have huI9 : Sm gC I I9 := by rw [eI9]; exact Sm.gst (fun _ => Or.inl rfl) huI8 _
            refine lv_lload_n hx hb dX5_fewestToTell_80 rfl (lv_at hl 7 rfl) ?_
            refine W.lcmp hx hb dX5_fewestToTell_81 ?_
            refine lv_if_ne (tgt := 89) hx hb dX5_fewestToTell_82 (by decide) (fun c82_9 => ?_) (fun c82_9 => ?_)
            · replace c82_9 := fun q9 => c82_9 (lg_cmp_0.mpr (hw9.trans q9))
              refine lv_iinc (v := nI (q + 1)) (lv' := [(7, .int (nI (q + 1))), (8, .int (nI (1))), (6, .int (b)), (5, .int (x1)), (0, .ref (ad 0 (0))), (1, .int (nI (r))), (2, .int (nI (o))), (3, .long (w))]) hx hb dX5_fewestToTell_89 hl (k := 1) rfl (nI_inc q 1) (by decide) rfl (fun ls hl => ?_)
              refine lv_goto (tgt := 13) hx hb dX5_fewestToTell_92 (by decide) ?_
              exact ih13 (q + 1) (b) (I9) (by omega) huI9 (by subst eI9 ex9 eI8 ex5 ex4; rw [ftb, ← hbb]; rw [if_neg (fun q9 => c82_9 q9.2.2)]) (by omega) _ _ hW hS _ (lv_sub hl [0, 2, 3, 4, 5, 6, 7] rfl)
            · replace c82_9 := hw9.symm.trans (lg_cmp_0.mp c82_9)
              refine lv_iload hx hb dX5_fewestToTell_85 (lv_at hl 1 rfl) ?_
              refine lv_istore (lv' := [(6, .int (nI (q))), (8, .int (nI (1))), (7, .int (nI (q))), (5, .int (x1)), (0, .ref (ad 0 (0))), (1, .int (nI (r))), (2, .int (nI (o))), (3, .long (w))]) hx hb dX5_fewestToTell_87 hl (by decide) rfl (fun ls hl => ?_)
              refine lv_iinc (v := nI (q + 1)) (lv' := [(7, .int (nI (q + 1))), (6, .int (nI (q))), (8, .int (nI (1))), (5, .int (x1)), (0, .ref (ad 0 (0))), (1, .int (nI (r))), (2, .int (nI (o))), (3, .long (w))]) hx hb dX5_fewestToTell_89 hl (k := 2) rfl (nI_inc q 1) (by decide) rfl (fun ls hl => ?_)
              refine lv_goto (tgt := 13) hx hb dX5_fewestToTell_92 (by decide) ?_
              exact ih13 (q + 1) (nI (q)) (I9) (by omega) huI9 (by subst eI9 ex9 eI8 ex5 ex4; rw [ftb, ← hbb]; rw [if_pos ⟨c53_5, Or.inl c23_2, c82_9⟩]) (by omega) _ _ hW hS _ (lv_sub hl [0, 1, 3, 4, 5, 6, 7] rfl)
        · refine lv_iload hx hb dX5_fewestToTell_26 (lv_at hl 0 rfl) ?_
          refine g_pi (va_runS (As := [.int (nI (q))]) (rest := []) ⟨hx, hb, hml, hown, hts⟩ (c_J6_bitCount_0f7a4 l (nI (q))) (va_cwS 1 hts gX5_fewestToTell_J6_bitCount_0f7a4 rfl rfl rfl (by decide +kernel) ⟨Nat.le_of_ble_eq_true rfl, Nat.le_of_ble_eq_true rfl⟩) p_preS rfl rfl hl.1 rfl (lv_room (Nat.le_of_ble_eq_true rfl)) dX5_fewestToTell_28 ⟨Nat.le_refl _, Nat.le_refl _⟩) hW hS (fun H locs hW hS => ?_)
          refine lv_iload hx hb dX5_fewestToTell_31 (lv_at hl 1 rfl) ?_
          refine g_pi (va_runS (As := [.int (b)]) (rest := [.int (bc (nI (q)))]) ⟨hx, hb, hml, hown, hts⟩ (c_J6_bitCount_0f7a4 l b) (va_cwS 1 hts gX5_fewestToTell_J6_bitCount_0f7a4 rfl rfl rfl (by decide +kernel) ⟨Nat.le_of_ble_eq_true rfl, Nat.le_of_ble_eq_true rfl⟩) p_preS rfl rfl hl.1 rfl (lv_room (Nat.le_of_ble_eq_true rfl)) dX5_fewestToTell_33 ⟨Nat.le_refl _, Nat.le_refl _⟩) hW hS (fun H locs hW hS => ?_)
          refine lv_icmp_ge (tgt := 43) hx hb dX5_fewestToTell_36 (by decide) (fun c36_10 => ?_) (fun c36_10 => ?_)
          · refine lv_iconst (v := nI 0) hx hb dX5_fewestToTell_43 (by decide) ?_
            refine lv_istore (lv' := [(8, .int (nI (0))), (7, .int (nI (q))), (6, .int (b)), (5, .int (x1)), (0, .ref (ad 0 (0))), (1, .int (nI (r))), (2, .int (nI (o))), (3, .long (w))]) hx hb dX5_fewestToTell_44 hl (by decide) rfl (fun ls hl => ?_)
            refine lv_iload hx hb dX5_fewestToTell_46 (lv_at hl 1 rfl) ?_
            refine lv_iload hx hb dX5_fewestToTell_48 (lv_at hl 3 rfl) ?_
            refine lv_iconst (v := (-1)) hx hb dX5_fewestToTell_50 (by decide) ?_
            refine lv_ixor hx hb dX5_fewestToTell_51 (lv_topi (fun x12 ex12 => ?_))
            refine lv_iand hx hb dX5_fewestToTell_52 (lv_topi (fun x13 ex13 => ?_))
            refine lv_if_ne (tgt := 89) hx hb dX5_fewestToTell_53 (by decide) (fun c53_13 => ?_) (fun c53_13 => ?_)
            · rw [ex13, ex12, ex1] at c53_13
              refine lv_iinc (v := nI (q + 1)) (lv' := [(7, .int (nI (q + 1))), (8, .int (nI (0))), (6, .int (b)), (5, .int (x1)), (0, .ref (ad 0 (0))), (1, .int (nI (r))), (2, .int (nI (o))), (3, .long (w))]) hx hb dX5_fewestToTell_89 hl (k := 1) rfl (nI_inc q 1) (by decide) rfl (fun ls hl => ?_)
              refine lv_goto (tgt := 13) hx hb dX5_fewestToTell_92 (by decide) ?_
              exact ih13 (q + 1) (b) (v) (by omega) hu (by subst ex13 ex12; rw [ftb, ← hbb]; rw [if_neg (fun q9 => c53_13 q9.1)]) (by omega) _ _ hW hS _ (lv_sub hl [0, 2, 3, 4, 5, 6, 7] rfl)
            · rw [ex13, ex12, ex1] at c53_13
              refine lv_iload hx hb dX5_fewestToTell_56 (lv_at hl 0 rfl) ?_
              refine lv_if_eq (tgt := 89) hx hb dX5_fewestToTell_58 (by decide) (fun _ => ?_) (fun h => absurd (by decide) h)
              refine lv_iinc (v := nI (q + 1)) (lv' := [(7, .int (nI (q + 1))), (8, .int (nI (0))), (6, .int (b)), (5, .int (x1)), (0, .ref (ad 0 (0))), (1, .int (nI (r))), (2, .int (nI (o))), (3, .long (w))]) hx hb dX5_fewestToTell_89 hl (k := 1) rfl (nI_inc q 1) (by decide) rfl (fun ls hl => ?_)
              refine lv_goto (tgt := 13) hx hb dX5_fewestToTell_92 (by decide) ?_
              exact ih13 (q + 1) (b) (v) (by omega) hu (by subst ex13 ex12; rw [ftb, ← hbb]; rw [if_neg (fun q9 => q9.2.1.elim c23_2 (Int32.not_lt.mpr c36_10))]) (by omega) _ _ hW hS _ (lv_sub hl [0, 2, 3, 4, 5, 6, 7] rfl)
          · refine lv_iconst (v := nI 1) hx hb dX5_fewestToTell_39 (by decide) ?_
            refine lv_goto (tgt := 44) hx hb dX5_fewestToTell_40 (by decide) ?_
            refine lv_istore (lv' := [(8, .int (nI (1))), (7, .int (nI (q))), (6, .int (b)), (5, .int (x1)), (0, .ref (ad 0 (0))), (1, .int (nI (r))), (2, .int (nI (o))), (3, .long (w))]) hx hb dX5_fewestToTell_44 hl (by decide) rfl (fun ls hl => ?_)
            refine lv_iload hx hb dX5_fewestToTell_46 (lv_at hl 1 rfl) ?_
            refine lv_iload hx hb dX5_fewestToTell_48 (lv_at hl 3 rfl) ?_
            refine lv_iconst (v := (-1)) hx hb dX5_fewestToTell_50 (by decide) ?_
            refine lv_ixor hx hb dX5_fewestToTell_51 (lv_topi (fun x16 ex16 => ?_))
            refine lv_iand hx hb dX5_fewestToTell_52 (lv_topi (fun x17 ex17 => ?_))
            refine lv_if_ne (tgt := 89) hx hb dX5_fewestToTell_53 (by decide) (fun c53_17 => ?_) (fun c53_17 => ?_)
            · rw [ex17, ex16, ex1] at c53_17
              refine lv_iinc (v := nI (q + 1)) (lv' := [(7, .int (nI (q + 1))), (8, .int (nI (1))), (6, .int (b)), (5, .int (x1)), (0, .ref (ad 0 (0))), (1, .int (nI (r))), (2, .int (nI (o))), (3, .long (w))]) hx hb dX5_fewestToTell_89 hl (k := 1) rfl (nI_inc q 1) (by decide) rfl (fun ls hl => ?_)
              refine lv_goto (tgt := 13) hx hb dX5_fewestToTell_92 (by decide) ?_
              exact ih13 (q + 1) (b) (v) (by omega) hu (by subst ex17 ex16; rw [ftb, ← hbb]; rw [if_neg (fun q9 => c53_17 q9.1)]) (by omega) _ _ hW hS _ (lv_sub hl [0, 2, 3, 4, 5, 6, 7] rfl)
            · rw [ex17, ex16, ex1] at c53_17
              refine lv_iload hx hb dX5_fewestToTell_56 (lv_at hl 0 rfl) ?_
              refine lv_if_eq (tgt := 89) hx hb dX5_fewestToTell_58 (by decide) (fun h => absurd h (by decide)) (fun _ => ?_)
              refine lv_aload_n hx hb dX5_fewestToTell_61 rfl (lv_at hl 4 rfl) ?_
              refine lv_iload_n hx hb dX5_fewestToTell_62 rfl (lv_at hl 5 rfl) ?_
              refine lv_iload hx hb dX5_fewestToTell_63 (lv_at hl 1 rfl) ?_
              refine g_cv (va_runV (As := [.int (nI (r)), .int (nI (q))]) (rest := []) ⟨hx, hb, hml, hown, hts⟩ (c_X5_thinkComing l D G ad hI v r (nI (q)) (show r < 4 by omega) (Sm.T hu hT) (Sm.W hu hWt)) (cwV 2 hts gX5_fewestToTell_X5_thinkComing rfl rfl rfl (by decide +kernel) ⟨Nat.le_of_ble_eq_true rfl, Nat.le_of_ble_eq_true rfl⟩) (g_preV hK hW 0 (0) (mC (by decide) (by decide)) rfl rfl) rfl rfl hl.1 rfl (lv_room (Nat.le_of_ble_eq_true rfl)) dX5_fewestToTell_65 ⟨Nat.le_refl _, Nat.le_refl _⟩) hS (fun I20 H locs hp hW hS => ?_)
              have eI20 : I20 = tcP v r (nI (q)) (wt v) := hp
              have huI20 : Sm gC I I20 := by rw [eI20]; exact Sm.tcP hu _ _ _
              refine lv_aload_n hx hb dX5_fewestToTell_68 rfl (lv_at hl 4 rfl) ?_
              refine r_get hx hb hts hown hK hW 0 (0) 0 (mC (by decide) (by decide)) rfl rfl hinX5 (by decide) hf10 rfl rfl dX5_fewestToTell_69 ?_
              refine lv_aload_n hx hb dX5_fewestToTell_72 rfl (lv_at hl 4 rfl) ?_
              refine r_get hx hb hts hown hK hW 0 (0) 6 (mC (by decide) (by decide)) rfl rfl hinX5 (by decide) hf35 rfl rfl dX5_fewestToTell_73 ?_
              refine lv_iload_n hx hb dX5_fewestToTell_76 rfl (lv_at hl 6 rfl) ?_
              refine g_cl (va_runV (As := [.ref (ad 4 (34)), .int (nI (o))]) (rest := []) ⟨hx, hb, hml, hown, hts⟩ (c_X2_worthIn l D G ad hI I20 34 o (by decide) (show o < 12 by omega) (Sm.M huI20 hM) (Sm.K huI20 hKd)) (cwV 2 hts gX5_fewestToTell_X2_worthIn rfl rfl rfl (by decide +kernel) ⟨Nat.le_of_ble_eq_true rfl, Nat.le_of_ble_eq_true rfl⟩) (g_preV hK hW 1 (0) (mC (by decide) (by decide)) rfl rfl) rfl rfl hl.1 rfl (lv_room (Nat.le_of_ble_eq_true rfl)) dX5_fewestToTell_77 ⟨Nat.le_refl _, Nat.le_refl _⟩) hS (fun x21 I21 H locs hp hW hS => ?_)
              obtain ⟨ex21, eI21⟩ := hp
              have hw9 : x21 = wth (tcP I r (nI q) (wt I)) 34 o (kd I o) := by rw [ex21, Sm.kd huI20, eI20, hu.wt, tcP_wth hu hM hWt hr4 _ hw6]
              have huI21 : Sm gC I I21 := by rw [eI21]; exact Sm.gst (fun _ => Or.inl rfl) huI20 _
              refine lv_lload_n hx hb dX5_fewestToTell_80 rfl (lv_at hl 7 rfl) ?_
              refine W.lcmp hx hb dX5_fewestToTell_81 ?_
              refine lv_if_ne (tgt := 89) hx hb dX5_fewestToTell_82 (by decide) (fun c82_21 => ?_) (fun c82_21 => ?_)
              · replace c82_21 := fun q9 => c82_21 (lg_cmp_0.mpr (hw9.trans q9))
                refine lv_iinc (v := nI (q + 1)) (lv' := [(7, .int (nI (q + 1))), (8, .int (nI (1))), (6, .int (b)), (5, .int (x1)), (0, .ref (ad 0 (0))), (1, .int (nI (r))), (2, .int (nI (o))), (3, .long (w))]) hx hb dX5_fewestToTell_89 hl (k := 1) rfl (nI_inc q 1) (by decide) rfl (fun ls hl => ?_)
                refine lv_goto (tgt := 13) hx hb dX5_fewestToTell_92 (by decide) ?_
                exact ih13 (q + 1) (b) (I21) (by omega) huI21 (by subst eI21 ex21 eI20 ex17 ex16; rw [ftb, ← hbb]; rw [if_neg (fun q9 => c82_21 q9.2.2)]) (by omega) _ _ hW hS _ (lv_sub hl [0, 2, 3, 4, 5, 6, 7] rfl)
              · replace c82_21 := hw9.symm.trans (lg_cmp_0.mp c82_21)
                refine lv_iload hx hb dX5_fewestToTell_85 (lv_at hl 1 rfl) ?_
                refine lv_istore (lv' := [(6, .int (nI (q))), (8, .int (nI (1))), (7, .int (nI (q))), (5, .int (x1)), (0, .ref (ad 0 (0))), (1, .int (nI (r))), (2, .int (nI (o))), (3, .long (w))]) hx hb dX5_fewestToTell_87 hl (by decide) rfl (fun ls hl => ?_)
                refine lv_iinc (v := nI (q + 1)) (lv' := [(7, .int (nI (q + 1))), (6, .int (nI (q))), (8, .int (nI (1))), (5, .int (x1)), (0, .ref (ad 0 (0))), (1, .int (nI (r))), (2, .int (nI (o))), (3, .long (w))]) hx hb dX5_fewestToTell_89 hl (k := 2) rfl (nI_inc q 1) (by decide) rfl (fun ls hl => ?_)
                refine lv_goto (tgt := 13) hx hb dX5_fewestToTell_92 (by decide) ?_
                exact ih13 (q + 1) (nI (q)) (I21) (by omega) huI21 (by subst eI21 ex21 eI20 ex17 ex16; rw [ftb, ← hbb]; rw [if_pos ⟨c53_17, Or.inr (Int32.not_le.mp c36_10), c82_21⟩]) (by omega) _ _ hW hS _ (lv_sub hl [0, 1, 3, 4, 5, 6, 7] rfl)
  exact K13 (64 + 1) (0) ((-1)) (I) (Nat.zero_le _) Sm.rf rfl (by omega) _ _ hW hS _ (lv_sub hl [0, 1, 2, 3, 4, 5, 6] rfl)
