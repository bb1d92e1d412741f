/-! ===== kinds under kinds ===== -/
set_option maxHeartbeats 4000000 in
set_option maxRecDepth 100000 in
theorem c_X5_isOrIsUnder_0 (l : Launch) (t : Nat) (k : Nat) (hk6 : k < 6) : Met l yX5_isOrIsUnder wsX5_isOrIsUnder ({ frames := 0, cells := 0, slots := 0, locals := 0 } : Room) (va_Pc [.int (nI (0)), .int (nI (k))] (UDA (fun _ => False) t)) (pQi (bI (iu 0 k))) 0 0 (fun _ => False) := by
  refine u_entry (C := RX5) (cc := cX5_isOrIsUnder) (maxL := 4) (ret := (some .boolean)) rfl (by decide) rfl (Nat.le_of_ble_eq_true rfl) (fun p e s m args below meth c Q ls hQ hx hb hr hts hown hlocks hml hU hl => ?_)
  have hl : lv_has ls 4 [(0, .int (nI (0))), (1, .int (nI (k)))] := hl
  have hS := va_S.rf (A := fun _ => False) (H0 := s.heap)
  refine lv_iload_n hx hb dX5_isOrIsUnder_0 rfl (lv_at hl 0 rfl) ?_
  refine lv_istore_n (lv' := [(2, .int (nI (0))), (0, .int (nI (0))), (1, .int (nI (k)))]) hx hb dX5_isOrIsUnder_1 rfl hl (by decide) rfl (fun ls hl => ?_)
  refine lv_iconst (v := nI 0) hx hb dX5_isOrIsUnder_2 (by decide) ?_
  refine lv_istore_n (lv' := [(3, .int (nI (0))), (2, .int (nI (0))), (0, .int (nI (0))), (1, .int (nI (k)))]) hx hb dX5_isOrIsUnder_3 rfl hl (by decide) rfl (fun ls hl => ?_)
  refine lv_iload_n hx hb dX5_isOrIsUnder_4 rfl (lv_at hl 0 rfl) ?_
  refine lv_bipush (v := nI 6) hx hb dX5_isOrIsUnder_5 (by decide) ?_
  refine lv_icmp_ge (tgt := 34) hx hb dX5_isOrIsUnder_7 (by decide) (fun h => absurd h (by decide)) (fun _ => ?_)
  refine lv_iload_n hx hb dX5_isOrIsUnder_10 rfl (lv_at hl 1 rfl) ?_
  refine lv_iconst (v := (-1)) hx hb dX5_isOrIsUnder_11 (by decide) ?_
  refine lv_icmp_eq (tgt := 34) hx hb dX5_isOrIsUnder_12 (by decide) (fun h => absurd h (by decide)) (fun _ => ?_)
  refine lv_iload_n hx hb dX5_isOrIsUnder_15 rfl (lv_at hl 1 rfl) ?_
  refine lv_iload_n hx hb dX5_isOrIsUnder_16 rfl (lv_at hl 3 rfl) ?_
  refine lv_icmp_ne (tgt := 22) hx hb dX5_isOrIsUnder_17 (by decide) (fun c17_2 => ?_) (fun c17_2 => ?_)
  · replace c17_2 : ¬ 0 = k := fun h => c17_2 ((nI_eq (show 0 < 2147483648 by omega) (show k < 2147483648 by omega)).mpr h)
    refine va_gets (C := "JoinedStores") (n := "UNDER") (d := "[I") hx hb hU.1 hS hown (hts (.fieldLink RX5 298 "JoinedStores" "UNDER" "[I") (by decide +kernel)) (fun _ h9 => h9) dX5_isOrIsUnder_22 ?_
    refine lv_iload_n hx hb dX5_isOrIsUnder_25 rfl (lv_at hl 1 rfl) ?_
    refine va_ti (v := .int ((-1))) hx hb hU.2 hS (vp_in_nI (show 0 < 6 by decide) (by decide)) (by rw [nI_clamp (show 0 < 2147483648 by decide)]; exact congrArg Value.int (show und 0 = (-1) by decide +kernel)) dX5_isOrIsUnder_26 ?_
    refine lv_istore_n (lv' := [(2, .int ((-1))), (3, .int (nI (0))), (0, .int (nI (0))), (1, .int (nI (k)))]) hx hb dX5_isOrIsUnder_27 rfl hl (by decide) rfl (fun ls hl => ?_)
    refine lv_iinc (v := nI (1)) (lv' := [(3, .int (nI (1))), (2, .int ((-1))), (0, .int (nI (0))), (1, .int (nI (k)))]) hx hb dX5_isOrIsUnder_28 hl (k := 1) rfl (by decide) (by decide) rfl (fun ls hl => ?_)
    refine lv_goto (tgt := 4) hx hb dX5_isOrIsUnder_31 (by decide) ?_
    refine lv_iload_n hx hb dX5_isOrIsUnder_4 rfl (lv_at hl 0 rfl) ?_
    refine lv_bipush (v := nI 6) hx hb dX5_isOrIsUnder_5 (by decide) ?_
    refine lv_icmp_ge (tgt := 34) hx hb dX5_isOrIsUnder_7 (by decide) (fun h => absurd h (by decide)) (fun _ => ?_)
    refine lv_iload_n hx hb dX5_isOrIsUnder_10 rfl (lv_at hl 1 rfl) ?_
    refine lv_iconst (v := (-1)) hx hb dX5_isOrIsUnder_11 (by decide) ?_
    refine lv_icmp_eq (tgt := 34) hx hb dX5_isOrIsUnder_12 (by decide) (fun _ => ?_) (fun h => absurd (by decide) h)
    refine lv_iconst (v := nI 0) hx hb dX5_isOrIsUnder_34 (by decide) ?_
    rw [hQ]
    exact p_iret hx hb hr (by decide) hlocks hS (by rcases (by omega : k = 0 ∨ k = 1 ∨ k = 2 ∨ k = 3 ∨ k = 4 ∨ k = 5) with rfl | rfl | rfl | rfl | rfl | rfl <;> first | (exfalso; omega) | decide) dX5_isOrIsUnder_35
  · replace c17_2 : 0 = k := (nI_eq (show 0 < 2147483648 by omega) (show k < 2147483648 by omega)).mp c17_2
    refine lv_iconst (v := nI 1) hx hb dX5_isOrIsUnder_20 (by decide) ?_
    rw [hQ]
    exact p_iret hx hb hr (by decide) hlocks hS (by rcases (by omega : k = 0 ∨ k = 1 ∨ k = 2 ∨ k = 3 ∨ k = 4 ∨ k = 5) with rfl | rfl | rfl | rfl | rfl | rfl <;> first | (exfalso; omega) | decide) dX5_isOrIsUnder_21

set_option maxHeartbeats 4000000 in
set_option maxRecDepth 100000 in
theorem c_X5_isOrIsUnder_1 (l : Launch) (t : Nat) (k : Nat) (hk6 : k < 6) : Met l yX5_isOrIsUnder wsX5_isOrIsUnder ({ frames := 0, cells := 0, slots := 0, locals := 0 } : Room) (va_Pc [.int (nI (1)), .int (nI (k))] (UDA (fun _ => False) t)) (pQi (bI (iu 1 k))) 0 0 (fun _ => False) := by
  refine u_entry (C := RX5) (cc := cX5_isOrIsUnder) (maxL := 4) (ret := (some .boolean)) rfl (by decide) rfl (Nat.le_of_ble_eq_true rfl) (fun p e s m args below meth c Q ls hQ hx hb hr hts hown hlocks hml hU hl => ?_)
  have hl : lv_has ls 4 [(0, .int (nI (1))), (1, .int (nI (k)))] := hl
  have hS := va_S.rf (A := fun _ => False) (H0 := s.heap)
  refine lv_iload_n hx hb dX5_isOrIsUnder_0 rfl (lv_at hl 0 rfl) ?_
  refine lv_istore_n (lv' := [(2, .int (nI (1))), (0, .int (nI (1))), (1, .int (nI (k)))]) hx hb dX5_isOrIsUnder_1 rfl hl (by decide) rfl (fun ls hl => ?_)
  refine lv_iconst (v := nI 0) hx hb dX5_isOrIsUnder_2 (by decide) ?_
  refine lv_istore_n (lv' := [(3, .int (nI (0))), (2, .int (nI (1))), (0, .int (nI (1))), (1, .int (nI (k)))]) hx hb dX5_isOrIsUnder_3 rfl hl (by decide) rfl (fun ls hl => ?_)
  refine lv_iload_n hx hb dX5_isOrIsUnder_4 rfl (lv_at hl 0 rfl) ?_
  refine lv_bipush (v := nI 6) hx hb dX5_isOrIsUnder_5 (by decide) ?_
  refine lv_icmp_ge (tgt := 34) hx hb dX5_isOrIsUnder_7 (by decide) (fun h => absurd h (by decide)) (fun _ => ?_)
  refine lv_iload_n hx hb dX5_isOrIsUnder_10 rfl (lv_at hl 1 rfl) ?_
  refine lv_iconst (v := (-1)) hx hb dX5_isOrIsUnder_11 (by decide) ?_
  refine lv_icmp_eq (tgt := 34) hx hb dX5_isOrIsUnder_12 (by decide) (fun h => absurd h (by decide)) (fun _ => ?_)
  refine lv_iload_n hx hb dX5_isOrIsUnder_15 rfl (lv_at hl 1 rfl) ?_
  refine lv_iload_n hx hb dX5_isOrIsUnder_16 rfl (lv_at hl 3 rfl) ?_
  refine lv_icmp_ne (tgt := 22) hx hb dX5_isOrIsUnder_17 (by decide) (fun c17_2 => ?_) (fun c17_2 => ?_)
  · replace c17_2 : ¬ 1 = k := fun h => c17_2 ((nI_eq (show 1 < 2147483648 by omega) (show k < 2147483648 by omega)).mpr h)
    refine va_gets (C := "JoinedStores") (n := "UNDER") (d := "[I") hx hb hU.1 hS hown (hts (.fieldLink RX5 298 "JoinedStores" "UNDER" "[I") (by decide +kernel)) (fun _ h9 => h9) dX5_isOrIsUnder_22 ?_
    refine lv_iload_n hx hb dX5_isOrIsUnder_25 rfl (lv_at hl 1 rfl) ?_
    refine va_ti (v := .int (nI (0))) hx hb hU.2 hS (vp_in_nI (show 1 < 6 by decide) (by decide)) (by rw [nI_clamp (show 1 < 2147483648 by decide)]; exact congrArg Value.int (show und 1 = nI (0) by decide +kernel)) dX5_isOrIsUnder_26 ?_
    refine lv_istore_n (lv' := [(2, .int (nI (0))), (3, .int (nI (0))), (0, .int (nI (1))), (1, .int (nI (k)))]) hx hb dX5_isOrIsUnder_27 rfl hl (by decide) rfl (fun ls hl => ?_)
    refine lv_iinc (v := nI (1)) (lv' := [(3, .int (nI (1))), (2, .int (nI (0))), (0, .int (nI (1))), (1, .int (nI (k)))]) hx hb dX5_isOrIsUnder_28 hl (k := 1) rfl (by decide) (by decide) rfl (fun ls hl => ?_)
    refine lv_goto (tgt := 4) hx hb dX5_isOrIsUnder_31 (by decide) ?_
    refine lv_iload_n hx hb dX5_isOrIsUnder_4 rfl (lv_at hl 0 rfl) ?_
    refine lv_bipush (v := nI 6) hx hb dX5_isOrIsUnder_5 (by decide) ?_
    refine lv_icmp_ge (tgt := 34) hx hb dX5_isOrIsUnder_7 (by decide) (fun h => absurd h (by decide)) (fun _ => ?_)
    refine lv_iload_n hx hb dX5_isOrIsUnder_10 rfl (lv_at hl 1 rfl) ?_
    refine lv_iconst (v := (-1)) hx hb dX5_isOrIsUnder_11 (by decide) ?_
    refine lv_icmp_eq (tgt := 34) hx hb dX5_isOrIsUnder_12 (by decide) (fun h => absurd h (by decide)) (fun _ => ?_)
    refine lv_iload_n hx hb dX5_isOrIsUnder_15 rfl (lv_at hl 1 rfl) ?_
    refine lv_iload_n hx hb dX5_isOrIsUnder_16 rfl (lv_at hl 3 rfl) ?_
    refine lv_icmp_ne (tgt := 22) hx hb dX5_isOrIsUnder_17 (by decide) (fun c17_5 => ?_) (fun c17_5 => ?_)
    · replace c17_5 : ¬ 0 = k := fun h => c17_5 ((nI_eq (show 0 < 2147483648 by omega) (show k < 2147483648 by omega)).mpr h)
      refine va_gets (C := "JoinedStores") (n := "UNDER") (d := "[I") hx hb hU.1 hS hown (hts (.fieldLink RX5 298 "JoinedStores" "UNDER" "[I") (by decide +kernel)) (fun _ h9 => h9) dX5_isOrIsUnder_22 ?_
      refine lv_iload_n hx hb dX5_isOrIsUnder_25 rfl (lv_at hl 1 rfl) ?_
      refine va_ti (v := .int ((-1))) hx hb hU.2 hS (vp_in_nI (show 0 < 6 by decide) (by decide)) (by rw [nI_clamp (show 0 < 2147483648 by decide)]; exact congrArg Value.int (show und 0 = (-1) by decide +kernel)) dX5_isOrIsUnder_26 ?_
      refine lv_istore_n (lv' := [(2, .int ((-1))), (3, .int (nI (1))), (0, .int (nI (1))), (1, .int (nI (k)))]) hx hb dX5_isOrIsUnder_27 rfl hl (by decide) rfl (fun ls hl => ?_)
      refine lv_iinc (v := nI (2)) (lv' := [(3, .int (nI (2))), (2, .int ((-1))), (0, .int (nI (1))), (1, .int (nI (k)))]) hx hb dX5_isOrIsUnder_28 hl (k := 1) rfl (by decide) (by decide) rfl (fun ls hl => ?_)
      refine lv_goto (tgt := 4) hx hb dX5_isOrIsUnder_31 (by decide) ?_
      refine lv_iload_n hx hb dX5_isOrIsUnder_4 rfl (lv_at hl 0 rfl) ?_
      refine lv_bipush (v := nI 6) hx hb dX5_isOrIsUnder_5 (by decide) ?_
      refine lv_icmp_ge (tgt := 34) hx hb dX5_isOrIsUnder_7 (by decide) (fun h => absurd h (by decide)) (fun _ => ?_)
      refine lv_iload_n hx hb dX5_isOrIsUnder_10 rfl (lv_at hl 1 rfl) ?_
      refine lv_iconst (v := (-1)) hx hb dX5_isOrIsUnder_11 (by decide) ?_
      refine lv_icmp_eq (tgt := 34) hx hb dX5_isOrIsUnder_12 (by decide) (fun _ => ?_) (fun h => absurd (by decide) h)
      refine lv_iconst (v := nI 0) hx hb dX5_isOrIsUnder_34 (by decide) ?_
      rw [hQ]
      exact p_iret hx hb hr (by decide) hlocks hS (by rcases (by omega : k = 0 ∨ k = 1 ∨ k = 2 ∨ k = 3 ∨ k = 4 ∨ k = 5) with rfl | rfl | rfl | rfl | rfl | rfl <;> first | (exfalso; omega) | decide) dX5_isOrIsUnder_35
    · replace c17_5 : 0 = k := (nI_eq (show 0 < 2147483648 by omega) (show k < 2147483648 by omega)).mp c17_5
      refine lv_iconst (v := nI 1) hx hb dX5_isOrIsUnder_20 (by decide) ?_
      rw [hQ]
      exact p_iret hx hb hr (by decide) hlocks hS (by rcases (by omega : k = 0 ∨ k = 1 ∨ k = 2 ∨ k = 3 ∨ k = 4 ∨ k = 5) with rfl | rfl | rfl | rfl | rfl | rfl <;> first | (exfalso; omega) | decide) dX5_isOrIsUnder_21
  · replace c17_2 : 1 = k := (nI_eq (show 1 < 2147483648 by omega) (show k < 2147483648 by omega)).mp c17_2
    refine lv_iconst (v := nI 1) hx hb dX5_isOrIsUnder_20 (by decide) ?_
    rw [hQ]
    exact p_iret hx hb hr (by decide) hlocks hS (by rcases (by omega : k = 0 ∨ k = 1 ∨ k = 2 ∨ k = 3 ∨ k = 4 ∨ k = 5) with rfl | rfl | rfl | rfl | rfl | rfl <;> first | (exfalso; omega) | decide) dX5_isOrIsUnder_21

set_option maxHeartbeats 4000000 in
set_option maxRecDepth 100000 in
theorem c_X5_isOrIsUnder_2 (l : Launch) (t : Nat) (k : Nat) (hk6 : k < 6) : Met l yX5_isOrIsUnder wsX5_isOrIsUnder ({ frames := 0, cells := 0, slots := 0, locals := 0 } : Room) (va_Pc [.int (nI (2)), .int (nI (k))] (UDA (fun _ => False) t)) (pQi (bI (iu 2 k))) 0 0 (fun _ => False) := by
  refine u_entry (C := RX5) (cc := cX5_isOrIsUnder) (maxL := 4) (ret := (some .boolean)) rfl (by decide) rfl (Nat.le_of_ble_eq_true rfl) (fun p e s m args below meth c Q ls hQ hx hb hr hts hown hlocks hml hU hl => ?_)
  have hl : lv_has ls 4 [(0, .int (nI (2))), (1, .int (nI (k)))] := hl
  have hS := va_S.rf (A := fun _ => False) (H0 := s.heap)
  refine lv_iload_n hx hb dX5_isOrIsUnder_0 rfl (lv_at hl 0 rfl) ?_
  refine lv_istore_n (lv' := [(2, .int (nI (2))), (0, .int (nI (2))), (1, .int (nI (k)))]) hx hb dX5_isOrIsUnder_1 rfl hl (by decide) rfl (fun ls hl => ?_)
  refine lv_iconst (v := nI 0) hx hb dX5_isOrIsUnder_2 (by decide) ?_
  refine lv_istore_n (lv' := [(3, .int (nI (0))), (2, .int (nI (2))), (0, .int (nI (2))), (1, .int (nI (k)))]) hx hb dX5_isOrIsUnder_3 rfl hl (by decide) rfl (fun ls hl => ?_)
  refine lv_iload_n hx hb dX5_isOrIsUnder_4 rfl (lv_at hl 0 rfl) ?_
  refine lv_bipush (v := nI 6) hx hb dX5_isOrIsUnder_5 (by decide) ?_
  refine lv_icmp_ge (tgt := 34) hx hb dX5_isOrIsUnder_7 (by decide) (fun h => absurd h (by decide)) (fun _ => ?_)
  refine lv_iload_n hx hb dX5_isOrIsUnder_10 rfl (lv_at hl 1 rfl) ?_
  refine lv_iconst (v := (-1)) hx hb dX5_isOrIsUnder_11 (by decide) ?_
  refine lv_icmp_eq (tgt := 34) hx hb dX5_isOrIsUnder_12 (by decide) (fun h => absurd h (by decide)) (fun _ => ?_)
  refine lv_iload_n hx hb dX5_isOrIsUnder_15 rfl (lv_at hl 1 rfl) ?_
  refine lv_iload_n hx hb dX5_isOrIsUnder_16 rfl (lv_at hl 3 rfl) ?_
  refine lv_icmp_ne (tgt := 22) hx hb dX5_isOrIsUnder_17 (by decide) (fun c17_2 => ?_) (fun c17_2 => ?_)
  · replace c17_2 : ¬ 2 = k := fun h => c17_2 ((nI_eq (show 2 < 2147483648 by omega) (show k < 2147483648 by omega)).mpr h)
    refine va_gets (C := "JoinedStores") (n := "UNDER") (d := "[I") hx hb hU.1 hS hown (hts (.fieldLink RX5 298 "JoinedStores" "UNDER" "[I") (by decide +kernel)) (fun _ h9 => h9) dX5_isOrIsUnder_22 ?_
    refine lv_iload_n hx hb dX5_isOrIsUnder_25 rfl (lv_at hl 1 rfl) ?_
    refine va_ti (v := .int (nI (0))) hx hb hU.2 hS (vp_in_nI (show 2 < 6 by decide) (by decide)) (by rw [nI_clamp (show 2 < 2147483648 by decide)]; exact congrArg Value.int (show und 2 = nI (0) by decide +kernel)) dX5_isOrIsUnder_26 ?_
    refine lv_istore_n (lv' := [(2, .int (nI (0))), (3, .int (nI (0))), (0, .int (nI (2))), (1, .int (nI (k)))]) hx hb dX5_isOrIsUnder_27 rfl hl (by decide) rfl (fun ls hl => ?_)
    refine lv_iinc (v := nI (1)) (lv' := [(3, .int (nI (1))), (2, .int (nI (0))), (0, .int (nI (2))), (1, .int (nI (k)))]) hx hb dX5_isOrIsUnder_28 hl (k := 1) rfl (by decide) (by decide) rfl (fun ls hl => ?_)
    refine lv_goto (tgt := 4) hx hb dX5_isOrIsUnder_31 (by decide) ?_
    refine lv_iload_n hx hb dX5_isOrIsUnder_4 rfl (lv_at hl 0 rfl) ?_
    refine lv_bipush (v := nI 6) hx hb dX5_isOrIsUnder_5 (by decide) ?_
    refine lv_icmp_ge (tgt := 34) hx hb dX5_isOrIsUnder_7 (by decide) (fun h => absurd h (by decide)) (fun _ => ?_)
    refine lv_iload_n hx hb dX5_isOrIsUnder_10 rfl (lv_at hl 1 rfl) ?_
    refine lv_iconst (v := (-1)) hx hb dX5_isOrIsUnder_11 (by decide) ?_
    refine lv_icmp_eq (tgt := 34) hx hb dX5_isOrIsUnder_12 (by decide) (fun h => absurd h (by decide)) (fun _ => ?_)
    refine lv_iload_n hx hb dX5_isOrIsUnder_15 rfl (lv_at hl 1 rfl) ?_
    refine lv_iload_n hx hb dX5_isOrIsUnder_16 rfl (lv_at hl 3 rfl) ?_
    refine lv_icmp_ne (tgt := 22) hx hb dX5_isOrIsUnder_17 (by decide) (fun c17_5 => ?_) (fun c17_5 => ?_)
    · replace c17_5 : ¬ 0 = k := fun h => c17_5 ((nI_eq (show 0 < 2147483648 by omega) (show k < 2147483648 by omega)).mpr h)
      refine va_gets (C := "JoinedStores") (n := "UNDER") (d := "[I") hx hb hU.1 hS hown (hts (.fieldLink RX5 298 "JoinedStores" "UNDER" "[I") (by decide +kernel)) (fun _ h9 => h9) dX5_isOrIsUnder_22 ?_
      refine lv_iload_n hx hb dX5_isOrIsUnder_25 rfl (lv_at hl 1 rfl) ?_
      refine va_ti (v := .int ((-1))) hx hb hU.2 hS (vp_in_nI (show 0 < 6 by decide) (by decide)) (by rw [nI_clamp (show 0 < 2147483648 by decide)]; exact congrArg Value.int (show und 0 = (-1) by decide +kernel)) dX5_isOrIsUnder_26 ?_
      refine lv_istore_n (lv' := [(2, .int ((-1))), (3, .int (nI (1))), (0, .int (nI (2))), (1, .int (nI (k)))]) hx hb dX5_isOrIsUnder_27 rfl hl (by decide) rfl (fun ls hl => ?_)
      refine lv_iinc (v := nI (2)) (lv' := [(3, .int (nI (2))), (2, .int ((-1))), (0, .int (nI (2))), (1, .int (nI (k)))]) hx hb dX5_isOrIsUnder_28 hl (k := 1) rfl (by decide) (by decide) rfl (fun ls hl => ?_)
      refine lv_goto (tgt := 4) hx hb dX5_isOrIsUnder_31 (by decide) ?_
      refine lv_iload_n hx hb dX5_isOrIsUnder_4 rfl (lv_at hl 0 rfl) ?_
      refine lv_bipush (v := nI 6) hx hb dX5_isOrIsUnder_5 (by decide) ?_
      refine lv_icmp_ge (tgt := 34) hx hb dX5_isOrIsUnder_7 (by decide) (fun h => absurd h (by decide)) (fun _ => ?_)
      refine lv_iload_n hx hb dX5_isOrIsUnder_10 rfl (lv_at hl 1 rfl) ?_
      refine lv_iconst (v := (-1)) hx hb dX5_isOrIsUnder_11 (by decide) ?_
      refine lv_icmp_eq (tgt := 34) hx hb dX5_isOrIsUnder_12 (by decide) (fun _ => ?_) (fun h => absurd (by decide) h)
      refine lv_iconst (v := nI 0) hx hb dX5_isOrIsUnder_34 (by decide) ?_
      rw [hQ]
      exact p_iret hx hb hr (by decide) hlocks hS (by rcases (by omega : k = 0 ∨ k = 1 ∨ k = 2 ∨ k = 3 ∨ k = 4 ∨ k = 5) with rfl | rfl | rfl | rfl | rfl | rfl <;> first | (exfalso; omega) | decide) dX5_isOrIsUnder_35
    · replace c17_5 : 0 = k := (nI_eq (show 0 < 2147483648 by omega) (show k < 2147483648 by omega)).mp c17_5
      refine lv_iconst (v := nI 1) hx hb dX5_isOrIsUnder_20 (by decide) ?_
      rw [hQ]
      exact p_iret hx hb hr (by decide) hlocks hS (by rcases (by omega : k = 0 ∨ k = 1 ∨ k = 2 ∨ k = 3 ∨ k = 4 ∨ k = 5) with rfl | rfl | rfl | rfl | rfl | rfl <;> first | (exfalso; omega) | decide) dX5_isOrIsUnder_21
  · replace c17_2 : 2 = k := (nI_eq (show 2 < 2147483648 by omega) (show k < 2147483648 by omega)).mp c17_2
    refine lv_iconst (v := nI 1) hx hb dX5_isOrIsUnder_20 (by decide) ?_
    rw [hQ]
    exact p_iret hx hb hr (by decide) hlocks hS (by rcases (by omega : k = 0 ∨ k = 1 ∨ k = 2 ∨ k = 3 ∨ k = 4 ∨ k = 5) with rfl | rfl | rfl | rfl | rfl | rfl <;> first | (exfalso; omega) | decide) dX5_isOrIsUnder_21

set_option maxHeartbeats 4000000 in
set_option maxRecDepth 100000 in
theorem c_X5_isOrIsUnder_3 (l : Launch) (t : Nat) (k : Nat) (hk6 : k < 6) : Met l yX5_isOrIsUnder wsX5_isOrIsUnder ({ frames := 0, cells := 0, slots := 0, locals := 0 } : Room) (va_Pc [.int (nI (3)), .int (nI (k))] (UDA (fun _ => False) t)) (pQi (bI (iu 3 k))) 0 0 (fun _ => False) := by
  refine u_entry (C := RX5) (cc := cX5_isOrIsUnder) (maxL := 4) (ret := (some .boolean)) rfl (by decide) rfl (Nat.le_of_ble_eq_true rfl) (fun p e s m args below meth c Q ls hQ hx hb hr hts hown hlocks hml hU hl => ?_)
  have hl : lv_has ls 4 [(0, .int (nI (3))), (1, .int (nI (k)))] := hl
  have hS := va_S.rf (A := fun _ => False) (H0 := s.heap)
  refine lv_iload_n hx hb dX5_isOrIsUnder_0 rfl (lv_at hl 0 rfl) ?_
  refine lv_istore_n (lv' := [(2, .int (nI (3))), (0, .int (nI (3))), (1, .int (nI (k)))]) hx hb dX5_isOrIsUnder_1 rfl hl (by decide) rfl (fun ls hl => ?_)
  refine lv_iconst (v := nI 0) hx hb dX5_isOrIsUnder_2 (by decide) ?_
  refine lv_istore_n (lv' := [(3, .int (nI (0))), (2, .int (nI (3))), (0, .int (nI (3))), (1, .int (nI (k)))]) hx hb dX5_isOrIsUnder_3 rfl hl (by decide) rfl (fun ls hl => ?_)
  refine lv_iload_n hx hb dX5_isOrIsUnder_4 rfl (lv_at hl 0 rfl) ?_
  refine lv_bipush (v := nI 6) hx hb dX5_isOrIsUnder_5 (by decide) ?_
  refine lv_icmp_ge (tgt := 34) hx hb dX5_isOrIsUnder_7 (by decide) (fun h => absurd h (by decide)) (fun _ => ?_)
  refine lv_iload_n hx hb dX5_isOrIsUnder_10 rfl (lv_at hl 1 rfl) ?_
  refine lv_iconst (v := (-1)) hx hb dX5_isOrIsUnder_11 (by decide) ?_
  refine lv_icmp_eq (tgt := 34) hx hb dX5_isOrIsUnder_12 (by decide) (fun h => absurd h (by decide)) (fun _ => ?_)
  refine lv_iload_n hx hb dX5_isOrIsUnder_15 rfl (lv_at hl 1 rfl) ?_
  refine lv_iload_n hx hb dX5_isOrIsUnder_16 rfl (lv_at hl 3 rfl) ?_
  refine lv_icmp_ne (tgt := 22) hx hb dX5_isOrIsUnder_17 (by decide) (fun c17_2 => ?_) (fun c17_2 => ?_)
  · replace c17_2 : ¬ 3 = k := fun h => c17_2 ((nI_eq (show 3 < 2147483648 by omega) (show k < 2147483648 by omega)).mpr h)
    refine va_gets (C := "JoinedStores") (n := "UNDER") (d := "[I") hx hb hU.1 hS hown (hts (.fieldLink RX5 298 "JoinedStores" "UNDER" "[I") (by decide +kernel)) (fun _ h9 => h9) dX5_isOrIsUnder_22 ?_
    refine lv_iload_n hx hb dX5_isOrIsUnder_25 rfl (lv_at hl 1 rfl) ?_
    refine va_ti (v := .int (nI (1))) hx hb hU.2 hS (vp_in_nI (show 3 < 6 by decide) (by decide)) (by rw [nI_clamp (show 3 < 2147483648 by decide)]; exact congrArg Value.int (show und 3 = nI (1) by decide +kernel)) dX5_isOrIsUnder_26 ?_
    refine lv_istore_n (lv' := [(2, .int (nI (1))), (3, .int (nI (0))), (0, .int (nI (3))), (1, .int (nI (k)))]) hx hb dX5_isOrIsUnder_27 rfl hl (by decide) rfl (fun ls hl => ?_)
    refine lv_iinc (v := nI (1)) (lv' := [(3, .int (nI (1))), (2, .int (nI (1))), (0, .int (nI (3))), (1, .int (nI (k)))]) hx hb dX5_isOrIsUnder_28 hl (k := 1) rfl (by decide) (by decide) rfl (fun ls hl => ?_)
    refine lv_goto (tgt := 4) hx hb dX5_isOrIsUnder_31 (by decide) ?_
    refine lv_iload_n hx hb dX5_isOrIsUnder_4 rfl (lv_at hl 0 rfl) ?_
    refine lv_bipush (v := nI 6) hx hb dX5_isOrIsUnder_5 (by decide) ?_
    refine lv_icmp_ge (tgt := 34) hx hb dX5_isOrIsUnder_7 (by decide) (fun h => absurd h (by decide)) (fun _ => ?_)
    refine lv_iload_n hx hb dX5_isOrIsUnder_10 rfl (lv_at hl 1 rfl) ?_
    refine lv_iconst (v := (-1)) hx hb dX5_isOrIsUnder_11 (by decide) ?_
    refine lv_icmp_eq (tgt := 34) hx hb dX5_isOrIsUnder_12 (by decide) (fun h => absurd h (by decide)) (fun _ => ?_)
    refine lv_iload_n hx hb dX5_isOrIsUnder_15 rfl (lv_at hl 1 rfl) ?_
    refine lv_iload_n hx hb dX5_isOrIsUnder_16 rfl (lv_at hl 3 rfl) ?_
    refine lv_icmp_ne (tgt := 22) hx hb dX5_isOrIsUnder_17 (by decide) (fun c17_5 => ?_) (fun c17_5 => ?_)
    · replace c17_5 : ¬ 1 = k := fun h => c17_5 ((nI_eq (show 1 < 2147483648 by omega) (show k < 2147483648 by omega)).mpr h)
      refine va_gets (C := "JoinedStores") (n := "UNDER") (d := "[I") hx hb hU.1 hS hown (hts (.fieldLink RX5 298 "JoinedStores" "UNDER" "[I") (by decide +kernel)) (fun _ h9 => h9) dX5_isOrIsUnder_22 ?_
      refine lv_iload_n hx hb dX5_isOrIsUnder_25 rfl (lv_at hl 1 rfl) ?_
      refine va_ti (v := .int (nI (0))) hx hb hU.2 hS (vp_in_nI (show 1 < 6 by decide) (by decide)) (by rw [nI_clamp (show 1 < 2147483648 by decide)]; exact congrArg Value.int (show und 1 = nI (0) by decide +kernel)) dX5_isOrIsUnder_26 ?_
      refine lv_istore_n (lv' := [(2, .int (nI (0))), (3, .int (nI (1))), (0, .int (nI (3))), (1, .int (nI (k)))]) hx hb dX5_isOrIsUnder_27 rfl hl (by decide) rfl (fun ls hl => ?_)
      refine lv_iinc (v := nI (2)) (lv' := [(3, .int (nI (2))), (2, .int (nI (0))), (0, .int (nI (3))), (1, .int (nI (k)))]) hx hb dX5_isOrIsUnder_28 hl (k := 1) rfl (by decide) (by decide) rfl (fun ls hl => ?_)
      refine lv_goto (tgt := 4) hx hb dX5_isOrIsUnder_31 (by decide) ?_
      refine lv_iload_n hx hb dX5_isOrIsUnder_4 rfl (lv_at hl 0 rfl) ?_
      refine lv_bipush (v := nI 6) hx hb dX5_isOrIsUnder_5 (by decide) ?_
      refine lv_icmp_ge (tgt := 34) hx hb dX5_isOrIsUnder_7 (by decide) (fun h => absurd h (by decide)) (fun _ => ?_)
      refine lv_iload_n hx hb dX5_isOrIsUnder_10 rfl (lv_at hl 1 rfl) ?_
      refine lv_iconst (v := (-1)) hx hb dX5_isOrIsUnder_11 (by decide) ?_
      refine lv_icmp_eq (tgt := 34) hx hb dX5_isOrIsUnder_12 (by decide) (fun h => absurd h (by decide)) (fun _ => ?_)
      refine lv_iload_n hx hb dX5_isOrIsUnder_15 rfl (lv_at hl 1 rfl) ?_
      refine lv_iload_n hx hb dX5_isOrIsUnder_16 rfl (lv_at hl 3 rfl) ?_
      refine lv_icmp_ne (tgt := 22) hx hb dX5_isOrIsUnder_17 (by decide) (fun c17_8 => ?_) (fun c17_8 => ?_)
      · replace c17_8 : ¬ 0 = k := fun h => c17_8 ((nI_eq (show 0 < 2147483648 by omega) (show k < 2147483648 by omega)).mpr h)
        refine va_gets (C := "JoinedStores") (n := "UNDER") (d := "[I") hx hb hU.1 hS hown (hts (.fieldLink RX5 298 "JoinedStores" "UNDER" "[I") (by decide +kernel)) (fun _ h9 => h9) dX5_isOrIsUnder_22 ?_
        refine lv_iload_n hx hb dX5_isOrIsUnder_25 rfl (lv_at hl 1 rfl) ?_
        refine va_ti (v := .int ((-1))) hx hb hU.2 hS (vp_in_nI (show 0 < 6 by decide) (by decide)) (by rw [nI_clamp (show 0 < 2147483648 by decide)]; exact congrArg Value.int (show und 0 = (-1) by decide +kernel)) dX5_isOrIsUnder_26 ?_
        refine lv_istore_n (lv' := [(2, .int ((-1))), (3, .int (nI (2))), (0, .int (nI (3))), (1, .int (nI (k)))]) hx hb dX5_isOrIsUnder_27 rfl hl (by decide) rfl (fun ls hl => ?_)
        refine lv_iinc (v := nI (3)) (lv' := [(3, .int (nI (3))), (2, .int ((-1))), (0, .int (nI (3))), (1, .int (nI (k)))]) hx hb dX5_isOrIsUnder_28 hl (k := 1) rfl (by decide) (by decide) rfl (fun ls hl => ?_)
        refine lv_goto (tgt := 4) hx hb dX5_isOrIsUnder_31 (by decide) ?_
        refine lv_iload_n hx hb dX5_isOrIsUnder_4 rfl (lv_at hl 0 rfl) ?_
        refine lv_bipush (v := nI 6) hx hb dX5_isOrIsUnder_5 (by decide) ?_
        refine lv_icmp_ge (tgt := 34) hx hb dX5_isOrIsUnder_7 (by decide) (fun h => absurd h (by decide)) (fun _ => ?_)
        refine lv_iload_n hx hb dX5_isOrIsUnder_10 rfl (lv_at hl 1 rfl) ?_
        refine lv_iconst (v := (-1)) hx hb dX5_isOrIsUnder_11 (by decide) ?_
        refine lv_icmp_eq (tgt := 34) hx hb dX5_isOrIsUnder_12 (by decide) (fun _ => ?_) (fun h => absurd (by decide) h)
        refine lv_iconst (v := nI 0) hx hb dX5_isOrIsUnder_34 (by decide) ?_
        rw [hQ]
        exact p_iret hx hb hr (by decide) hlocks hS (by rcases (by omega : k = 0 ∨ k = 1 ∨ k = 2 ∨ k = 3 ∨ k = 4 ∨ k = 5) with rfl | rfl | rfl | rfl | rfl | rfl <;> first | (exfalso; omega) | decide) dX5_isOrIsUnder_35
      · replace c17_8 : 0 = k := (nI_eq (show 0 < 2147483648 by omega) (show k < 2147483648 by omega)).mp c17_8
        refine lv_iconst (v := nI 1) hx hb dX5_isOrIsUnder_20 (by decide) ?_
        rw [hQ]
        exact p_iret hx hb hr (by decide) hlocks hS (by rcases (by omega : k = 0 ∨ k = 1 ∨ k = 2 ∨ k = 3 ∨ k = 4 ∨ k = 5) with rfl | rfl | rfl | rfl | rfl | rfl <;> first | (exfalso; omega) | decide) dX5_isOrIsUnder_21
    · replace c17_5 : 1 = k := (nI_eq (show 1 < 2147483648 by omega) (show k < 2147483648 by omega)).mp c17_5
      refine lv_iconst (v := nI 1) hx hb dX5_isOrIsUnder_20 (by decide) ?_
      rw [hQ]
      exact p_iret hx hb hr (by decide) hlocks hS (by rcases (by omega : k = 0 ∨ k = 1 ∨ k = 2 ∨ k = 3 ∨ k = 4 ∨ k = 5) with rfl | rfl | rfl | rfl | rfl | rfl <;> first | (exfalso; omega) | decide) dX5_isOrIsUnder_21
  · replace c17_2 : 3 = k := (nI_eq (show 3 < 2147483648 by omega) (show k < 2147483648 by omega)).mp c17_2
    refine lv_iconst (v := nI 1) hx hb dX5_isOrIsUnder_20 (by decide) ?_
    rw [hQ]
    exact p_iret hx hb hr (by decide) hlocks hS (by rcases (by omega : k = 0 ∨ k = 1 ∨ k = 2 ∨ k = 3 ∨ k = 4 ∨ k = 5) with rfl | rfl | rfl | rfl | rfl | rfl <;> first | (exfalso; omega) | decide) dX5_isOrIsUnder_21

set_option maxHeartbeats 4000000 in
set_option maxRecDepth 100000 in
theorem c_X5_isOrIsUnder_4 (l : Launch) (t : Nat) (k : Nat) (hk6 : k < 6) : Met l yX5_isOrIsUnder wsX5_isOrIsUnder ({ frames := 0, cells := 0, slots := 0, locals := 0 } : Room) (va_Pc [.int (nI (4)), .int (nI (k))] (UDA (fun _ => False) t)) (pQi (bI (iu 4 k))) 0 0 (fun _ => False) := by
  refine u_entry (C := RX5) (cc := cX5_isOrIsUnder) (maxL := 4) (ret := (some .boolean)) rfl (by decide) rfl (Nat.le_of_ble_eq_true rfl) (fun p e s m args below meth c Q ls hQ hx hb hr hts hown hlocks hml hU hl => ?_)
  have hl : lv_has ls 4 [(0, .int (nI (4))), (1, .int (nI (k)))] := hl
  have hS := va_S.rf (A := fun _ => False) (H0 := s.heap)
  refine lv_iload_n hx hb dX5_isOrIsUnder_0 rfl (lv_at hl 0 rfl) ?_
  refine lv_istore_n (lv' := [(2, .int (nI (4))), (0, .int (nI (4))), (1, .int (nI (k)))]) hx hb dX5_isOrIsUnder_1 rfl hl (by decide) rfl (fun ls hl => ?_)
  refine lv_iconst (v := nI 0) hx hb dX5_isOrIsUnder_2 (by decide) ?_
  refine lv_istore_n (lv' := [(3, .int (nI (0))), (2, .int (nI (4))), (0, .int (nI (4))), (1, .int (nI (k)))]) hx hb dX5_isOrIsUnder_3 rfl hl (by decide) rfl (fun ls hl => ?_)
  refine lv_iload_n hx hb dX5_isOrIsUnder_4 rfl (lv_at hl 0 rfl) ?_
  refine lv_bipush (v := nI 6) hx hb dX5_isOrIsUnder_5 (by decide) ?_
  refine lv_icmp_ge (tgt := 34) hx hb dX5_isOrIsUnder_7 (by decide) (fun h => absurd h (by decide)) (fun _ => ?_)
  refine lv_iload_n hx hb dX5_isOrIsUnder_10 rfl (lv_at hl 1 rfl) ?_
  refine lv_iconst (v := (-1)) hx hb dX5_isOrIsUnder_11 (by decide) ?_
  refine lv_icmp_eq (tgt := 34) hx hb dX5_isOrIsUnder_12 (by decide) (fun h => absurd h (by decide)) (fun _ => ?_)
  refine lv_iload_n hx hb dX5_isOrIsUnder_15 rfl (lv_at hl 1 rfl) ?_
  refine lv_iload_n hx hb dX5_isOrIsUnder_16 rfl (lv_at hl 3 rfl) ?_
  refine lv_icmp_ne (tgt := 22) hx hb dX5_isOrIsUnder_17 (by decide) (fun c17_2 => ?_) (fun c17_2 => ?_)
  · replace c17_2 : ¬ 4 = k := fun h => c17_2 ((nI_eq (show 4 < 2147483648 by omega) (show k < 2147483648 by omega)).mpr h)
    refine va_gets (C := "JoinedStores") (n := "UNDER") (d := "[I") hx hb hU.1 hS hown (hts (.fieldLink RX5 298 "JoinedStores" "UNDER" "[I") (by decide +kernel)) (fun _ h9 => h9) dX5_isOrIsUnder_22 ?_
    refine lv_iload_n hx hb dX5_isOrIsUnder_25 rfl (lv_at hl 1 rfl) ?_
    refine va_ti (v := .int (nI (2))) hx hb hU.2 hS (vp_in_nI (show 4 < 6 by decide) (by decide)) (by rw [nI_clamp (show 4 < 2147483648 by decide)]; exact congrArg Value.int (show und 4 = nI (2) by decide +kernel)) dX5_isOrIsUnder_26 ?_
    refine lv_istore_n (lv' := [(2, .int (nI (2))), (3, .int (nI (0))), (0, .int (nI (4))), (1, .int (nI (k)))]) hx hb dX5_isOrIsUnder_27 rfl hl (by decide) rfl (fun ls hl => ?_)
    refine lv_iinc (v := nI (1)) (lv' := [(3, .int (nI (1))), (2, .int (nI (2))), (0, .int (nI (4))), (1, .int (nI (k)))]) hx hb dX5_isOrIsUnder_28 hl (k := 1) rfl (by decide) (by decide) rfl (fun ls hl => ?_)
    refine lv_goto (tgt := 4) hx hb dX5_isOrIsUnder_31 (by decide) ?_
    refine lv_iload_n hx hb dX5_isOrIsUnder_4 rfl (lv_at hl 0 rfl) ?_
    refine lv_bipush (v := nI 6) hx hb dX5_isOrIsUnder_5 (by decide) ?_
    refine lv_icmp_ge (tgt := 34) hx hb dX5_isOrIsUnder_7 (by decide) (fun h => absurd h (by decide)) (fun _ => ?_)
    refine lv_iload_n hx hb dX5_isOrIsUnder_10 rfl (lv_at hl 1 rfl) ?_
    refine lv_iconst (v := (-1)) hx hb dX5_isOrIsUnder_11 (by decide) ?_
    refine lv_icmp_eq (tgt := 34) hx hb dX5_isOrIsUnder_12 (by decide) (fun h => absurd h (by decide)) (fun _ => ?_)
    refine lv_iload_n hx hb dX5_isOrIsUnder_15 rfl (lv_at hl 1 rfl) ?_
    refine lv_iload_n hx hb dX5_isOrIsUnder_16 rfl (lv_at hl 3 rfl) ?_
    refine lv_icmp_ne (tgt := 22) hx hb dX5_isOrIsUnder_17 (by decide) (fun c17_5 => ?_) (fun c17_5 => ?_)
    · replace c17_5 : ¬ 2 = k := fun h => c17_5 ((nI_eq (show 2 < 2147483648 by omega) (show k < 2147483648 by omega)).mpr h)
      refine va_gets (C := "JoinedStores") (n := "UNDER") (d := "[I") hx hb hU.1 hS hown (hts (.fieldLink RX5 298 "JoinedStores" "UNDER" "[I") (by decide +kernel)) (fun _ h9 => h9) dX5_isOrIsUnder_22 ?_
      refine lv_iload_n hx hb dX5_isOrIsUnder_25 rfl (lv_at hl 1 rfl) ?_
      refine va_ti (v := .int (nI (0))) hx hb hU.2 hS (vp_in_nI (show 2 < 6 by decide) (by decide)) (by rw [nI_clamp (show 2 < 2147483648 by decide)]; exact congrArg Value.int (show und 2 = nI (0) by decide +kernel)) dX5_isOrIsUnder_26 ?_
      refine lv_istore_n (lv' := [(2, .int (nI (0))), (3, .int (nI (1))), (0, .int (nI (4))), (1, .int (nI (k)))]) hx hb dX5_isOrIsUnder_27 rfl hl (by decide) rfl (fun ls hl => ?_)
      refine lv_iinc (v := nI (2)) (lv' := [(3, .int (nI (2))), (2, .int (nI (0))), (0, .int (nI (4))), (1, .int (nI (k)))]) hx hb dX5_isOrIsUnder_28 hl (k := 1) rfl (by decide) (by decide) rfl (fun ls hl => ?_)
      refine lv_goto (tgt := 4) hx hb dX5_isOrIsUnder_31 (by decide) ?_
      refine lv_iload_n hx hb dX5_isOrIsUnder_4 rfl (lv_at hl 0 rfl) ?_
      refine lv_bipush (v := nI 6) hx hb dX5_isOrIsUnder_5 (by decide) ?_
      refine lv_icmp_ge (tgt := 34) hx hb dX5_isOrIsUnder_7 (by decide) (fun h => absurd h (by decide)) (fun _ => ?_)
      refine lv_iload_n hx hb dX5_isOrIsUnder_10 rfl (lv_at hl 1 rfl) ?_
      refine lv_iconst (v := (-1)) hx hb dX5_isOrIsUnder_11 (by decide) ?_
      refine lv_icmp_eq (tgt := 34) hx hb dX5_isOrIsUnder_12 (by decide) (fun h => absurd h (by decide)) (fun _ => ?_)
      refine lv_iload_n hx hb dX5_isOrIsUnder_15 rfl (lv_at hl 1 rfl) ?_
      refine lv_iload_n hx hb dX5_isOrIsUnder_16 rfl (lv_at hl 3 rfl) ?_
      refine lv_icmp_ne (tgt := 22) hx hb dX5_isOrIsUnder_17 (by decide) (fun c17_8 => ?_) (fun c17_8 => ?_)
      · replace c17_8 : ¬ 0 = k := fun h => c17_8 ((nI_eq (show 0 < 2147483648 by omega) (show k < 2147483648 by omega)).mpr h)
        refine va_gets (C := "JoinedStores") (n := "UNDER") (d := "[I") hx hb hU.1 hS hown (hts (.fieldLink RX5 298 "JoinedStores" "UNDER" "[I") (by decide +kernel)) (fun _ h9 => h9) dX5_isOrIsUnder_22 ?_
        refine lv_iload_n hx hb dX5_isOrIsUnder_25 rfl (lv_at hl 1 rfl) ?_
        refine va_ti (v := .int ((-1))) hx hb hU.2 hS (vp_in_nI (show 0 < 6 by decide) (by decide)) (by rw [nI_clamp (show 0 < 2147483648 by decide)]; exact congrArg Value.int (show und 0 = (-1) by decide +kernel)) dX5_isOrIsUnder_26 ?_
        refine lv_istore_n (lv' := [(2, .int ((-1))), (3, .int (nI (2))), (0, .int (nI (4))), (1, .int (nI (k)))]) hx hb dX5_isOrIsUnder_27 rfl hl (by decide) rfl (fun ls hl => ?_)
        refine lv_iinc (v := nI (3)) (lv' := [(3, .int (nI (3))), (2, .int ((-1))), (0, .int (nI (4))), (1, .int (nI (k)))]) hx hb dX5_isOrIsUnder_28 hl (k := 1) rfl (by decide) (by decide) rfl (fun ls hl => ?_)
        refine lv_goto (tgt := 4) hx hb dX5_isOrIsUnder_31 (by decide) ?_
        refine lv_iload_n hx hb dX5_isOrIsUnder_4 rfl (lv_at hl 0 rfl) ?_
        refine lv_bipush (v := nI 6) hx hb dX5_isOrIsUnder_5 (by decide) ?_
        refine lv_icmp_ge (tgt := 34) hx hb dX5_isOrIsUnder_7 (by decide) (fun h => absurd h (by decide)) (fun _ => ?_)
        refine lv_iload_n hx hb dX5_isOrIsUnder_10 rfl (lv_at hl 1 rfl) ?_
        refine lv_iconst (v := (-1)) hx hb dX5_isOrIsUnder_11 (by decide) ?_
        refine lv_icmp_eq (tgt := 34) hx hb dX5_isOrIsUnder_12 (by decide) (fun _ => ?_) (fun h => absurd (by decide) h)
        refine lv_iconst (v := nI 0) hx hb dX5_isOrIsUnder_34 (by decide) ?_
        rw [hQ]
        exact p_iret hx hb hr (by decide) hlocks hS (by rcases (by omega : k = 0 ∨ k = 1 ∨ k = 2 ∨ k = 3 ∨ k = 4 ∨ k = 5) with rfl | rfl | rfl | rfl | rfl | rfl <;> first | (exfalso; omega) | decide) dX5_isOrIsUnder_35
      · replace c17_8 : 0 = k := (nI_eq (show 0 < 2147483648 by omega) (show k < 2147483648 by omega)).mp c17_8
        refine lv_iconst (v := nI 1) hx hb dX5_isOrIsUnder_20 (by decide) ?_
        rw [hQ]
        exact p_iret hx hb hr (by decide) hlocks hS (by rcases (by omega : k = 0 ∨ k = 1 ∨ k = 2 ∨ k = 3 ∨ k = 4 ∨ k = 5) with rfl | rfl | rfl | rfl | rfl | rfl <;> first | (exfalso; omega) | decide) dX5_isOrIsUnder_21
    · replace c17_5 : 2 = k := (nI_eq (show 2 < 2147483648 by omega) (show k < 2147483648 by omega)).mp c17_5
      refine lv_iconst (v := nI 1) hx hb dX5_isOrIsUnder_20 (by decide) ?_
      rw [hQ]
      exact p_iret hx hb hr (by decide) hlocks hS (by rcases (by omega : k = 0 ∨ k = 1 ∨ k = 2 ∨ k = 3 ∨ k = 4 ∨ k = 5) with rfl | rfl | rfl | rfl | rfl | rfl <;> first | (exfalso; omega) | decide) dX5_isOrIsUnder_21
  · replace c17_2 : 4 = k := (nI_eq (show 4 < 2147483648 by omega) (show k < 2147483648 by omega)).mp c17_2
    refine lv_iconst (v := nI 1) hx hb dX5_isOrIsUnder_20 (by decide) ?_
    rw [hQ]
    exact p_iret hx hb hr (by decide) hlocks hS (by rcases (by omega : k = 0 ∨ k = 1 ∨ k = 2 ∨ k = 3 ∨ k = 4 ∨ k = 5) with rfl | rfl | rfl | rfl | rfl | rfl <;> first | (exfalso; omega) | decide) dX5_isOrIsUnder_21

set_option maxHeartbeats 4000000 in
set_option maxRecDepth 100000 in
theorem c_X5_isOrIsUnder_5 (l : Launch) (t : Nat) (k : Nat) (hk6 : k < 6) : Met l yX5_isOrIsUnder wsX5_isOrIsUnder ({ frames := 0, cells := 0, slots := 0, locals := 0 } : Room) (va_Pc [.int (nI (5)), .int (nI (k))] (UDA (fun _ => False) t)) (pQi (bI (iu 5 k))) 0 0 (fun _ => False) := by
  refine u_entry (C := RX5) (cc := cX5_isOrIsUnder) (maxL := 4) (ret := (some .boolean)) rfl (by decide) rfl (Nat.le_of_ble_eq_true rfl) (fun p e s m args below meth c Q ls hQ hx hb hr hts hown hlocks hml hU hl => ?_)
  have hl : lv_has ls 4 [(0, .int (nI (5))), (1, .int (nI (k)))] := hl
  have hS := va_S.rf (A := fun _ => False) (H0 := s.heap)
  refine lv_iload_n hx hb dX5_isOrIsUnder_0 rfl (lv_at hl 0 rfl) ?_
  refine lv_istore_n (lv' := [(2, .int (nI (5))), (0, .int (nI (5))), (1, .int (nI (k)))]) hx hb dX5_isOrIsUnder_1 rfl hl (by decide) rfl (fun ls hl => ?_)
  refine lv_iconst (v := nI 0) hx hb dX5_isOrIsUnder_2 (by decide) ?_
  refine lv_istore_n (lv' := [(3, .int (nI (0))), (2, .int (nI (5))), (0, .int (nI (5))), (1, .int (nI (k)))]) hx hb dX5_isOrIsUnder_3 rfl hl (by decide) rfl (fun ls hl => ?_)
  refine lv_iload_n hx hb dX5_isOrIsUnder_4 rfl (lv_at hl 0 rfl) ?_
  refine lv_bipush (v := nI 6) hx hb dX5_isOrIsUnder_5 (by decide) ?_
  refine lv_icmp_ge (tgt := 34) hx hb dX5_isOrIsUnder_7 (by decide) (fun h => absurd h (by decide)) (fun _ => ?_)
  refine lv_iload_n hx hb dX5_isOrIsUnder_10 rfl (lv_at hl 1 rfl) ?_
  refine lv_iconst (v := (-1)) hx hb dX5_isOrIsUnder_11 (by decide) ?_
  refine lv_icmp_eq (tgt := 34) hx hb dX5_isOrIsUnder_12 (by decide) (fun h => absurd h (by decide)) (fun _ => ?_)
  refine lv_iload_n hx hb dX5_isOrIsUnder_15 rfl (lv_at hl 1 rfl) ?_
  refine lv_iload_n hx hb dX5_isOrIsUnder_16 rfl (lv_at hl 3 rfl) ?_
  refine lv_icmp_ne (tgt := 22) hx hb dX5_isOrIsUnder_17 (by decide) (fun c17_2 => ?_) (fun c17_2 => ?_)
  · replace c17_2 : ¬ 5 = k := fun h => c17_2 ((nI_eq (show 5 < 2147483648 by omega) (show k < 2147483648 by omega)).mpr h)
    refine va_gets (C := "JoinedStores") (n := "UNDER") (d := "[I") hx hb hU.1 hS hown (hts (.fieldLink RX5 298 "JoinedStores" "UNDER" "[I") (by decide +kernel)) (fun _ h9 => h9) dX5_isOrIsUnder_22 ?_
    refine lv_iload_n hx hb dX5_isOrIsUnder_25 rfl (lv_at hl 1 rfl) ?_
    refine va_ti (v := .int (nI (3))) hx hb hU.2 hS (vp_in_nI (show 5 < 6 by decide) (by decide)) (by rw [nI_clamp (show 5 < 2147483648 by decide)]; exact congrArg Value.int (show und 5 = nI (3) by decide +kernel)) dX5_isOrIsUnder_26 ?_
    refine lv_istore_n (lv' := [(2, .int (nI (3))), (3, .int (nI (0))), (0, .int (nI (5))), (1, .int (nI (k)))]) hx hb dX5_isOrIsUnder_27 rfl hl (by decide) rfl (fun ls hl => ?_)
    refine lv_iinc (v := nI (1)) (lv' := [(3, .int (nI (1))), (2, .int (nI (3))), (0, .int (nI (5))), (1, .int (nI (k)))]) hx hb dX5_isOrIsUnder_28 hl (k := 1) rfl (by decide) (by decide) rfl (fun ls hl => ?_)
    refine lv_goto (tgt := 4) hx hb dX5_isOrIsUnder_31 (by decide) ?_
    refine lv_iload_n hx hb dX5_isOrIsUnder_4 rfl (lv_at hl 0 rfl) ?_
    refine lv_bipush (v := nI 6) hx hb dX5_isOrIsUnder_5 (by decide) ?_
    refine lv_icmp_ge (tgt := 34) hx hb dX5_isOrIsUnder_7 (by decide) (fun h => absurd h (by decide)) (fun _ => ?_)
    refine lv_iload_n hx hb dX5_isOrIsUnder_10 rfl (lv_at hl 1 rfl) ?_
    refine lv_iconst (v := (-1)) hx hb dX5_isOrIsUnder_11 (by decide) ?_
    refine lv_icmp_eq (tgt := 34) hx hb dX5_isOrIsUnder_12 (by decide) (fun h => absurd h (by decide)) (fun _ => ?_)
    refine lv_iload_n hx hb dX5_isOrIsUnder_15 rfl (lv_at hl 1 rfl) ?_
    refine lv_iload_n hx hb dX5_isOrIsUnder_16 rfl (lv_at hl 3 rfl) ?_
    refine lv_icmp_ne (tgt := 22) hx hb dX5_isOrIsUnder_17 (by decide) (fun c17_5 => ?_) (fun c17_5 => ?_)
    · replace c17_5 : ¬ 3 = k := fun h => c17_5 ((nI_eq (show 3 < 2147483648 by omega) (show k < 2147483648 by omega)).mpr h)
      refine va_gets (C := "JoinedStores") (n := "UNDER") (d := "[I") hx hb hU.1 hS hown (hts (.fieldLink RX5 298 "JoinedStores" "UNDER" "[I") (by decide +kernel)) (fun _ h9 => h9) dX5_isOrIsUnder_22 ?_
      refine lv_iload_n hx hb dX5_isOrIsUnder_25 rfl (lv_at hl 1 rfl) ?_
      refine va_ti (v := .int (nI (1))) hx hb hU.2 hS (vp_in_nI (show 3 < 6 by decide) (by decide)) (by rw [nI_clamp (show 3 < 2147483648 by decide)]; exact congrArg Value.int (show und 3 = nI (1) by decide +kernel)) dX5_isOrIsUnder_26 ?_
      refine lv_istore_n (lv' := [(2, .int (nI (1))), (3, .int (nI (1))), (0, .int (nI (5))), (1, .int (nI (k)))]) hx hb dX5_isOrIsUnder_27 rfl hl (by decide) rfl (fun ls hl => ?_)
      refine lv_iinc (v := nI (2)) (lv' := [(3, .int (nI (2))), (2, .int (nI (1))), (0, .int (nI (5))), (1, .int (nI (k)))]) hx hb dX5_isOrIsUnder_28 hl (k := 1) rfl (by decide) (by decide) rfl (fun ls hl => ?_)
      refine lv_goto (tgt := 4) hx hb dX5_isOrIsUnder_31 (by decide) ?_
      refine lv_iload_n hx hb dX5_isOrIsUnder_4 rfl (lv_at hl 0 rfl) ?_
      refine lv_bipush (v := nI 6) hx hb dX5_isOrIsUnder_5 (by decide) ?_
      refine lv_icmp_ge (tgt := 34) hx hb dX5_isOrIsUnder_7 (by decide) (fun h => absurd h (by decide)) (fun _ => ?_)
      refine lv_iload_n hx hb dX5_isOrIsUnder_10 rfl (lv_at hl 1 rfl) ?_
      refine lv_iconst (v := (-1)) hx hb dX5_isOrIsUnder_11 (by decide) ?_
      refine lv_icmp_eq (tgt := 34) hx hb dX5_isOrIsUnder_12 (by decide) (fun h => absurd h (by decide)) (fun _ => ?_)
      refine lv_iload_n hx hb dX5_isOrIsUnder_15 rfl (lv_at hl 1 rfl) ?_
      refine lv_iload_n hx hb dX5_isOrIsUnder_16 rfl (lv_at hl 3 rfl) ?_
      refine lv_icmp_ne (tgt := 22) hx hb dX5_isOrIsUnder_17 (by decide) (fun c17_8 => ?_) (fun c17_8 => ?_)
      · replace c17_8 : ¬ 1 = k := fun h => c17_8 ((nI_eq (show 1 < 2147483648 by omega) (show k < 2147483648 by omega)).mpr h)
        refine va_gets (C := "JoinedStores") (n := "UNDER") (d := "[I") hx hb hU.1 hS hown (hts (.fieldLink RX5 298 "JoinedStores" "UNDER" "[I") (by decide +kernel)) (fun _ h9 => h9) dX5_isOrIsUnder_22 ?_
        refine lv_iload_n hx hb dX5_isOrIsUnder_25 rfl (lv_at hl 1 rfl) ?_
        refine va_ti (v := .int (nI (0))) hx hb hU.2 hS (vp_in_nI (show 1 < 6 by decide) (by decide)) (by rw [nI_clamp (show 1 < 2147483648 by decide)]; exact congrArg Value.int (show und 1 = nI (0) by decide +kernel)) dX5_isOrIsUnder_26 ?_
        refine lv_istore_n (lv' := [(2, .int (nI (0))), (3, .int (nI (2))), (0, .int (nI (5))), (1, .int (nI (k)))]) hx hb dX5_isOrIsUnder_27 rfl hl (by decide) rfl (fun ls hl => ?_)
        refine lv_iinc (v := nI (3)) (lv' := [(3, .int (nI (3))), (2, .int (nI (0))), (0, .int (nI (5))), (1, .int (nI (k)))]) hx hb dX5_isOrIsUnder_28 hl (k := 1) rfl (by decide) (by decide) rfl (fun ls hl => ?_)
        refine lv_goto (tgt := 4) hx hb dX5_isOrIsUnder_31 (by decide) ?_
        refine lv_iload_n hx hb dX5_isOrIsUnder_4 rfl (lv_at hl 0 rfl) ?_
        refine lv_bipush (v := nI 6) hx hb dX5_isOrIsUnder_5 (by decide) ?_
        refine lv_icmp_ge (tgt := 34) hx hb dX5_isOrIsUnder_7 (by decide) (fun h => absurd h (by decide)) (fun _ => ?_)
        refine lv_iload_n hx hb dX5_isOrIsUnder_10 rfl (lv_at hl 1 rfl) ?_
        refine lv_iconst (v := (-1)) hx hb dX5_isOrIsUnder_11 (by decide) ?_
        refine lv_icmp_eq (tgt := 34) hx hb dX5_isOrIsUnder_12 (by decide) (fun h => absurd h (by decide)) (fun _ => ?_)
        refine lv_iload_n hx hb dX5_isOrIsUnder_15 rfl (lv_at hl 1 rfl) ?_
        refine lv_iload_n hx hb dX5_isOrIsUnder_16 rfl (lv_at hl 3 rfl) ?_
        refine lv_icmp_ne (tgt := 22) hx hb dX5_isOrIsUnder_17 (by decide) (fun c17_11 => ?_) (fun c17_11 => ?_)
        · replace c17_11 : ¬ 0 = k := fun h => c17_11 ((nI_eq (show 0 < 2147483648 by omega) (show k < 2147483648 by omega)).mpr h)
          refine va_gets (C := "JoinedStores") (n := "UNDER") (d := "[I") hx hb hU.1 hS hown (hts (.fieldLink RX5 298 "JoinedStores" "UNDER" "[I") (by decide +kernel)) (fun _ h9 => h9) dX5_isOrIsUnder_22 ?_
          refine lv_iload_n hx hb dX5_isOrIsUnder_25 rfl (lv_at hl 1 rfl) ?_
          refine va_ti (v := .int ((-1))) hx hb hU.2 hS (vp_in_nI (show 0 < 6 by decide) (by decide)) (by rw [nI_clamp (show 0 < 2147483648 by decide)]; exact congrArg Value.int (show und 0 = (-1) by decide +kernel)) dX5_isOrIsUnder_26 ?_
          refine lv_istore_n (lv' := [(2, .int ((-1))), (3, .int (nI (3))), (0, .int (nI (5))), (1, .int (nI (k)))]) hx hb dX5_isOrIsUnder_27 rfl hl (by decide) rfl (fun ls hl => ?_)
          refine lv_iinc (v := nI (4)) (lv' := [(3, .int (nI (4))), (2, .int ((-1))), (0, .int (nI (5))), (1, .int (nI (k)))]) hx hb dX5_isOrIsUnder_28 hl (k := 1) rfl (by decide) (by decide) rfl (fun ls hl => ?_)
          refine lv_goto (tgt := 4) hx hb dX5_isOrIsUnder_31 (by decide) ?_
          refine lv_iload_n hx hb dX5_isOrIsUnder_4 rfl (lv_at hl 0 rfl) ?_
          refine lv_bipush (v := nI 6) hx hb dX5_isOrIsUnder_5 (by decide) ?_
          refine lv_icmp_ge (tgt := 34) hx hb dX5_isOrIsUnder_7 (by decide) (fun h => absurd h (by decide)) (fun _ => ?_)
          refine lv_iload_n hx hb dX5_isOrIsUnder_10 rfl (lv_at hl 1 rfl) ?_
          refine lv_iconst (v := (-1)) hx hb dX5_isOrIsUnder_11 (by decide) ?_
          refine lv_icmp_eq (tgt := 34) hx hb dX5_isOrIsUnder_12 (by decide) (fun _ => ?_) (fun h => absurd (by decide) h)
          refine lv_iconst (v := nI 0) hx hb dX5_isOrIsUnder_34 (by decide) ?_
          rw [hQ]
          exact p_iret hx hb hr (by decide) hlocks hS (by rcases (by omega : k = 0 ∨ k = 1 ∨ k = 2 ∨ k = 3 ∨ k = 4 ∨ k = 5) with rfl | rfl | rfl | rfl | rfl | rfl <;> first | (exfalso; omega) | decide) dX5_isOrIsUnder_35
        · replace c17_11 : 0 = k := (nI_eq (show 0 < 2147483648 by omega) (show k < 2147483648 by omega)).mp c17_11
          refine lv_iconst (v := nI 1) hx hb dX5_isOrIsUnder_20 (by decide) ?_
          rw [hQ]
          exact p_iret hx hb hr (by decide) hlocks hS (by rcases (by omega : k = 0 ∨ k = 1 ∨ k = 2 ∨ k = 3 ∨ k = 4 ∨ k = 5) with rfl | rfl | rfl | rfl | rfl | rfl <;> first | (exfalso; omega) | decide) dX5_isOrIsUnder_21
      · replace c17_8 : 1 = k := (nI_eq (show 1 < 2147483648 by omega) (show k < 2147483648 by omega)).mp c17_8
        refine lv_iconst (v := nI 1) hx hb dX5_isOrIsUnder_20 (by decide) ?_
        rw [hQ]
        exact p_iret hx hb hr (by decide) hlocks hS (by rcases (by omega : k = 0 ∨ k = 1 ∨ k = 2 ∨ k = 3 ∨ k = 4 ∨ k = 5) with rfl | rfl | rfl | rfl | rfl | rfl <;> first | (exfalso; omega) | decide) dX5_isOrIsUnder_21
    · replace c17_5 : 3 = k := (nI_eq (show 3 < 2147483648 by omega) (show k < 2147483648 by omega)).mp c17_5
      refine lv_iconst (v := nI 1) hx hb dX5_isOrIsUnder_20 (by decide) ?_
      rw [hQ]
      exact p_iret hx hb hr (by decide) hlocks hS (by rcases (by omega : k = 0 ∨ k = 1 ∨ k = 2 ∨ k = 3 ∨ k = 4 ∨ k = 5) with rfl | rfl | rfl | rfl | rfl | rfl <;> first | (exfalso; omega) | decide) dX5_isOrIsUnder_21
  · replace c17_2 : 5 = k := (nI_eq (show 5 < 2147483648 by omega) (show k < 2147483648 by omega)).mp c17_2
    refine lv_iconst (v := nI 1) hx hb dX5_isOrIsUnder_20 (by decide) ?_
    rw [hQ]
    exact p_iret hx hb hr (by decide) hlocks hS (by rcases (by omega : k = 0 ∨ k = 1 ∨ k = 2 ∨ k = 3 ∨ k = 4 ∨ k = 5) with rfl | rfl | rfl | rfl | rfl | rfl <;> first | (exfalso; omega) | decide) dX5_isOrIsUnder_21

theorem c_X5_isOrIsUnder (l : Launch) (t own k : Nat) (ho6 : own < 6) (hk6 : k < 6) : Met l yX5_isOrIsUnder wsX5_isOrIsUnder ({ frames := 0, cells := 0, slots := 0, locals := 0 } : Room) (va_Pc [.int (nI own), .int (nI k)] (UDA (fun _ => False) t)) (pQi (bI (iu own k))) 0 0 (fun _ => False) := by
  rcases (by omega : own = 0 ∨ own = 1 ∨ own = 2 ∨ own = 3 ∨ own = 4 ∨ own = 5) with rfl | rfl | rfl | rfl | rfl | rfl
  · exact c_X5_isOrIsUnder_0 l t k hk6
  · exact c_X5_isOrIsUnder_1 l t k hk6
  · exact c_X5_isOrIsUnder_2 l t k hk6
  · exact c_X5_isOrIsUnder_3 l t k hk6
  · exact c_X5_isOrIsUnder_4 l t k hk6
  · exact c_X5_isOrIsUnder_5 l t k hk6

set_option maxHeartbeats 4000000 in
set_option maxRecDepth 100000 in
theorem c_X5_taken (l : Launch) (D : va_G) (G : Nat → ClassId) (ad : Nat → Nat → Nat) (hI : wI LC ad) (t : Nat) (I : St) (a b k : Int32) (hKd : okK I) : Met l yX5_taken wsX5_taken ({ frames := 2, cells := 0, slots := 0, locals := 41 } : Room) (g2Pre D G LC ad [.ref (ad 0 (0)), .int (a), .int (b), .int (k)] (wC G ad I) (UDA (wA LC ad) t)) (gQi D LC ad (wC G ad) (fun r9 u => r9 = (if ((okN (nI 3) a && okN (nI 4) b) && okN (nI 6) k) = true then (if iu (kd I (tn a * 4 + tn b)) (tn k) = true then nI (kd I (tn a * 4 + tn b)) else -13) else -2) ∧ u = I)) 0 0 (wA LC ad) := by
  refine u_entry (C := RX5) (cc := cX5_taken) (maxL := 5) (ret := (some .int)) rfl (by decide) rfl (Nat.le_of_ble_eq_true rfl) (fun p e s m args below meth c Q ls hQ hx hb hr hts hown hlocks hml hB hl => ?_)
  obtain ⟨⟨hW, hK⟩, hU⟩ := hB
  have hl : lv_has ls 5 [(0, .ref (ad 0 (0))), (1, .int (a)), (2, .int (b)), (3, .int (k))] := hl
  have hS := va_S.rf (A := wA LC ad) (H0 := s.heap)
  have hinX2 : ∀ w ∈ wsX20, w ∈ wsX5_taken := by decide +kernel
  have hinX5 : ∀ w ∈ wsX50, w ∈ wsX5_taken := by decide +kernel
  have hf10 := hts (.fieldLink RX5 10 "JoinedStores" "now" "LJoinedStores$Network;") (by decide +kernel)
  have hf108 := hts (.fieldLink RX5 108 "JoinedStores$Network" "kinds" "[I") (by decide +kernel)
  refine lv_iload_n hx hb dX5_taken_0 rfl (lv_at hl 1 rfl) ?_
  refine lv_iload_n hx hb dX5_taken_1 rfl (lv_at hl 2 rfl) ?_
  refine g_pi (va_runS (As := [.int (a), .int (b)]) (rest := []) ⟨hx, hb, hml, hown, hts⟩ (c_X5_isObject l a b) (va_cwS 2 hts gX5_taken_X5_isObject rfl rfl rfl (by decide +kernel) ⟨Nat.le_of_ble_eq_true rfl, Nat.le_of_ble_eq_true rfl⟩) p_preS rfl rfl hl.1 rfl (lv_room (Nat.le_of_ble_eq_true rfl)) dX5_taken_2 ⟨Nat.le_refl _, Nat.le_refl _⟩) hW hS (fun H locs hW hS => ?_)
  refine lv_if_eq (tgt := 15) hx hb dX5_taken_5 (by decide) (fun c5_0 => ?_) (fun c5_0 => ?_)
  · replace c5_0 := bI_0.mp c5_0
    try simp only [decide_eq_true_eq, decide_eq_false_iff_not] at c5_0
    refine lv_bipush (v := (-2)) hx hb dX5_taken_15 (by decide) ?_
    rw [hQ]
    exact g_iret (wd := wC G ad) hx hb hr rfl hlocks hW hS (by refine ⟨?_, rfl⟩; simp [c5_0]) dX5_taken_17
  · replace c5_0 := bI_1.mp c5_0
    obtain ⟨aN, haN, eaN⟩ := okN_nI (k := 3) (by decide) (okAnd c5_0).1
    subst eaN
    have t_aN : tn (nI aN) = aN := tn_nI (by omega)
    have k_aN : okN (nI 3) (nI aN) = true := okN_of (by decide) haN
    obtain ⟨bN, hbN, ebN⟩ := okN_nI (k := 4) (by decide) (okAnd c5_0).2
    subst ebN
    have t_bN : tn (nI bN) = bN := tn_nI (by omega)
    have k_bN : okN (nI 4) (nI bN) = true := okN_of (by decide) hbN
    refine lv_iload_n hx hb dX5_taken_8 rfl (lv_at hl 3 rfl) ?_
    refine g_pi (va_runS (As := [.int (k)]) (rest := []) ⟨hx, hb, hml, hown, hts⟩ (c_X5_isKind l k) (va_cwS 1 hts gX5_taken_X5_isKind rfl rfl rfl (by decide +kernel) ⟨Nat.le_of_ble_eq_true rfl, Nat.le_of_ble_eq_true rfl⟩) p_preS rfl rfl hl.1 rfl (lv_room (Nat.le_of_ble_eq_true rfl)) dX5_taken_9 ⟨Nat.le_refl _, Nat.le_refl _⟩) hW hS (fun H locs hW hS => ?_)
    refine lv_if_ne (tgt := 18) hx hb dX5_taken_12 (by decide) (fun c12_1 => ?_) (fun c12_1 => ?_)
    · replace c12_1 := bI_1.mp c12_1
      obtain ⟨kN, hkN, ekN⟩ := okN_nI (k := 6) (by decide) c12_1
      subst ekN
      have t_kN : tn (nI kN) = kN := tn_nI (by omega)
      have k_kN : okN (nI 6) (nI kN) = true := okN_of (by decide) hkN
      refine lv_aload_n hx hb dX5_taken_18 rfl (lv_at hl 0 rfl) ?_
      refine r_get hx hb hts hown hK hW 0 (0) 0 (mC (by decide) (by decide)) rfl rfl hinX5 (by decide) hf10 rfl rfl dX5_taken_19 ?_
      refine r_get hx hb hts hown hK hW 1 (0) 1 (mC (by decide) (by decide)) rfl rfl hinX2 (by decide) hf108 rfl rfl dX5_taken_22 ?_
      refine lv_iload_n hx hb dX5_taken_25 rfl (lv_at hl 1 rfl) ?_
      refine lv_iload_n hx hb dX5_taken_26 rfl (lv_at hl 2 rfl) ?_
      refine g_pi (va_runS (As := [.int (nI (aN)), .int (nI (bN))]) (rest := [.ref (ad 16 (0))]) ⟨hx, hb, hml, hown, hts⟩ (c_X5_objectAt l (aN) (bN)) (va_cwS 2 hts gX5_taken_X5_objectAt rfl rfl rfl (by decide +kernel) ⟨Nat.le_of_ble_eq_true rfl, Nat.le_of_ble_eq_true rfl⟩) p_preS rfl rfl hl.1 rfl (lv_room (Nat.le_of_ble_eq_true rfl)) dX5_taken_27 ⟨Nat.le_refl _, Nat.le_refl _⟩) hW hS (fun H locs hW hS => ?_)
      refine rC_iald hx hb hK hW 16 (0) (aN * 4 + bN) (by decide) (by decide) (by decide) (show aN * 4 + bN < 12 by omega) rfl dX5_taken_30 (fun x3 ex3 => ?_)
      have hk6 := (hKd (aN * 4 + bN) (by omega)).2
      refine r_top (show x3 = nI (kd I (aN * 4 + bN)) from (ex3.trans (hKd _ (by omega)).1)) ?_
      refine lv_istore (lv' := [(4, .int (nI (kd I (aN * 4 + bN)))), (0, .ref (ad 0 (0))), (1, .int (nI (aN))), (2, .int (nI (bN))), (3, .int (nI (kN)))]) hx hb dX5_taken_31 hl (by decide) rfl (fun ls hl => ?_)
      refine lv_iload hx hb dX5_taken_33 (lv_at hl 0 rfl) ?_
      refine lv_iload_n hx hb dX5_taken_35 rfl (lv_at hl 4 rfl) ?_
      refine g_pi (va_runS (As := [.int (nI (kd I (aN * 4 + bN))), .int (nI (kN))]) (rest := []) ⟨hx, hb, hml, hown, hts⟩ (c_X5_isOrIsUnder l t (kd I (aN * 4 + bN)) (kN) (by omega) (by omega)) (va_cwS 2 hts gX5_taken_X5_isOrIsUnder rfl rfl rfl (by decide +kernel) ⟨Nat.le_of_ble_eq_true rfl, Nat.le_of_ble_eq_true rfl⟩) (ud_preS hU hS) rfl rfl hl.1 rfl (lv_room (Nat.le_of_ble_eq_true rfl)) dX5_taken_36 ⟨Nat.le_refl _, Nat.le_refl _⟩) hW hS (fun H locs hW hS => ?_)
      refine lv_if_eq (tgt := 47) hx hb dX5_taken_39 (by decide) (fun c39_3 => ?_) (fun c39_3 => ?_)
      · replace c39_3 := bI_0.mp c39_3
        try simp only [decide_eq_true_eq, decide_eq_false_iff_not] at c39_3
        refine lv_bipush (v := (-13)) hx hb dX5_taken_47 (by decide) ?_
        rw [hQ]
        exact g_iret (wd := wC G ad) hx hb hr rfl hlocks hW hS (by refine ⟨?_, rfl⟩; rw [if_pos (by simp [k_aN, k_bN, k_kN, c39_3])]; simp only [t_aN, t_bN, t_kN]; first | (rw [if_pos (by assumption)]) | (rw [if_neg (by rw [c39_3]; decide)])) dX5_taken_49
      · replace c39_3 := bI_1.mp c39_3
        try simp only [decide_eq_true_eq, decide_eq_false_iff_not] at c39_3
        refine lv_iload hx hb dX5_taken_42 (lv_at hl 0 rfl) ?_
        refine lv_goto (tgt := 49) hx hb dX5_taken_44 (by decide) ?_
        rw [hQ]
        exact g_iret (wd := wC G ad) hx hb hr rfl hlocks hW hS (by refine ⟨?_, rfl⟩; rw [if_pos (by simp [k_aN, k_bN, k_kN, c39_3])]; simp only [t_aN, t_bN, t_kN]; first | (rw [if_pos (by assumption)]) | (rw [if_neg (by rw [c39_3]; decide)])) dX5_taken_49
    · replace c12_1 := bI_0.mp c12_1
      try simp only [decide_eq_true_eq, decide_eq_false_iff_not] at c12_1
      refine lv_bipush (v := (-2)) hx hb dX5_taken_15 (by decide) ?_
      rw [hQ]
      exact g_iret (wd := wC G ad) hx hb hr rfl hlocks hW hS (by refine ⟨?_, rfl⟩; simp [k_aN, k_bN, c12_1]) dX5_taken_17
