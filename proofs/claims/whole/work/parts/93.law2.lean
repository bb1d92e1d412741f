/-! ===== the law's calls, 2 ===== -/
section
variable {p : Program} {l : Launch} {e : Env} {s : State} {m : MethodId} {below : List Frame} {meth : Method} {c : Code} {H : Heap} {locs : List Loc} {Q : State → Prop} {ls : Array Slot} {D : va_G} {G : Nat → ClassId} {b L t : Nat} {xs : Nat → Int32}
set_option maxHeartbeats 4000000 in
set_option maxRecDepth 100000 in
theorem lc_dot (S : LH p s m meth c D G b L t xs) {I J : St} (hI : LI D G s I J H locs) {i : Nat} (hl : lv_has ls 4 [(3, .int (nI i)), (2, .ref (aoM (s.heap.size + 236) 0 0)), (1, .ref (adC s.heap.size 0 0)), (0, .ref b)]) (hi : i + 7 ≤ L)
    (kk : ∀ (I J : St) (H : Heap) (locs : List Loc), LI D G s I J H locs → W p l e room_1 s m #[Value.ref b] below meth c H locs 600000 7302250 Q (F0 m 1299 ls [])) : W p l e room_1 s m #[Value.ref b] below meth c H locs 600000 7302250 Q (F0 m 472 ls []) := by
  obtain ⟨hx, hb, hml, hown, hts, hX, hbl, hK, hU, hL⟩ := id S
  obtain ⟨hR, hC, hM, hS⟩ := hI
  refine lv_aload_n hx hb dL_law_472 rfl (lv_at hl 2 rfl) ?_
  refine w_sc S hS hl hi 1 (by decide) (by decide) dL_law_473 dL_law_474 dL_law_475 dL_law_476 dL_law_477 ?_
  refine w_sc S hS hl hi 2 (by decide) (by decide) dL_law_478 dL_law_479 dL_law_480 dL_law_481 dL_law_482 ?_
  refine w_sc S hS hl hi 3 (by decide) (by decide) dL_law_483 dL_law_484 dL_law_485 dL_law_486 dL_law_487 ?_
  refine w_c5i (va_runV (As := [.int (xs (i + 1)), .int (xs (i + 2)), .int (xs (i + 3))]) (rest := []) ⟨hx, hb, hml, hown, hts⟩ (c_X5_dot l D G (adC s.heap.size) (wI_of ndC oC _) I (xs (i + 1)) (xs (i + 2)) (xs (i + 3)) (hR.okM)) (cwV 3 hts gL_law_X5_dot rfl rfl rfl (by decide +kernel) ⟨Nat.le_of_ble_eq_true rfl, Nat.le_of_ble_eq_true rfl⟩) (g_preV hK hC 0 0 (mC (by decide) (by decide)) rfl rfl) rfl rfl hl.1 rfl (lv_room (Nat.le_of_ble_eq_true rfl)) dL_law_488 ⟨Nat.le_refl _, Nat.le_refl _⟩) hM hS (fun x5 u5 H locs h5 hC hM hS => ?_)
  refine lv_aload_n hx hb dL_law_491 rfl (lv_at hl 1 rfl) ?_
  refine w_sc S hS hl hi 1 (by decide) (by decide) dL_law_492 dL_law_493 dL_law_494 dL_law_495 dL_law_496 ?_
  refine w_sc S hS hl hi 2 (by decide) (by decide) dL_law_497 dL_law_498 dL_law_499 dL_law_500 dL_law_501 ?_
  refine w_sc S hS hl hi 3 (by decide) (by decide) dL_law_502 dL_law_503 dL_law_504 dL_law_505 dL_law_506 ?_
  refine w_c6i (va_runV (As := [.int (xs (i + 1)), .int (xs (i + 2)), .int (xs (i + 3))]) (rest := [.int x5]) ⟨hx, hb, hml, hown, hts⟩ (c_X6_dot l D G (aoM (s.heap.size + 236)) (wI_of ndM' oM _) J (xs (i + 1)) (xs (i + 2)) (xs (i + 3)) (hR.okMJ)) (cwV 3 hts gL_law_X6_dot rfl rfl rfl (by decide +kernel) ⟨Nat.le_of_ble_eq_true rfl, Nat.le_of_ble_eq_true rfl⟩) (g_preV hK hM 0 0 (mM (by decide) (by decide)) rfl rfl) rfl rfl hl.1 rfl (lv_room (Nat.le_of_ble_eq_true rfl)) dL_law_507 ⟨Nat.le_refl _, Nat.le_refl _⟩) hC hS (fun x6 u6 H locs h6 hM hC hS => ?_)
  obtain ⟨hq, hR⟩ := q_dot hR _ _ _ h5 h6
  exact lv_icmp_eq (tgt := 1299) hx hb dL_law_510 (by decide) (fun _ => kk _ _ _ _ ⟨hR, hC, hM, hS⟩) (fun h => absurd hq h)
set_option maxHeartbeats 4000000 in
set_option maxRecDepth 100000 in
theorem lc_has (S : LH p s m meth c D G b L t xs) {I J : St} (hI : LI D G s I J H locs) {i : Nat} (hl : lv_has ls 4 [(3, .int (nI i)), (2, .ref (aoM (s.heap.size + 236) 0 0)), (1, .ref (adC s.heap.size 0 0)), (0, .ref b)]) (hi : i + 7 ≤ L)
    (kk : ∀ (I J : St) (H : Heap) (locs : List Loc), LI D G s I J H locs → W p l e room_1 s m #[Value.ref b] below meth c H locs 600000 7302250 Q (F0 m 1299 ls [])) : W p l e room_1 s m #[Value.ref b] below meth c H locs 600000 7302250 Q (F0 m 515 ls []) := by
  obtain ⟨hx, hb, hml, hown, hts, hX, hbl, hK, hU, hL⟩ := id S
  obtain ⟨hR, hC, hM, hS⟩ := hI
  refine lv_aload_n hx hb dL_law_515 rfl (lv_at hl 2 rfl) ?_
  refine w_sc S hS hl hi 1 (by decide) (by decide) dL_law_516 dL_law_517 dL_law_518 dL_law_519 dL_law_520 ?_
  refine w_sc S hS hl hi 2 (by decide) (by decide) dL_law_521 dL_law_522 dL_law_523 dL_law_524 dL_law_525 ?_
  refine w_sc S hS hl hi 3 (by decide) (by decide) dL_law_526 dL_law_527 dL_law_528 dL_law_529 dL_law_530 ?_
  refine w_sc S hS hl hi 4 (by decide) (by decide) dL_law_531 dL_law_532 dL_law_533 dL_law_534 dL_law_535 ?_
  refine w_c5i (va_runV (As := [.int (xs (i + 1)), .int (xs (i + 2)), .int (xs (i + 3)), .int (xs (i + 4))]) (rest := []) ⟨hx, hb, hml, hown, hts⟩ (c_X5_has l D G (adC s.heap.size) (wI_of ndC oC _) I (xs (i + 1)) (xs (i + 2)) (xs (i + 3)) (xs (i + 4)) (hR.okM)) (cwV 4 hts gL_law_X5_has rfl rfl rfl (by decide +kernel) ⟨Nat.le_of_ble_eq_true rfl, Nat.le_of_ble_eq_true rfl⟩) (g_preV hK hC 0 0 (mC (by decide) (by decide)) rfl rfl) rfl rfl hl.1 rfl (lv_room (Nat.le_of_ble_eq_true rfl)) dL_law_536 ⟨Nat.le_refl _, Nat.le_refl _⟩) hM hS (fun x5 u5 H locs h5 hC hM hS => ?_)
  refine lv_aload_n hx hb dL_law_539 rfl (lv_at hl 1 rfl) ?_
  refine w_sc S hS hl hi 1 (by decide) (by decide) dL_law_540 dL_law_541 dL_law_542 dL_law_543 dL_law_544 ?_
  refine w_sc S hS hl hi 2 (by decide) (by decide) dL_law_545 dL_law_546 dL_law_547 dL_law_548 dL_law_549 ?_
  refine w_sc S hS hl hi 3 (by decide) (by decide) dL_law_550 dL_law_551 dL_law_552 dL_law_553 dL_law_554 ?_
  refine w_sc S hS hl hi 4 (by decide) (by decide) dL_law_555 dL_law_556 dL_law_557 dL_law_558 dL_law_559 ?_
  refine w_c6i (va_runV (As := [.int (xs (i + 1)), .int (xs (i + 2)), .int (xs (i + 3)), .int (xs (i + 4))]) (rest := [.int x5]) ⟨hx, hb, hml, hown, hts⟩ (c_X6_has l D G (aoM (s.heap.size + 236)) (wI_of ndM' oM _) J (xs (i + 1)) (xs (i + 2)) (xs (i + 3)) (xs (i + 4)) (hR.okMJ)) (cwV 4 hts gL_law_X6_has rfl rfl rfl (by decide +kernel) ⟨Nat.le_of_ble_eq_true rfl, Nat.le_of_ble_eq_true rfl⟩) (g_preV hK hM 0 0 (mM (by decide) (by decide)) rfl rfl) rfl rfl hl.1 rfl (lv_room (Nat.le_of_ble_eq_true rfl)) dL_law_560 ⟨Nat.le_refl _, Nat.le_refl _⟩) hC hS (fun x6 u6 H locs h6 hM hC hS => ?_)
  obtain ⟨hq, hR⟩ := q_has hR _ _ _ _ h5 h6
  exact lv_icmp_eq (tgt := 1299) hx hb dL_law_563 (by decide) (fun _ => kk _ _ _ _ ⟨hR, hC, hM, hS⟩) (fun h => absurd hq h)
set_option maxHeartbeats 4000000 in
set_option maxRecDepth 100000 in
theorem lc_send (S : LH p s m meth c D G b L t xs) {I J : St} (hI : LI D G s I J H locs) {i : Nat} (hl : lv_has ls 4 [(3, .int (nI i)), (2, .ref (aoM (s.heap.size + 236) 0 0)), (1, .ref (adC s.heap.size 0 0)), (0, .ref b)]) (hi : i + 7 ≤ L)
    (kk : ∀ (I J : St) (H : Heap) (locs : List Loc), LI D G s I J H locs → W p l e room_1 s m #[Value.ref b] below meth c H locs 600000 7302250 Q (F0 m 1299 ls [])) : W p l e room_1 s m #[Value.ref b] below meth c H locs 600000 7302250 Q (F0 m 568 ls []) := by
  obtain ⟨hx, hb, hml, hown, hts, hX, hbl, hK, hU, hL⟩ := id S
  obtain ⟨hR, hC, hM, hS⟩ := hI
  refine lv_aload_n hx hb dL_law_568 rfl (lv_at hl 2 rfl) ?_
  refine w_sc S hS hl hi 1 (by decide) (by decide) dL_law_569 dL_law_570 dL_law_571 dL_law_572 dL_law_573 ?_
  refine w_sc S hS hl hi 2 (by decide) (by decide) dL_law_574 dL_law_575 dL_law_576 dL_law_577 dL_law_578 ?_
  refine w_sc S hS hl hi 3 (by decide) (by decide) dL_law_579 dL_law_580 dL_law_581 dL_law_582 dL_law_583 ?_
  refine w_c5i (va_runV (As := [.int (xs (i + 1)), .int (xs (i + 2)), .int (xs (i + 3))]) (rest := []) ⟨hx, hb, hml, hown, hts⟩ (c_X5_send l D G (adC s.heap.size) (wI_of ndC oC _) I (xs (i + 1)) (xs (i + 2)) (xs (i + 3)) (hR.okT) (hR.okW)) (cwV 3 hts gL_law_X5_send rfl rfl rfl (by decide +kernel) ⟨Nat.le_of_ble_eq_true rfl, Nat.le_of_ble_eq_true rfl⟩) (g_preV hK hC 0 0 (mC (by decide) (by decide)) rfl rfl) rfl rfl hl.1 rfl (lv_room (Nat.le_of_ble_eq_true rfl)) dL_law_584 ⟨Nat.le_refl _, Nat.le_refl _⟩) hM hS (fun x5 u5 H locs h5 hC hM hS => ?_)
  refine lv_aload_n hx hb dL_law_587 rfl (lv_at hl 1 rfl) ?_
  refine w_sc S hS hl hi 1 (by decide) (by decide) dL_law_588 dL_law_589 dL_law_590 dL_law_591 dL_law_592 ?_
  refine w_sc S hS hl hi 2 (by decide) (by decide) dL_law_593 dL_law_594 dL_law_595 dL_law_596 dL_law_597 ?_
  refine w_sc S hS hl hi 3 (by decide) (by decide) dL_law_598 dL_law_599 dL_law_600 dL_law_601 dL_law_602 ?_
  refine w_c6i (va_runV (As := [.int (xs (i + 1)), .int (xs (i + 2)), .int (xs (i + 3))]) (rest := [.int x5]) ⟨hx, hb, hml, hown, hts⟩ (c_X6_send l D G (aoM (s.heap.size + 236)) (wI_of ndM' oM _) J (xs (i + 1)) (xs (i + 2)) (xs (i + 3)) (hR.ok.T)) (cwV 3 hts gL_law_X6_send rfl rfl rfl (by decide +kernel) ⟨Nat.le_of_ble_eq_true rfl, Nat.le_of_ble_eq_true rfl⟩) (g_preV hK hM 0 0 (mM (by decide) (by decide)) rfl rfl) rfl rfl hl.1 rfl (lv_room (Nat.le_of_ble_eq_true rfl)) dL_law_603 ⟨Nat.le_refl _, Nat.le_refl _⟩) hC hS (fun x6 u6 H locs h6 hM hC hS => ?_)
  obtain ⟨hq, hR⟩ := q_send hR _ _ _ h5 h6
  exact lv_icmp_eq (tgt := 1299) hx hb dL_law_606 (by decide) (fun _ => kk _ _ _ _ ⟨hR, hC, hM, hS⟩) (fun h => absurd hq h)
set_option maxHeartbeats 4000000 in
set_option maxRecDepth 100000 in
theorem lc_come (S : LH p s m meth c D G b L t xs) {I J : St} (hI : LI D G s I J H locs) {i : Nat} (hl : lv_has ls 4 [(3, .int (nI i)), (2, .ref (aoM (s.heap.size + 236) 0 0)), (1, .ref (adC s.heap.size 0 0)), (0, .ref b)]) (hi : i + 7 ≤ L)
    (kk : ∀ (I J : St) (H : Heap) (locs : List Loc), LI D G s I J H locs → W p l e room_1 s m #[Value.ref b] below meth c H locs 600000 7302250 Q (F0 m 1299 ls [])) : W p l e room_1 s m #[Value.ref b] below meth c H locs 600000 7302250 Q (F0 m 611 ls []) := by
  obtain ⟨hx, hb, hml, hown, hts, hX, hbl, hK, hU, hL⟩ := id S
  obtain ⟨hR, hC, hM, hS⟩ := hI
  refine lv_aload_n hx hb dL_law_611 rfl (lv_at hl 2 rfl) ?_
  refine w_sc S hS hl hi 1 (by decide) (by decide) dL_law_612 dL_law_613 dL_law_614 dL_law_615 dL_law_616 ?_
  refine w_c5i (va_runV (As := [.int (xs (i + 1))]) (rest := []) ⟨hx, hb, hml, hown, hts⟩ (c_X5_come l D G (adC s.heap.size) (wI_of ndC oC _) I (xs (i + 1)) (hR.okT) (hR.okW) (hR.okL)) (cwV 1 hts gL_law_X5_come rfl rfl rfl (by decide +kernel) ⟨Nat.le_of_ble_eq_true rfl, Nat.le_of_ble_eq_true rfl⟩) (g_preV hK hC 0 0 (mC (by decide) (by decide)) rfl rfl) rfl rfl hl.1 rfl (lv_room (Nat.le_of_ble_eq_true rfl)) dL_law_617 ⟨Nat.le_refl _, Nat.le_refl _⟩) hM hS (fun x5 u5 H locs h5 hC hM hS => ?_)
  refine lv_aload_n hx hb dL_law_620 rfl (lv_at hl 1 rfl) ?_
  refine w_sc S hS hl hi 1 (by decide) (by decide) dL_law_621 dL_law_622 dL_law_623 dL_law_624 dL_law_625 ?_
  refine w_c6i (va_runV (As := [.int (xs (i + 1))]) (rest := [.int x5]) ⟨hx, hb, hml, hown, hts⟩ (c_X6_come l D G (aoM (s.heap.size + 236)) (wI_of ndM' oM _) J (xs (i + 1)) (hR.ok.T) (hR.okA)) (cwV 1 hts gL_law_X6_come rfl rfl rfl (by decide +kernel) ⟨Nat.le_of_ble_eq_true rfl, Nat.le_of_ble_eq_true rfl⟩) (g_preV hK hM 0 0 (mM (by decide) (by decide)) rfl rfl) rfl rfl hl.1 rfl (lv_room (Nat.le_of_ble_eq_true rfl)) dL_law_626 ⟨Nat.le_refl _, Nat.le_refl _⟩) hC hS (fun x6 u6 H locs h6 hM hC hS => ?_)
  obtain ⟨hq, hR⟩ := q_come hR _ h5 h6
  exact lv_icmp_eq (tgt := 1299) hx hb dL_law_629 (by decide) (fun _ => kk _ _ _ _ ⟨hR, hC, hM, hS⟩) (fun h => absurd hq h)
set_option maxHeartbeats 4000000 in
set_option maxRecDepth 100000 in
theorem lc_lose (S : LH p s m meth c D G b L t xs) {I J : St} (hI : LI D G s I J H locs) {i : Nat} (hl : lv_has ls 4 [(3, .int (nI i)), (2, .ref (aoM (s.heap.size + 236) 0 0)), (1, .ref (adC s.heap.size 0 0)), (0, .ref b)]) (hi : i + 7 ≤ L)
    (kk : ∀ (I J : St) (H : Heap) (locs : List Loc), LI D G s I J H locs → W p l e room_1 s m #[Value.ref b] below meth c H locs 600000 7302250 Q (F0 m 1299 ls [])) : W p l e room_1 s m #[Value.ref b] below meth c H locs 600000 7302250 Q (F0 m 634 ls []) := by
  obtain ⟨hx, hb, hml, hown, hts, hX, hbl, hK, hU, hL⟩ := id S
  obtain ⟨hR, hC, hM, hS⟩ := hI
  refine lv_aload_n hx hb dL_law_634 rfl (lv_at hl 2 rfl) ?_
  refine w_sc S hS hl hi 1 (by decide) (by decide) dL_law_635 dL_law_636 dL_law_637 dL_law_638 dL_law_639 ?_
  refine w_c5i (va_runV (As := [.int (xs (i + 1))]) (rest := []) ⟨hx, hb, hml, hown, hts⟩ (c_X5_lose l D G (adC s.heap.size) (wI_of ndC oC _) I (xs (i + 1)) (hR.okT) (hR.okW)) (cwV 1 hts gL_law_X5_lose rfl rfl rfl (by decide +kernel) ⟨Nat.le_of_ble_eq_true rfl, Nat.le_of_ble_eq_true rfl⟩) (g_preV hK hC 0 0 (mC (by decide) (by decide)) rfl rfl) rfl rfl hl.1 rfl (lv_room (Nat.le_of_ble_eq_true rfl)) dL_law_640 ⟨Nat.le_refl _, Nat.le_refl _⟩) hM hS (fun x5 u5 H locs h5 hC hM hS => ?_)
  refine lv_aload_n hx hb dL_law_643 rfl (lv_at hl 1 rfl) ?_
  refine w_sc S hS hl hi 1 (by decide) (by decide) dL_law_644 dL_law_645 dL_law_646 dL_law_647 dL_law_648 ?_
  refine w_c6i (va_runV (As := [.int (xs (i + 1))]) (rest := [.int x5]) ⟨hx, hb, hml, hown, hts⟩ (c_X6_lose l D G (aoM (s.heap.size + 236)) (wI_of ndM' oM _) J (xs (i + 1)) (hR.ok.T)) (cwV 1 hts gL_law_X6_lose rfl rfl rfl (by decide +kernel) ⟨Nat.le_of_ble_eq_true rfl, Nat.le_of_ble_eq_true rfl⟩) (g_preV hK hM 0 0 (mM (by decide) (by decide)) rfl rfl) rfl rfl hl.1 rfl (lv_room (Nat.le_of_ble_eq_true rfl)) dL_law_649 ⟨Nat.le_refl _, Nat.le_refl _⟩) hC hS (fun x6 u6 H locs h6 hM hC hS => ?_)
  obtain ⟨hq, hR⟩ := q_lose hR _ h5 h6
  exact lv_icmp_eq (tgt := 1299) hx hb dL_law_652 (by decide) (fun _ => kk _ _ _ _ ⟨hR, hC, hM, hS⟩) (fun h => absurd hq h)
set_option maxHeartbeats 4000000 in
set_option maxRecDepth 100000 in
theorem lc_twice (S : LH p s m meth c D G b L t xs) {I J : St} (hI : LI D G s I J H locs) {i : Nat} (hl : lv_has ls 4 [(3, .int (nI i)), (2, .ref (aoM (s.heap.size + 236) 0 0)), (1, .ref (adC s.heap.size 0 0)), (0, .ref b)]) (hi : i + 7 ≤ L)
    (kk : ∀ (I J : St) (H : Heap) (locs : List Loc), LI D G s I J H locs → W p l e room_1 s m #[Value.ref b] below meth c H locs 600000 7302250 Q (F0 m 1299 ls [])) : W p l e room_1 s m #[Value.ref b] below meth c H locs 600000 7302250 Q (F0 m 657 ls []) := by
  obtain ⟨hx, hb, hml, hown, hts, hX, hbl, hK, hU, hL⟩ := id S
  obtain ⟨hR, hC, hM, hS⟩ := hI
  refine lv_aload_n hx hb dL_law_657 rfl (lv_at hl 2 rfl) ?_
  refine w_sc S hS hl hi 1 (by decide) (by decide) dL_law_658 dL_law_659 dL_law_660 dL_law_661 dL_law_662 ?_
  refine w_c5i (va_runV (As := [.int (xs (i + 1))]) (rest := []) ⟨hx, hb, hml, hown, hts⟩ (c_X5_twice l D G (adC s.heap.size) (wI_of ndC oC _) I (xs (i + 1)) (hR.okT) (hR.okW)) (cwV 1 hts gL_law_X5_twice rfl rfl rfl (by decide +kernel) ⟨Nat.le_of_ble_eq_true rfl, Nat.le_of_ble_eq_true rfl⟩) (g_preV hK hC 0 0 (mC (by decide) (by decide)) rfl rfl) rfl rfl hl.1 rfl (lv_room (Nat.le_of_ble_eq_true rfl)) dL_law_663 ⟨Nat.le_refl _, Nat.le_refl _⟩) hM hS (fun x5 u5 H locs h5 hC hM hS => ?_)
  refine lv_aload_n hx hb dL_law_666 rfl (lv_at hl 1 rfl) ?_
  refine w_sc S hS hl hi 1 (by decide) (by decide) dL_law_667 dL_law_668 dL_law_669 dL_law_670 dL_law_671 ?_
  refine w_c6i (va_runV (As := [.int (xs (i + 1))]) (rest := [.int x5]) ⟨hx, hb, hml, hown, hts⟩ (c_X6_twice l D G (aoM (s.heap.size + 236)) (wI_of ndM' oM _) J (xs (i + 1)) (hR.ok.T)) (cwV 1 hts gL_law_X6_twice rfl rfl rfl (by decide +kernel) ⟨Nat.le_of_ble_eq_true rfl, Nat.le_of_ble_eq_true rfl⟩) (g_preV hK hM 0 0 (mM (by decide) (by decide)) rfl rfl) rfl rfl hl.1 rfl (lv_room (Nat.le_of_ble_eq_true rfl)) dL_law_672 ⟨Nat.le_refl _, Nat.le_refl _⟩) hC hS (fun x6 u6 H locs h6 hM hC hS => ?_)
  obtain ⟨hq, hR⟩ := q_twice hR _ h5 h6
  exact lv_icmp_eq (tgt := 1299) hx hb dL_law_675 (by decide) (fun _ => kk _ _ _ _ ⟨hR, hC, hM, hS⟩) (fun h => absurd hq h)
set_option maxHeartbeats 4000000 in
set_option maxRecDepth 100000 in
theorem lc_letter (S : LH p s m meth c D G b L t xs) {I J : St} (hI : LI D G s I J H locs) {i : Nat} (hl : lv_has ls 4 [(3, .int (nI i)), (2, .ref (aoM (s.heap.size + 236) 0 0)), (1, .ref (adC s.heap.size 0 0)), (0, .ref b)]) (hi : i + 7 ≤ L)
    (kk : ∀ (I J : St) (H : Heap) (locs : List Loc), LI D G s I J H locs → W p l e room_1 s m #[Value.ref b] below meth c H locs 600000 7302250 Q (F0 m 1299 ls [])) : W p l e room_1 s m #[Value.ref b] below meth c H locs 600000 7302250 Q (F0 m 680 ls []) := by
  obtain ⟨hx, hb, hml, hown, hts, hX, hbl, hK, hU, hL⟩ := id S
  obtain ⟨hR, hC, hM, hS⟩ := hI
  refine lv_aload_n hx hb dL_law_680 rfl (lv_at hl 2 rfl) ?_
  refine w_sc S hS hl hi 1 (by decide) (by decide) dL_law_681 dL_law_682 dL_law_683 dL_law_684 dL_law_685 ?_
  refine w_sc S hS hl hi 2 (by decide) (by decide) dL_law_686 dL_law_687 dL_law_688 dL_law_689 dL_law_690 ?_
  refine w_c5i (va_runV (As := [.int (xs (i + 1)), .int (xs (i + 2))]) (rest := []) ⟨hx, hb, hml, hown, hts⟩ (c_X5_letter l D G (adC s.heap.size) (wI_of ndC oC _) I (xs (i + 1)) (xs (i + 2)) (hR.okT) (hR.okW)) (cwV 2 hts gL_law_X5_letter rfl rfl rfl (by decide +kernel) ⟨Nat.le_of_ble_eq_true rfl, Nat.le_of_ble_eq_true rfl⟩) (g_preV hK hC 0 0 (mC (by decide) (by decide)) rfl rfl) rfl rfl hl.1 rfl (lv_room (Nat.le_of_ble_eq_true rfl)) dL_law_691 ⟨Nat.le_refl _, Nat.le_refl _⟩) hM hS (fun x5 u5 H locs h5 hC hM hS => ?_)
  refine lv_aload_n hx hb dL_law_694 rfl (lv_at hl 1 rfl) ?_
  refine w_sc S hS hl hi 1 (by decide) (by decide) dL_law_695 dL_law_696 dL_law_697 dL_law_698 dL_law_699 ?_
  refine w_sc S hS hl hi 2 (by decide) (by decide) dL_law_700 dL_law_701 dL_law_702 dL_law_703 dL_law_704 ?_
  refine w_c6i (va_runV (As := [.int (xs (i + 1)), .int (xs (i + 2))]) (rest := [.int x5]) ⟨hx, hb, hml, hown, hts⟩ (c_X6_letter l D G (aoM (s.heap.size + 236)) (wI_of ndM' oM _) J (xs (i + 1)) (xs (i + 2)) (hR.ok.T)) (cwV 2 hts gL_law_X6_letter rfl rfl rfl (by decide +kernel) ⟨Nat.le_of_ble_eq_true rfl, Nat.le_of_ble_eq_true rfl⟩) (g_preV hK hM 0 0 (mM (by decide) (by decide)) rfl rfl) rfl rfl hl.1 rfl (lv_room (Nat.le_of_ble_eq_true rfl)) dL_law_705 ⟨Nat.le_refl _, Nat.le_refl _⟩) hC hS (fun x6 u6 H locs h6 hM hC hS => ?_)
  obtain ⟨hq, hR⟩ := q_letter hR _ _ h5 h6
  exact lv_icmp_eq (tgt := 1299) hx hb dL_law_708 (by decide) (fun _ => kk _ _ _ _ ⟨hR, hC, hM, hS⟩) (fun h => absurd hq h)
end
