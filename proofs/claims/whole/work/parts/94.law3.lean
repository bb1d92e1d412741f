/-! ===== the law's calls, 3 ===== -/
section
variable {p : Program} {l : Launch} {e : Env} {s : State} {m : MethodId} {below : List Frame} {meth : Method} {c : Code} {H : Heap} {locs : List Loc} {Q : State → Prop} {ls : Array Slot} {D : va_G} {G : Nat → ClassId} {b L t : Nat} {xs : Nat → Int32}
set_option maxHeartbeats 4000000 in
set_option maxRecDepth 100000 in
theorem lc_met (S : LH p s m meth c D G b L t xs) {I J : St} (hI : LI D G s I J H locs) {i : Nat} (hl : lv_has ls 4 [(3, .int (nI i)), (2, .ref (aoM (s.heap.size + 236) 0 0)), (1, .ref (adC s.heap.size 0 0)), (0, .ref b)]) (hi : i + 7 ≤ L)
    (kk : ∀ (I J : St) (H : Heap) (locs : List Loc), LI D G s I J H locs → W p l e room_1 s m #[Value.ref b] below meth c H locs 600000 7302250 Q (F0 m 1299 ls [])) : W p l e room_1 s m #[Value.ref b] below meth c H locs 600000 7302250 Q (F0 m 713 ls []) := by
  obtain ⟨hx, hb, hml, hown, hts, hX, hbl, hK, hU, hL⟩ := id S
  obtain ⟨hR, hC, hM, hS⟩ := hI
  refine lv_aload_n hx hb dL_law_713 rfl (lv_at hl 2 rfl) ?_
  refine w_sc S hS hl hi 1 (by decide) (by decide) dL_law_714 dL_law_715 dL_law_716 dL_law_717 dL_law_718 ?_
  refine w_sc S hS hl hi 2 (by decide) (by decide) dL_law_719 dL_law_720 dL_law_721 dL_law_722 dL_law_723 ?_
  refine w_c5l (va_runV (As := [.int (xs (i + 1)), .int (xs (i + 2))]) (rest := []) ⟨hx, hb, hml, hown, hts⟩ (c_X5_met l D G (adC s.heap.size) (wI_of ndC oC _) I (xs (i + 1)) (xs (i + 2)) (hR.okM) (hR.okK)) (cwV 2 hts gL_law_X5_met rfl rfl rfl (by decide +kernel) ⟨Nat.le_of_ble_eq_true rfl, Nat.le_of_ble_eq_true rfl⟩) (g_preV hK hC 0 0 (mC (by decide) (by decide)) rfl rfl) rfl rfl hl.1 rfl (lv_room (Nat.le_of_ble_eq_true rfl)) dL_law_724 ⟨Nat.le_refl _, Nat.le_refl _⟩) hM hS (fun x5 u5 H locs h5 hC hM hS => ?_)
  refine lv_aload_n hx hb dL_law_727 rfl (lv_at hl 1 rfl) ?_
  refine w_sc S hS hl hi 1 (by decide) (by decide) dL_law_728 dL_law_729 dL_law_730 dL_law_731 dL_law_732 ?_
  refine w_sc S hS hl hi 2 (by decide) (by decide) dL_law_733 dL_law_734 dL_law_735 dL_law_736 dL_law_737 ?_
  refine w_c6l (va_runV (As := [.int (xs (i + 1)), .int (xs (i + 2))]) (rest := [.long x5]) ⟨hx, hb, hml, hown, hts⟩ (c_X6_met l D G (aoM (s.heap.size + 236)) (wI_of ndM' oM _) J (xs (i + 1)) (xs (i + 2)) (hR.okMJ) (hR.okKJ)) (cwV 2 hts gL_law_X6_met rfl rfl rfl (by decide +kernel) ⟨Nat.le_of_ble_eq_true rfl, Nat.le_of_ble_eq_true rfl⟩) (g_preV hK hM 0 0 (mM (by decide) (by decide)) rfl rfl) rfl rfl hl.1 rfl (lv_room (Nat.le_of_ble_eq_true rfl)) dL_law_738 ⟨Nat.le_refl _, Nat.le_refl _⟩) hC hS (fun x6 u6 H locs h6 hM hC hS => ?_)
  obtain ⟨hq, hR⟩ := q_met hR _ _ h5 h6
  refine W.lcmp hx hb dL_law_741 ?_
  exact lv_if_eq (tgt := 1299) hx hb dL_law_742 (by decide) (fun _ => kk _ _ _ _ ⟨hR, hC, hM, hS⟩) (fun h => absurd (lg_cmp_0.mpr hq) h)
set_option maxHeartbeats 4000000 in
set_option maxRecDepth 100000 in
theorem lc_apart (S : LH p s m meth c D G b L t xs) {I J : St} (hI : LI D G s I J H locs) {i : Nat} (hl : lv_has ls 4 [(3, .int (nI i)), (2, .ref (aoM (s.heap.size + 236) 0 0)), (1, .ref (adC s.heap.size 0 0)), (0, .ref b)]) (hi : i + 7 ≤ L)
    (kk : ∀ (I J : St) (H : Heap) (locs : List Loc), LI D G s I J H locs → W p l e room_1 s m #[Value.ref b] below meth c H locs 600000 7302250 Q (F0 m 1299 ls [])) : W p l e room_1 s m #[Value.ref b] below meth c H locs 600000 7302250 Q (F0 m 747 ls []) := by
  obtain ⟨hx, hb, hml, hown, hts, hX, hbl, hK, hU, hL⟩ := id S
  obtain ⟨hR, hC, hM, hS⟩ := hI
  refine lv_aload_n hx hb dL_law_747 rfl (lv_at hl 2 rfl) ?_
  refine w_sc S hS hl hi 1 (by decide) (by decide) dL_law_748 dL_law_749 dL_law_750 dL_law_751 dL_law_752 ?_
  refine w_sc S hS hl hi 2 (by decide) (by decide) dL_law_753 dL_law_754 dL_law_755 dL_law_756 dL_law_757 ?_
  refine w_sc S hS hl hi 3 (by decide) (by decide) dL_law_758 dL_law_759 dL_law_760 dL_law_761 dL_law_762 ?_
  refine w_c5i (va_runV (As := [.int (xs (i + 1)), .int (xs (i + 2)), .int (xs (i + 3))]) (rest := []) ⟨hx, hb, hml, hown, hts⟩ (c_X5_apart l D G (adC s.heap.size) (wI_of ndC oC _) I (xs (i + 1)) (xs (i + 2)) (xs (i + 3))) (cwV 3 hts gL_law_X5_apart rfl rfl rfl (by decide +kernel) ⟨Nat.le_of_ble_eq_true rfl, Nat.le_of_ble_eq_true rfl⟩) (g_preV hK hC 0 0 (mC (by decide) (by decide)) rfl rfl) rfl rfl hl.1 rfl (lv_room (Nat.le_of_ble_eq_true rfl)) dL_law_763 ⟨Nat.le_refl _, Nat.le_refl _⟩) hM hS (fun x5 u5 H locs h5 hC hM hS => ?_)
  refine lv_aload_n hx hb dL_law_766 rfl (lv_at hl 1 rfl) ?_
  refine w_sc S hS hl hi 1 (by decide) (by decide) dL_law_767 dL_law_768 dL_law_769 dL_law_770 dL_law_771 ?_
  refine w_sc S hS hl hi 2 (by decide) (by decide) dL_law_772 dL_law_773 dL_law_774 dL_law_775 dL_law_776 ?_
  refine w_sc S hS hl hi 3 (by decide) (by decide) dL_law_777 dL_law_778 dL_law_779 dL_law_780 dL_law_781 ?_
  refine w_c6i (va_runV (As := [.int (xs (i + 1)), .int (xs (i + 2)), .int (xs (i + 3))]) (rest := [.int x5]) ⟨hx, hb, hml, hown, hts⟩ (c_X6_apart l D G (aoM (s.heap.size + 236)) (wI_of ndM' oM _) J (xs (i + 1)) (xs (i + 2)) (xs (i + 3))) (cwV 3 hts gL_law_X6_apart rfl rfl rfl (by decide +kernel) ⟨Nat.le_of_ble_eq_true rfl, Nat.le_of_ble_eq_true rfl⟩) (g_preV hK hM 0 0 (mM (by decide) (by decide)) rfl rfl) rfl rfl hl.1 rfl (lv_room (Nat.le_of_ble_eq_true rfl)) dL_law_782 ⟨Nat.le_refl _, Nat.le_refl _⟩) hC hS (fun x6 u6 H locs h6 hM hC hS => ?_)
  obtain ⟨hq, hR⟩ := q_apart hR _ _ _ h5 h6
  exact lv_icmp_eq (tgt := 1299) hx hb dL_law_785 (by decide) (fun _ => kk _ _ _ _ ⟨hR, hC, hM, hS⟩) (fun h => absurd hq h)
set_option maxHeartbeats 4000000 in
set_option maxRecDepth 100000 in
theorem lc_needs (S : LH p s m meth c D G b L t xs) {I J : St} (hI : LI D G s I J H locs) {i : Nat} (hl : lv_has ls 4 [(3, .int (nI i)), (2, .ref (aoM (s.heap.size + 236) 0 0)), (1, .ref (adC s.heap.size 0 0)), (0, .ref b)]) (hi : i + 7 ≤ L)
    (kk : ∀ (I J : St) (H : Heap) (locs : List Loc), LI D G s I J H locs → W p l e room_1 s m #[Value.ref b] below meth c H locs 600000 7302250 Q (F0 m 1299 ls [])) : W p l e room_1 s m #[Value.ref b] below meth c H locs 600000 7302250 Q (F0 m 790 ls []) := by
  obtain ⟨hx, hb, hml, hown, hts, hX, hbl, hK, hU, hL⟩ := id S
  obtain ⟨hR, hC, hM, hS⟩ := hI
  refine lv_aload_n hx hb dL_law_790 rfl (lv_at hl 2 rfl) ?_
  refine w_sc S hS hl hi 1 (by decide) (by decide) dL_law_791 dL_law_792 dL_law_793 dL_law_794 dL_law_795 ?_
  refine w_sc S hS hl hi 2 (by decide) (by decide) dL_law_796 dL_law_797 dL_law_798 dL_law_799 dL_law_800 ?_
  refine w_sc S hS hl hi 3 (by decide) (by decide) dL_law_801 dL_law_802 dL_law_803 dL_law_804 dL_law_805 ?_
  refine w_sc S hS hl hi 4 (by decide) (by decide) dL_law_806 dL_law_807 dL_law_808 dL_law_809 dL_law_810 ?_
  refine lv_i2l hx hb dL_law_811 rfl ?_
  refine lv_bipush (v := nI 32) hx hb dL_law_812 (by decide) ?_
  refine lv_lshl hx hb dL_law_814 rfl ?_
  refine w_sc S hS hl hi 5 (by decide) (by decide) dL_law_815 dL_law_816 dL_law_817 dL_law_818 dL_law_819 ?_
  refine lv_i2l hx hb dL_law_820 rfl ?_
  refine lv_ldc2 (v := 4294967295) hx hb hown (hts (.constantLong RL 83 4294967295) (by decide +kernel)) dL_law_821 ?_
  refine lv_land hx hb dL_law_824 ?_
  refine lv_lor hx hb dL_law_825 ?_
  refine w_sc6 S hS hl hi 6 (by decide) (by decide) dL_law_826 dL_law_827 dL_law_828 dL_law_830 dL_law_831 ?_
  refine w_c5i (va_runV (As := [.int (xs (i + 1)), .int (xs (i + 2)), .int (xs (i + 3)), .long ((xs (i + 4)).toInt64 <<< ((nI 32).toInt64 &&& 63) ||| ((xs (i + 5)).toInt64 &&& 4294967295)), .int (xs (i + 6))]) (rest := []) ⟨hx, hb, hml, hown, hts⟩ (c_X5_needs l D G (adC s.heap.size) (wI_of ndC oC _) I (xs (i + 1)) (xs (i + 2)) (xs (i + 3)) (xs (i + 6)) ((xs (i + 4)).toInt64 <<< ((nI 32).toInt64 &&& 63) ||| ((xs (i + 5)).toInt64 &&& 4294967295)) (hR.okM) (hR.okK) (hR.okT) (hR.okW)) (cwV 5 hts gL_law_X5_needs rfl rfl rfl (by decide +kernel) ⟨Nat.le_of_ble_eq_true rfl, Nat.le_of_ble_eq_true rfl⟩) (g_preV hK hC 0 0 (mC (by decide) (by decide)) rfl rfl) rfl rfl hl.1 rfl (lv_room (Nat.le_of_ble_eq_true rfl)) dL_law_832 ⟨Nat.le_refl _, Nat.le_refl _⟩) hM hS (fun x5 u5 H locs h5 hC hM hS => ?_)
  refine lv_aload_n hx hb dL_law_835 rfl (lv_at hl 1 rfl) ?_
  refine w_sc S hS hl hi 1 (by decide) (by decide) dL_law_836 dL_law_837 dL_law_838 dL_law_839 dL_law_840 ?_
  refine w_sc S hS hl hi 2 (by decide) (by decide) dL_law_841 dL_law_842 dL_law_843 dL_law_844 dL_law_845 ?_
  refine w_sc S hS hl hi 3 (by decide) (by decide) dL_law_846 dL_law_847 dL_law_848 dL_law_849 dL_law_850 ?_
  refine w_sc S hS hl hi 4 (by decide) (by decide) dL_law_851 dL_law_852 dL_law_853 dL_law_854 dL_law_855 ?_
  refine lv_i2l hx hb dL_law_856 rfl ?_
  refine lv_bipush (v := nI 32) hx hb dL_law_857 (by decide) ?_
  refine lv_lshl hx hb dL_law_859 rfl ?_
  refine w_sc S hS hl hi 5 (by decide) (by decide) dL_law_860 dL_law_861 dL_law_862 dL_law_863 dL_law_864 ?_
  refine lv_i2l hx hb dL_law_865 rfl ?_
  refine lv_ldc2 (v := 4294967295) hx hb hown (hts (.constantLong RL 83 4294967295) (by decide +kernel)) dL_law_866 ?_
  refine lv_land hx hb dL_law_869 ?_
  refine lv_lor hx hb dL_law_870 ?_
  refine w_sc6 S hS hl hi 6 (by decide) (by decide) dL_law_871 dL_law_872 dL_law_873 dL_law_875 dL_law_876 ?_
  refine w_c6i (va_runV (As := [.int (xs (i + 1)), .int (xs (i + 2)), .int (xs (i + 3)), .long ((xs (i + 4)).toInt64 <<< ((nI 32).toInt64 &&& 63) ||| ((xs (i + 5)).toInt64 &&& 4294967295)), .int (xs (i + 6))]) (rest := [.int x5]) ⟨hx, hb, hml, hown, hts⟩ (c_X6_needs l D G (aoM (s.heap.size + 236)) (wI_of ndM' oM _) J (xs (i + 1)) (xs (i + 2)) (xs (i + 3)) (xs (i + 6)) ((xs (i + 4)).toInt64 <<< ((nI 32).toInt64 &&& 63) ||| ((xs (i + 5)).toInt64 &&& 4294967295)) (hR.okMJ) (hR.okKJ) (hR.ok.T)) (cwV 5 hts gL_law_X6_needs rfl rfl rfl (by decide +kernel) ⟨Nat.le_of_ble_eq_true rfl, Nat.le_of_ble_eq_true rfl⟩) (g_preV hK hM 0 0 (mM (by decide) (by decide)) rfl rfl) rfl rfl hl.1 rfl (lv_room (Nat.le_of_ble_eq_true rfl)) dL_law_877 ⟨Nat.le_refl _, Nat.le_refl _⟩) hC hS (fun x6 u6 H locs h6 hM hC hS => ?_)
  obtain ⟨hq, hR⟩ := q_needs hR _ _ _ _ _ h5 h6
  exact lv_icmp_eq (tgt := 1299) hx hb dL_law_880 (by decide) (fun _ => kk _ _ _ _ ⟨hR, hC, hM, hS⟩) (fun h => absurd hq h)
set_option maxHeartbeats 4000000 in
set_option maxRecDepth 100000 in
theorem lc_drawn (S : LH p s m meth c D G b L t xs) {I J : St} (hI : LI D G s I J H locs) {i : Nat} (hl : lv_has ls 4 [(3, .int (nI i)), (2, .ref (aoM (s.heap.size + 236) 0 0)), (1, .ref (adC s.heap.size 0 0)), (0, .ref b)]) (hi : i + 7 ≤ L)
    (kk : ∀ (I J : St) (H : Heap) (locs : List Loc), LI D G s I J H locs → W p l e room_1 s m #[Value.ref b] below meth c H locs 600000 7302250 Q (F0 m 1299 ls [])) : W p l e room_1 s m #[Value.ref b] below meth c H locs 600000 7302250 Q (F0 m 885 ls []) := by
  obtain ⟨hx, hb, hml, hown, hts, hX, hbl, hK, hU, hL⟩ := id S
  obtain ⟨hR, hC, hM, hS⟩ := hI
  refine lv_aload_n hx hb dL_law_885 rfl (lv_at hl 2 rfl) ?_
  refine w_sc S hS hl hi 1 (by decide) (by decide) dL_law_886 dL_law_887 dL_law_888 dL_law_889 dL_law_890 ?_
  refine w_sc S hS hl hi 2 (by decide) (by decide) dL_law_891 dL_law_892 dL_law_893 dL_law_894 dL_law_895 ?_
  refine w_c5i (va_runV (As := [.int (xs (i + 1)), .int (xs (i + 2))]) (rest := []) ⟨hx, hb, hml, hown, hts⟩ (c_X5_drawn l D G (adC s.heap.size) (wI_of ndC oC _) I (xs (i + 1)) (xs (i + 2))) (cwV 2 hts gL_law_X5_drawn rfl rfl rfl (by decide +kernel) ⟨Nat.le_of_ble_eq_true rfl, Nat.le_of_ble_eq_true rfl⟩) (g_preV hK hC 0 0 (mC (by decide) (by decide)) rfl rfl) rfl rfl hl.1 rfl (lv_room (Nat.le_of_ble_eq_true rfl)) dL_law_896 ⟨Nat.le_refl _, Nat.le_refl _⟩) hM hS (fun x5 u5 H locs h5 hC hM hS => ?_)
  refine lv_aload_n hx hb dL_law_899 rfl (lv_at hl 1 rfl) ?_
  refine w_sc S hS hl hi 1 (by decide) (by decide) dL_law_900 dL_law_901 dL_law_902 dL_law_903 dL_law_904 ?_
  refine w_sc S hS hl hi 2 (by decide) (by decide) dL_law_905 dL_law_906 dL_law_907 dL_law_908 dL_law_909 ?_
  refine w_c6i (va_runV (As := [.int (xs (i + 1)), .int (xs (i + 2))]) (rest := [.int x5]) ⟨hx, hb, hml, hown, hts⟩ (c_X6_drawn l D G (aoM (s.heap.size + 236)) (wI_of ndM' oM _) J (xs (i + 1)) (xs (i + 2))) (cwV 2 hts gL_law_X6_drawn rfl rfl rfl (by decide +kernel) ⟨Nat.le_of_ble_eq_true rfl, Nat.le_of_ble_eq_true rfl⟩) (g_preV hK hM 0 0 (mM (by decide) (by decide)) rfl rfl) rfl rfl hl.1 rfl (lv_room (Nat.le_of_ble_eq_true rfl)) dL_law_910 ⟨Nat.le_refl _, Nat.le_refl _⟩) hC hS (fun x6 u6 H locs h6 hM hC hS => ?_)
  obtain ⟨hq, hR⟩ := q_drawn hR _ _ h5 h6
  exact lv_icmp_eq (tgt := 1299) hx hb dL_law_913 (by decide) (fun _ => kk _ _ _ _ ⟨hR, hC, hM, hS⟩) (fun h => absurd hq h)
set_option maxHeartbeats 4000000 in
set_option maxRecDepth 100000 in
theorem lc_chance (S : LH p s m meth c D G b L t xs) {I J : St} (hI : LI D G s I J H locs) {i : Nat} (hl : lv_has ls 4 [(3, .int (nI i)), (2, .ref (aoM (s.heap.size + 236) 0 0)), (1, .ref (adC s.heap.size 0 0)), (0, .ref b)]) (hi : i + 7 ≤ L)
    (kk : ∀ (I J : St) (H : Heap) (locs : List Loc), LI D G s I J H locs → W p l e room_1 s m #[Value.ref b] below meth c H locs 600000 7302250 Q (F0 m 1299 ls [])) : W p l e room_1 s m #[Value.ref b] below meth c H locs 600000 7302250 Q (F0 m 918 ls []) := by
  obtain ⟨hx, hb, hml, hown, hts, hX, hbl, hK, hU, hL⟩ := id S
  obtain ⟨hR, hC, hM, hS⟩ := hI
  refine lv_aload_n hx hb dL_law_918 rfl (lv_at hl 2 rfl) ?_
  refine w_sc S hS hl hi 1 (by decide) (by decide) dL_law_919 dL_law_920 dL_law_921 dL_law_922 dL_law_923 ?_
  refine w_sc S hS hl hi 2 (by decide) (by decide) dL_law_924 dL_law_925 dL_law_926 dL_law_927 dL_law_928 ?_
  refine w_sc S hS hl hi 3 (by decide) (by decide) dL_law_929 dL_law_930 dL_law_931 dL_law_932 dL_law_933 ?_
  refine w_c5i (va_runV (As := [.int (xs (i + 1)), .int (xs (i + 2)), .int (xs (i + 3))]) (rest := []) ⟨hx, hb, hml, hown, hts⟩ (c_X5_chance l D G (adC s.heap.size) (wI_of ndC oC _) I (xs (i + 1)) (xs (i + 2)) (xs (i + 3))) (cwV 3 hts gL_law_X5_chance rfl rfl rfl (by decide +kernel) ⟨Nat.le_of_ble_eq_true rfl, Nat.le_of_ble_eq_true rfl⟩) (g_preV hK hC 0 0 (mC (by decide) (by decide)) rfl rfl) rfl rfl hl.1 rfl (lv_room (Nat.le_of_ble_eq_true rfl)) dL_law_934 ⟨Nat.le_refl _, Nat.le_refl _⟩) hM hS (fun x5 u5 H locs h5 hC hM hS => ?_)
  refine lv_aload_n hx hb dL_law_937 rfl (lv_at hl 1 rfl) ?_
  refine w_sc S hS hl hi 1 (by decide) (by decide) dL_law_938 dL_law_939 dL_law_940 dL_law_941 dL_law_942 ?_
  refine w_sc S hS hl hi 2 (by decide) (by decide) dL_law_943 dL_law_944 dL_law_945 dL_law_946 dL_law_947 ?_
  refine w_sc S hS hl hi 3 (by decide) (by decide) dL_law_948 dL_law_949 dL_law_950 dL_law_951 dL_law_952 ?_
  refine w_c6i (va_runV (As := [.int (xs (i + 1)), .int (xs (i + 2)), .int (xs (i + 3))]) (rest := [.int x5]) ⟨hx, hb, hml, hown, hts⟩ (c_X6_chance l D G (aoM (s.heap.size + 236)) (wI_of ndM' oM _) J (xs (i + 1)) (xs (i + 2)) (xs (i + 3))) (cwV 3 hts gL_law_X6_chance rfl rfl rfl (by decide +kernel) ⟨Nat.le_of_ble_eq_true rfl, Nat.le_of_ble_eq_true rfl⟩) (g_preV hK hM 0 0 (mM (by decide) (by decide)) rfl rfl) rfl rfl hl.1 rfl (lv_room (Nat.le_of_ble_eq_true rfl)) dL_law_953 ⟨Nat.le_refl _, Nat.le_refl _⟩) hC hS (fun x6 u6 H locs h6 hM hC hS => ?_)
  obtain ⟨hq, hR⟩ := q_chance hR _ _ _ h5 h6
  exact lv_icmp_eq (tgt := 1299) hx hb dL_law_956 (by decide) (fun _ => kk _ _ _ _ ⟨hR, hC, hM, hS⟩) (fun h => absurd hq h)
set_option maxHeartbeats 4000000 in
set_option maxRecDepth 100000 in
theorem lc_tells (S : LH p s m meth c D G b L t xs) {I J : St} (hI : LI D G s I J H locs) {i : Nat} (hl : lv_has ls 4 [(3, .int (nI i)), (2, .ref (aoM (s.heap.size + 236) 0 0)), (1, .ref (adC s.heap.size 0 0)), (0, .ref b)]) (hi : i + 7 ≤ L)
    (kk : ∀ (I J : St) (H : Heap) (locs : List Loc), LI D G s I J H locs → W p l e room_1 s m #[Value.ref b] below meth c H locs 600000 7302250 Q (F0 m 1299 ls [])) : W p l e room_1 s m #[Value.ref b] below meth c H locs 600000 7302250 Q (F0 m 961 ls []) := by
  obtain ⟨hx, hb, hml, hown, hts, hX, hbl, hK, hU, hL⟩ := id S
  obtain ⟨hR, hC, hM, hS⟩ := hI
  refine lv_aload_n hx hb dL_law_961 rfl (lv_at hl 2 rfl) ?_
  refine w_sc S hS hl hi 1 (by decide) (by decide) dL_law_962 dL_law_963 dL_law_964 dL_law_965 dL_law_966 ?_
  refine w_sc S hS hl hi 2 (by decide) (by decide) dL_law_967 dL_law_968 dL_law_969 dL_law_970 dL_law_971 ?_
  refine w_sc S hS hl hi 3 (by decide) (by decide) dL_law_972 dL_law_973 dL_law_974 dL_law_975 dL_law_976 ?_
  refine w_sc S hS hl hi 4 (by decide) (by decide) dL_law_977 dL_law_978 dL_law_979 dL_law_980 dL_law_981 ?_
  refine w_c5i (va_runV (As := [.int (xs (i + 1)), .int (xs (i + 2)), .int (xs (i + 3)), .int (xs (i + 4))]) (rest := []) ⟨hx, hb, hml, hown, hts⟩ (c_X5_tells l D G (adC s.heap.size) (wI_of ndC oC _) I (xs (i + 1)) (xs (i + 2)) (xs (i + 3)) (xs (i + 4)) (hR.okM) (hR.okK) (hR.okT) (hR.okW) (hR.okS)) (cwV 4 hts gL_law_X5_tells rfl rfl rfl (by decide +kernel) ⟨Nat.le_of_ble_eq_true rfl, Nat.le_of_ble_eq_true rfl⟩) (g_preV hK hC 0 0 (mC (by decide) (by decide)) rfl rfl) rfl rfl hl.1 rfl (lv_room (Nat.le_of_ble_eq_true rfl)) dL_law_982 ⟨Nat.le_refl _, Nat.le_refl _⟩) hM hS (fun x5 u5 H locs h5 hC hM hS => ?_)
  refine lv_aload_n hx hb dL_law_985 rfl (lv_at hl 1 rfl) ?_
  refine w_sc S hS hl hi 1 (by decide) (by decide) dL_law_986 dL_law_987 dL_law_988 dL_law_989 dL_law_990 ?_
  refine w_sc S hS hl hi 2 (by decide) (by decide) dL_law_991 dL_law_992 dL_law_993 dL_law_994 dL_law_995 ?_
  refine w_sc S hS hl hi 3 (by decide) (by decide) dL_law_996 dL_law_997 dL_law_998 dL_law_999 dL_law_1000 ?_
  refine w_sc S hS hl hi 4 (by decide) (by decide) dL_law_1001 dL_law_1002 dL_law_1003 dL_law_1004 dL_law_1005 ?_
  refine w_c6i (va_runV (As := [.int (xs (i + 1)), .int (xs (i + 2)), .int (xs (i + 3)), .int (xs (i + 4))]) (rest := [.int x5]) ⟨hx, hb, hml, hown, hts⟩ (c_X6_tells l D G (aoM (s.heap.size + 236)) (wI_of ndM' oM _) J (xs (i + 1)) (xs (i + 2)) (xs (i + 3)) (xs (i + 4)) (hR.okMJ) (hR.okKJ) (hR.ok.T) (hR.okSJ)) (cwV 4 hts gL_law_X6_tells rfl rfl rfl (by decide +kernel) ⟨Nat.le_of_ble_eq_true rfl, Nat.le_of_ble_eq_true rfl⟩) (g_preV hK hM 0 0 (mM (by decide) (by decide)) rfl rfl) rfl rfl hl.1 rfl (lv_room (Nat.le_of_ble_eq_true rfl)) dL_law_1006 ⟨Nat.le_refl _, Nat.le_refl _⟩) hC hS (fun x6 u6 H locs h6 hM hC hS => ?_)
  obtain ⟨hq, hR⟩ := q_tells hR _ _ _ _ h5 h6
  exact lv_icmp_eq (tgt := 1299) hx hb dL_law_1009 (by decide) (fun _ => kk _ _ _ _ ⟨hR, hC, hM, hS⟩) (fun h => absurd hq h)
set_option maxHeartbeats 4000000 in
set_option maxRecDepth 100000 in
theorem lc_film (S : LH p s m meth c D G b L t xs) {I J : St} (hI : LI D G s I J H locs) {i : Nat} (hl : lv_has ls 4 [(3, .int (nI i)), (2, .ref (aoM (s.heap.size + 236) 0 0)), (1, .ref (adC s.heap.size 0 0)), (0, .ref b)]) (hi : i + 7 ≤ L)
    (kk : ∀ (I J : St) (H : Heap) (locs : List Loc), LI D G s I J H locs → W p l e room_1 s m #[Value.ref b] below meth c H locs 600000 7302250 Q (F0 m 1299 ls [])) : W p l e room_1 s m #[Value.ref b] below meth c H locs 600000 7302250 Q (F0 m 1014 ls []) := by
  obtain ⟨hx, hb, hml, hown, hts, hX, hbl, hK, hU, hL⟩ := id S
  obtain ⟨hR, hC, hM, hS⟩ := hI
  refine lv_aload_n hx hb dL_law_1014 rfl (lv_at hl 2 rfl) ?_
  refine w_sc S hS hl hi 1 (by decide) (by decide) dL_law_1015 dL_law_1016 dL_law_1017 dL_law_1018 dL_law_1019 ?_
  refine w_sc S hS hl hi 2 (by decide) (by decide) dL_law_1020 dL_law_1021 dL_law_1022 dL_law_1023 dL_law_1024 ?_
  refine w_sc S hS hl hi 3 (by decide) (by decide) dL_law_1025 dL_law_1026 dL_law_1027 dL_law_1028 dL_law_1029 ?_
  refine w_sc S hS hl hi 4 (by decide) (by decide) dL_law_1030 dL_law_1031 dL_law_1032 dL_law_1033 dL_law_1034 ?_
  refine w_c5i (va_runV (As := [.int (xs (i + 1)), .int (xs (i + 2)), .int (xs (i + 3)), .int (xs (i + 4))]) (rest := []) ⟨hx, hb, hml, hown, hts⟩ (c_X5_film l D G (adC s.heap.size) (wI_of ndC oC _) I (xs (i + 1)) (xs (i + 2)) (xs (i + 3)) (xs (i + 4)) (hR.okM) (hR.okK)) (cwV 4 hts gL_law_X5_film rfl rfl rfl (by decide +kernel) ⟨Nat.le_of_ble_eq_true rfl, Nat.le_of_ble_eq_true rfl⟩) (g_preV hK hC 0 0 (mC (by decide) (by decide)) rfl rfl) rfl rfl hl.1 rfl (lv_room (Nat.le_of_ble_eq_true rfl)) dL_law_1035 ⟨Nat.le_refl _, Nat.le_refl _⟩) hM hS (fun x5 u5 H locs h5 hC hM hS => ?_)
  refine lv_aload_n hx hb dL_law_1038 rfl (lv_at hl 1 rfl) ?_
  refine w_sc S hS hl hi 1 (by decide) (by decide) dL_law_1039 dL_law_1040 dL_law_1041 dL_law_1042 dL_law_1043 ?_
  refine w_sc S hS hl hi 2 (by decide) (by decide) dL_law_1044 dL_law_1045 dL_law_1046 dL_law_1047 dL_law_1048 ?_
  refine w_sc S hS hl hi 3 (by decide) (by decide) dL_law_1049 dL_law_1050 dL_law_1051 dL_law_1052 dL_law_1053 ?_
  refine w_sc S hS hl hi 4 (by decide) (by decide) dL_law_1054 dL_law_1055 dL_law_1056 dL_law_1057 dL_law_1058 ?_
  refine w_c6i (va_runV (As := [.int (xs (i + 1)), .int (xs (i + 2)), .int (xs (i + 3)), .int (xs (i + 4))]) (rest := [.int x5]) ⟨hx, hb, hml, hown, hts⟩ (c_X6_film l D G (aoM (s.heap.size + 236)) (wI_of ndM' oM _) J (xs (i + 1)) (xs (i + 2)) (xs (i + 3)) (xs (i + 4)) (hR.okMJ) (hR.okKJ)) (cwV 4 hts gL_law_X6_film rfl rfl rfl (by decide +kernel) ⟨Nat.le_of_ble_eq_true rfl, Nat.le_of_ble_eq_true rfl⟩) (g_preV hK hM 0 0 (mM (by decide) (by decide)) rfl rfl) rfl rfl hl.1 rfl (lv_room (Nat.le_of_ble_eq_true rfl)) dL_law_1059 ⟨Nat.le_refl _, Nat.le_refl _⟩) hC hS (fun x6 u6 H locs h6 hM hC hS => ?_)
  obtain ⟨hq, hR⟩ := q_film hR _ _ _ _ h5 h6
  exact lv_icmp_eq (tgt := 1299) hx hb dL_law_1062 (by decide) (fun _ => kk _ _ _ _ ⟨hR, hC, hM, hS⟩) (fun h => absurd hq h)
end
