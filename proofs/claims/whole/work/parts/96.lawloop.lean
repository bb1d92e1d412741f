/-! ===== the law's loop ===== -/
section
variable {p : Program} {l : Launch} {e : Env} {s : State} {m : MethodId} {below : List Frame} {meth : Method} {c : Code} {H : Heap} {locs : List Loc} {ls : Array Slot} {D : va_G} {G : Nat → ClassId} {b L t : Nat} {xs : Nat → Int32}
theorem lc_exit (S : LH p s m meth c D G b L t xs) (hr : meth.sig.returnType = ret) (hlocks : meth.locks = false) {I J : St} (hI : LI D G s I J H locs) : W p l e room_1 s m #[Value.ref b] below meth c H locs 600000 7302250 (lw_Z below #[Value.ref b] s) (F0 m 1305 ls []) := by
  obtain ⟨hx, hb, -⟩ := S
  obtain ⟨hR, hC, hM, hS⟩ := hI
  refine lv_iconst (v := 1) hx hb dL_law_1305 (by decide) ?_
  refine va_forget (fun q hq => hS.2.2 q hq) ?_
  refine W.base ?_
  exact lw_ret (Drawn.sameBut.refl s.drawn lw_cs) hx hb hr hlocks dL_law_1306
set_option maxHeartbeats 4000000 in
set_option maxRecDepth 100000 in
theorem lc_step (S : LH p s m meth c D G b L t xs) {I J : St} (hI : LI D G s I J H locs) {i : Nat} (hl : lv_has ls 4 [(3, .int (nI i)), (2, .ref (aoM (s.heap.size + 236) 0 0)), (1, .ref (adC s.heap.size 0 0)), (0, .ref b)]) (hi : i + 7 ≤ L)
    (kk : ∀ (I J : St) (H : Heap) (locs : List Loc) (ls : Array Slot), LI D G s I J H locs → lv_has ls 4 [(3, .int (nI (i + 7))), (2, .ref (aoM (s.heap.size + 236) 0 0)), (1, .ref (adC s.heap.size 0 0)), (0, .ref b)] → W p l e room_1 s m #[Value.ref b] below meth c H locs 600000 7302250 (lw_Z below #[Value.ref b] s) (F0 m 18 ls [])) : W p l e room_1 s m #[Value.ref b] below meth c H locs 600000 7302250 (lw_Z below #[Value.ref b] s) (F0 m 27 ls []) := by
  obtain ⟨hx, hb, hml, hown, hts, hX, hbl, hK, hU, hL⟩ := id S
  have K : ∀ (I J : St) (H : Heap) (locs : List Loc), LI D G s I J H locs → W p l e room_1 s m #[Value.ref b] below meth c H locs 600000 7302250 (lw_Z below #[Value.ref b] s) (F0 m 1299 ls []) := by
    intro I J H locs hI
    refine lv_iinc (v := nI (i + 7)) (lv' := [(3, .int (nI (i + 7))), (2, .ref (aoM (s.heap.size + 236) 0 0)), (1, .ref (adC s.heap.size 0 0)), (0, .ref b)]) hx hb dL_law_1299 hl (k := 0) rfl (nI_inc i 7) (by decide) rfl (fun ls hl => ?_)
    refine lv_goto (tgt := 18) hx hb dL_law_1302 (by decide) ?_
    exact kk _ _ _ _ _ hI hl
  obtain ⟨hR, hC, hM, hS⟩ := id hI
  refine lv_aload_n hx hb dL_law_27 rfl (lv_at hl 3 rfl) ?_
  refine lv_iload_n hx hb dL_law_28 rfl (lv_at hl 0 rfl) ?_
  refine va_sld hx hb hX hbl (Nat.not_le.mpr hbl) hS (vp_in_nI (show i < L by omega) (by omega)) dL_law_29 ?_
  refine lv_bipush (v := nI 31) hx hb dL_law_30 (by decide) ?_
  refine lv_iand hx hb dL_law_32 ?_
  refine lv_topi (fun x _ => ?_)
  by_cases h0 : x = nI 0
  · exact lv_tableIn (tgt := 160) (off := 127) hx hb dL_law_33 (by rw [h0]; decide) (by rw [h0]; decide) (by rw [h0]; rfl) (by decide) (lc_add S hI hl hi K)
  by_cases h1 : x = nI 1
  · exact lv_tableIn (tgt := 213) (off := 180) hx hb dL_law_33 (by rw [h1]; decide) (by rw [h1]; decide) (by rw [h1]; rfl) (by decide) (lc_take S hI hl hi K)
  by_cases h2 : x = nI 2
  · exact lv_tableIn (tgt := 266) (off := 233) hx hb dL_law_33 (by rw [h2]; decide) (by rw [h2]; decide) (by rw [h2]; rfl) (by decide) (lc_reset S hI hl hi K)
  by_cases h3 : x = nI 3
  · exact lv_tableIn (tgt := 299) (off := 266) hx hb dL_law_33 (by rw [h3]; decide) (by rw [h3]; decide) (by rw [h3]; rfl) (by decide) (lc_kind S hI hl hi K)
  by_cases h4 : x = nI 4
  · exact lv_tableIn (tgt := 342) (off := 309) hx hb dL_law_33 (by rw [h4]; decide) (by rw [h4]; decide) (by rw [h4]; rfl) (by decide) (lc_taken S hI hl hi K)
  by_cases h5 : x = nI 5
  · exact lv_tableIn (tgt := 385) (off := 352) hx hb dL_law_33 (by rw [h5]; decide) (by rw [h5]; decide) (by rw [h5]; rfl) (by decide) (lc_worth S hI hl hi K)
  by_cases h6 : x = nI 6
  · exact lv_tableIn (tgt := 429) (off := 396) hx hb dL_law_33 (by rw [h6]; decide) (by rw [h6]; decide) (by rw [h6]; rfl) (by decide) (lc_told S hI hl hi K)
  by_cases h7 : x = nI 7
  · exact lv_tableIn (tgt := 472) (off := 439) hx hb dL_law_33 (by rw [h7]; decide) (by rw [h7]; decide) (by rw [h7]; rfl) (by decide) (lc_dot S hI hl hi K)
  by_cases h8 : x = nI 8
  · exact lv_tableIn (tgt := 515) (off := 482) hx hb dL_law_33 (by rw [h8]; decide) (by rw [h8]; decide) (by rw [h8]; rfl) (by decide) (lc_has S hI hl hi K)
  by_cases h9 : x = nI 9
  · exact lv_tableIn (tgt := 568) (off := 535) hx hb dL_law_33 (by rw [h9]; decide) (by rw [h9]; decide) (by rw [h9]; rfl) (by decide) (lc_send S hI hl hi K)
  by_cases h10 : x = nI 10
  · exact lv_tableIn (tgt := 611) (off := 578) hx hb dL_law_33 (by rw [h10]; decide) (by rw [h10]; decide) (by rw [h10]; rfl) (by decide) (lc_come S hI hl hi K)
  by_cases h11 : x = nI 11
  · exact lv_tableIn (tgt := 634) (off := 601) hx hb dL_law_33 (by rw [h11]; decide) (by rw [h11]; decide) (by rw [h11]; rfl) (by decide) (lc_lose S hI hl hi K)
  by_cases h12 : x = nI 12
  · exact lv_tableIn (tgt := 657) (off := 624) hx hb dL_law_33 (by rw [h12]; decide) (by rw [h12]; decide) (by rw [h12]; rfl) (by decide) (lc_twice S hI hl hi K)
  by_cases h13 : x = nI 13
  · exact lv_tableIn (tgt := 680) (off := 647) hx hb dL_law_33 (by rw [h13]; decide) (by rw [h13]; decide) (by rw [h13]; rfl) (by decide) (lc_letter S hI hl hi K)
  by_cases h14 : x = nI 14
  · exact lv_tableIn (tgt := 713) (off := 680) hx hb dL_law_33 (by rw [h14]; decide) (by rw [h14]; decide) (by rw [h14]; rfl) (by decide) (lc_met S hI hl hi K)
  by_cases h15 : x = nI 15
  · exact lv_tableIn (tgt := 747) (off := 714) hx hb dL_law_33 (by rw [h15]; decide) (by rw [h15]; decide) (by rw [h15]; rfl) (by decide) (lc_apart S hI hl hi K)
  by_cases h16 : x = nI 16
  · exact lv_tableIn (tgt := 790) (off := 757) hx hb dL_law_33 (by rw [h16]; decide) (by rw [h16]; decide) (by rw [h16]; rfl) (by decide) (lc_needs S hI hl hi K)
  by_cases h17 : x = nI 17
  · exact lv_tableIn (tgt := 885) (off := 852) hx hb dL_law_33 (by rw [h17]; decide) (by rw [h17]; decide) (by rw [h17]; rfl) (by decide) (lc_drawn S hI hl hi K)
  by_cases h18 : x = nI 18
  · exact lv_tableIn (tgt := 918) (off := 885) hx hb dL_law_33 (by rw [h18]; decide) (by rw [h18]; decide) (by rw [h18]; rfl) (by decide) (lc_chance S hI hl hi K)
  by_cases h19 : x = nI 19
  · exact lv_tableIn (tgt := 961) (off := 928) hx hb dL_law_33 (by rw [h19]; decide) (by rw [h19]; decide) (by rw [h19]; rfl) (by decide) (lc_tells S hI hl hi K)
  by_cases h20 : x = nI 20
  · exact lv_tableIn (tgt := 1014) (off := 981) hx hb dL_law_33 (by rw [h20]; decide) (by rw [h20]; decide) (by rw [h20]; rfl) (by decide) (lc_film S hI hl hi K)
  by_cases h21 : x = nI 21
  · exact lv_tableIn (tgt := 1067) (off := 1034) hx hb dL_law_33 (by rw [h21]; decide) (by rw [h21]; decide) (by rw [h21]; rfl) (by decide) (lc_image S hI hl hi K)
  by_cases h22 : x = nI 22
  · exact lv_tableIn (tgt := 1080) (off := 1047) hx hb dL_law_33 (by rw [h22]; decide) (by rw [h22]; decide) (by rw [h22]; rfl) (by decide) (lc_back S hI hl hi K)
  by_cases h23 : x = nI 23
  · exact lv_tableIn (tgt := 1093) (off := 1060) hx hb dL_law_33 (by rw [h23]; decide) (by rw [h23]; decide) (by rw [h23]; rfl) (by decide) (lc_count S hI hl hi K)
  by_cases h24 : x = nI 24
  · exact lv_tableIn (tgt := 1116) (off := 1083) hx hb dL_law_33 (by rw [h24]; decide) (by rw [h24]; decide) (by rw [h24]; rfl) (by decide) (lc_sheet S hI hl hi K)
  by_cases h25 : x = nI 25
  · exact lv_tableIn (tgt := 1159) (off := 1126) hx hb dL_law_33 (by rw [h25]; decide) (by rw [h25]; decide) (by rw [h25]; rfl) (by decide) (lc_put S hI hl hi K)
  by_cases h26 : x = nI 26
  · exact lv_tableIn (tgt := 1202) (off := 1169) hx hb dL_law_33 (by rw [h26]; decide) (by rw [h26]; decide) (by rw [h26]; rfl) (by decide) (lc_item S hI hl hi K)
  by_cases h27 : x = nI 27
  · exact lv_tableIn (tgt := 1236) (off := 1203) hx hb dL_law_33 (by rw [h27]; decide) (by rw [h27]; decide) (by rw [h27]; rfl) (by decide) (lc_copy S hI hl hi K)
  exact lv_tableOut (tgt := 1299) hx hb dL_law_33 (sw_rng 0 27 (by decide) (fun j _ h2 => by
    rcases (by omega : j = 0 ∨ j = 1 ∨ j = 2 ∨ j = 3 ∨ j = 4 ∨ j = 5 ∨ j = 6 ∨ j = 7 ∨ j = 8 ∨ j = 9 ∨ j = 10 ∨ j = 11 ∨ j = 12 ∨ j = 13 ∨ j = 14 ∨ j = 15 ∨ j = 16 ∨ j = 17 ∨ j = 18 ∨ j = 19 ∨ j = 20 ∨ j = 21 ∨ j = 22 ∨ j = 23 ∨ j = 24 ∨ j = 25 ∨ j = 26 ∨ j = 27) with rfl | rfl | rfl | rfl | rfl | rfl | rfl | rfl | rfl | rfl | rfl | rfl | rfl | rfl | rfl | rfl | rfl | rfl | rfl | rfl | rfl | rfl | rfl | rfl | rfl | rfl | rfl | rfl <;> assumption)) (by decide) (K _ _ _ _ hI)
theorem lc_head (S : LH p s m meth c D G b L t xs) {I J : St} (hI : LI D G s I J H locs) {i : Nat} (hl : lv_has ls 4 [(3, .int (nI i)), (2, .ref (aoM (s.heap.size + 236) 0 0)), (1, .ref (adC s.heap.size 0 0)), (0, .ref b)]) (hi5 : i < 5000)
    (kt : ¬ i + 7 ≤ L → W p l e room_1 s m #[Value.ref b] below meth c H locs 600000 7302250 (lw_Z below #[Value.ref b] s) (F0 m 1305 ls [])) (kf : i + 7 ≤ L → W p l e room_1 s m #[Value.ref b] below meth c H locs 600000 7302250 (lw_Z below #[Value.ref b] s) (F0 m 27 ls [])) : W p l e room_1 s m #[Value.ref b] below meth c H locs 600000 7302250 (lw_Z below #[Value.ref b] s) (F0 m 18 ls []) := by
  obtain ⟨hx, hb, hml, hown, hts, hX, hbl, hK, hU, hL⟩ := S
  obtain ⟨hR, hC, hM, hS⟩ := hI
  refine lv_iload_n hx hb dL_law_18 rfl (lv_at hl 0 rfl) ?_
  refine lv_aload_n hx hb dL_law_19 rfl (lv_at hl 3 rfl) ?_
  refine va_slen hx hb hX hbl (Nat.not_le.mpr hbl) hS dL_law_20 ?_
  refine lv_bipush (v := nI 7) hx hb dL_law_21 (by decide) ?_
  refine lv_isub hx hb dL_law_23 ?_
  exact lv_icmp_gt (tgt := 1305) hx hb dL_law_24 (by decide) (fun h => kt ((law_gt hi5 hL).mp h)) (fun h => kf (Decidable.byContradiction fun q => h ((law_gt hi5 hL).mpr q)))
theorem lc_loop (S : LH p s m meth c D G b L t xs) (hr : meth.sig.returnType = ret) (hlocks : meth.locks = false) : ∀ (n i : Nat) (I J : St) (H : Heap) (locs : List Loc) (ls : Array Slot), L ≤ i + n → i < 5000 → LI D G s I J H locs → lv_has ls 4 [(3, .int (nI i)), (2, .ref (aoM (s.heap.size + 236) 0 0)), (1, .ref (adC s.heap.size 0 0)), (0, .ref b)] → W p l e room_1 s m #[Value.ref b] below meth c H locs 600000 7302250 (lw_Z below #[Value.ref b] s) (F0 m 18 ls []) := by
  have hL : L ≤ 3584 := S.2.2.2.2.2.2.2.2.2
  intro n
  induction n with
  | zero =>
    intro i I J H locs ls hn h5 hI hl
    exact lc_head S hI hl h5 (fun _ => lc_exit S hr hlocks hI) (fun h => absurd h (by omega))
  | succ n ih =>
    intro i I J H locs ls hn h5 hI hl
    exact lc_head S hI hl h5 (fun _ => lc_exit S hr hlocks hI) (fun h => lc_step S hI hl h (fun I J H locs ls hI hl => ih (i + 7) I J H locs ls (by omega) (by omega) hI hl))
end
