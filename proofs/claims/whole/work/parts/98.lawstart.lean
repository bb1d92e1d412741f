set_option maxHeartbeats 8000000 in
set_option maxRecDepth 100000 in
/-- YOUR PART: from the entry, for every script of at most 3584 ints, the law comes to its end with true ('hflags': the launch's flags, for a law that throws: no stack traces) -/
theorem whole_start {p : Program} {e : Env} {s : State} {m : MethodId} {below : List Frame} {meth : Method} {c : Code} (l : Launch) (hflags : l.flags = flags0) {b L : Nat} {xs : Nat → Int32} (hL : L ≤ 3584) (C0 : lw_At p s m meth c b L xs) : W p l e room_1 s m #[Value.ref b] below meth c s.heap [] 0 0 (lw_Z below #[Value.ref b] s) (entryFrame m ([Value.ref b] : List Value).toArray 4) := by
  obtain ⟨hx, hb, hr, hml, hown, hts0, hX, hbl, hlocks, hgv⟩ := id C0
  have hown : s.vm.findClass RL = some m.cls := hown
  have hts : ∀ w ∈ wsL_law, w.before #[Value.ref b] s = true := fun w h => hts0 w (wsL_law_in w h)
  obtain ⟨D, G, hKX⟩ := law_KX hts0
  obtain ⟨t, hU⟩ := law_UD hts0 hgv
  have S : LH p s m meth c D G b L t xs := ⟨hx, hb, hml, hown, hts, hX, hbl, hKX.1, hU, hL⟩
  have hS : va_S (fun q => s.heap.size ≤ q) s.heap s.heap [] := va_S.rf
  have hl := lv_entry ([.ref b]) (n := 4) (Nat.le_of_ble_eq_true rfl)
  rw [lg_entry_eq]
  generalize (lg_sl ([.ref b]) ++ List.replicate (4 - (lg_sl ([.ref b])).length) Slot.unset).toArray = ls at hl ⊢
  have hl : lv_has ls 4 [(0, .ref b)] := hl
  have hP : PK D LC offC s.heap.size 0 (wC G (adC s.heap.size) I00) s.heap := ⟨rfl, fun x _ h => absurd h (Nat.not_lt_zero _)⟩
  refine k_new hx hb hts inlX5 tyX5 tyX5_ok hown (hts (.classLink RL 7 RX5) (by decide +kernel)) (hts (.instantiable RX5 8) (by decide +kernel)) (hts (.initialized RX5) (by decide +kernel)) hKX oC hP hS 0 0 (mC (by decide) (by decide)) rfl (ci := 5) rfl [.null, .null, .int 0, .null, .null, .null, .null, .null] (fun j hj => by rcases (show j = 0 ∨ j = 1 ∨ j = 2 ∨ j = 3 ∨ j = 4 ∨ j = 5 ∨ j = 6 ∨ j = 7 by omega) with rfl | rfl | rfl | rfl | rfl | rfl | rfl | rfl <;> rfl) (Nat.le_of_ble_eq_true rfl) (Nat.le_of_ble_eq_true rfl) dL_law_0 (fun H hP hS => ?_)
  refine lv_dup hx hb dL_law_3 rfl ?_
  refine k_cv (va_runI (As := []) (rest := [.ref (s.heap.size + offC 0 0)]) ⟨hx, hb, hml, hown, hts⟩ (c_X5_init l D G s.heap.size (wC G (adC s.heap.size) I00) (fun _ _ _ => rfl)) (cwI 0 hts gL_law_X5_init rfl rfl rfl (hts (.initialized RX5) (by decide +kernel)) (hts (.methodLink RL 9 yX5_init) (by decide +kernel)) (hts (.instanceMethod yX5_init) (by decide +kernel)) rfl (by decide +kernel) ⟨Nat.le_of_ble_eq_true rfl, Nat.le_of_ble_eq_true rfl⟩) (k_preS hKX hP) rfl rfl hl.1 rfl (lv_room (Nat.le_of_ble_eq_true rfl)) dL_law_4 ⟨(Nat.le_of_ble_eq_true rfl), (Nat.le_of_ble_eq_true rfl)⟩) hS (fun H locs hP hS => ?_)
  refine lv_astore_n (lv' := [(1, .ref (adC s.heap.size 0 0)), (0, .ref b)]) hx hb dL_law_7 rfl hl (by decide) rfl (fun ls hl => ?_)
  refine va_forget (fun q hq => hS.2.2 q hq) ?_
  have hC := PK_all hP ltC
  have hQ : PK D LM offM (s.heap.size + 236) 0 (wM G (aoM (s.heap.size + 236)) J00) H := ⟨hP.1, fun x _ h => absurd h (Nat.not_lt_zero _)⟩
  have hS2 : va_S (fun q => s.heap.size + 236 ≤ q) H H [] := va_S.rf
  refine k_new hx hb hts inlX6 tyX6 tyX6_ok hown (hts (.classLink RL 10 RX6) (by decide +kernel)) (hts (.instantiable RX6 27) (by decide +kernel)) (hts (.initialized RX6) (by decide +kernel)) hKX oM hQ hS2 0 0 (mM (by decide) (by decide)) rfl (ci := 6) rfl [.null, .null, .null, .null, .null, .null, .null, .null, .int 0, .null, .null, .null, .int 0, .int 0, .null, .null, .null, .null, .null, .null, .null, .null, .null, .null, .null, .null, .null] (fun j hj => by rcases (show j = 0 ∨ j = 1 ∨ j = 2 ∨ j = 3 ∨ j = 4 ∨ j = 5 ∨ j = 6 ∨ j = 7 ∨ j = 8 ∨ j = 9 ∨ j = 10 ∨ j = 11 ∨ j = 12 ∨ j = 13 ∨ j = 14 ∨ j = 15 ∨ j = 16 ∨ j = 17 ∨ j = 18 ∨ j = 19 ∨ j = 20 ∨ j = 21 ∨ j = 22 ∨ j = 23 ∨ j = 24 ∨ j = 25 ∨ j = 26 by omega) with rfl | rfl | rfl | rfl | rfl | rfl | rfl | rfl | rfl | rfl | rfl | rfl | rfl | rfl | rfl | rfl | rfl | rfl | rfl | rfl | rfl | rfl | rfl | rfl | rfl | rfl | rfl <;> rfl) (Nat.le_of_ble_eq_true rfl) (Nat.le_of_ble_eq_true rfl) dL_law_8 (fun H2 hQ hS2 => ?_)
  refine lv_dup hx hb dL_law_11 rfl ?_
  refine k_cv (va_runI (As := []) (rest := [.ref (s.heap.size + 236 + offM 0 0)]) ⟨hx, hb, hml, hown, hts⟩ (c_X6_init l D G (s.heap.size + 236) (wM G (aoM (s.heap.size + 236)) J00) (fun _ _ _ => rfl)) (cwI 0 hts gL_law_X6_init rfl rfl rfl (hts (.initialized RX6) (by decide +kernel)) (hts (.methodLink RL 12 yX6_init) (by decide +kernel)) (hts (.instanceMethod yX6_init) (by decide +kernel)) rfl (by decide +kernel) ⟨Nat.le_of_ble_eq_true rfl, Nat.le_of_ble_eq_true rfl⟩) (k_preS hKX hQ) rfl rfl hl.1 rfl (lv_room (Nat.le_of_ble_eq_true rfl)) dL_law_12 ⟨(Nat.le_of_ble_eq_true rfl), (Nat.le_of_ble_eq_true rfl)⟩) hS2 (fun H3 locs3 hQ hS3 => ?_)
  have hM := PK_all hQ ltMo
  have hC3 : va_P D vwCl (wS LC (adC s.heap.size) (wC G (adC s.heap.size) I00)) H3 := hC.kept fun k q hq => hS3.2.1 q.1 (hC k q hq).lt (fun z => by
    obtain ⟨x, hx, rfl⟩ := wS_at hq
    have h2 : adC s.heap.size x.1 x.2 < s.heap.size + 236 := Nat.add_lt_add_left (ltC x (List.mem_of_getElem? hx)) _
    exact absurd h2 (Nat.not_lt.mpr z))
  have hS4 : va_S (fun q => s.heap.size ≤ q) s.heap H3 locs3 := ⟨Nat.le_trans hS.1 hS3.1, fun q h1 h2 => (hS3.2.1 q (Nat.lt_of_lt_of_le h1 hS.1) (fun z => h2 (Nat.le_trans (Nat.le_add_right _ _) z))).trans (hS.2.1 q h1 h2), fun q hq => Nat.le_trans (Nat.le_add_right _ _) (hS3.2.2 q hq)⟩
  refine lv_astore_n (lv' := [(2, .ref (aoM (s.heap.size + 236) 0 0)), (1, .ref (adC s.heap.size 0 0)), (0, .ref b)]) hx hb dL_law_15 rfl hl (by decide) rfl (fun ls hl => ?_)
  refine lv_iconst (v := nI 0) hx hb dL_law_16 (by decide) ?_
  refine lv_istore_n (lv' := [(3, .int (nI 0)), (2, .ref (aoM (s.heap.size + 236) 0 0)), (1, .ref (adC s.heap.size 0 0)), (0, .ref b)]) hx hb dL_law_17 rfl hl (by decide) rfl (fun ls hl => ?_)
  refine W.widen (k := 600000) (n := 7302250) (Nat.le_of_ble_eq_true rfl) (Nat.le_of_ble_eq_true rfl) ?_
  exact lc_loop S hr hlocks L 0 I00 J00 H3 locs3 ls (by omega) (by decide) ⟨Rel_00, hC3, hM, hS4⟩ hl
