/-! ===== constructors: Network ===== -/
set_option maxHeartbeats 4000000 in
set_option maxRecDepth 100000 in
theorem c_X2_init (l : Launch) (D : va_G) (G : Nat → ClassId) (b : Nat) (σ : Cont) (n : Nat) (hn : n < 2) (hσ : ∀ f i, 1 ≤ f → (f, i) ∈ LC → σ f i = wC G (adC b) I00 f i) : Met l yX2_init wsX2_init ({ frames := 3, cells := 101, slots := 915, locals := 60 } : Room) (kPre D G LC offC b (2 + 102 * n) (upC σ 1 n (.inr (2, [.null, .null, .null, .null, .null, .null, .int 0]))) [.ref (b + offC 1 n)]) (kQ D LC offC b (103 + 102 * n) (σ)) 101 915 (fun q => b ≤ q) := by
  refine k_entry (C := RX2) (cc := cX2_init) (maxL := 2) (ret := none) rfl rfl (by decide) rfl (Nat.le_of_ble_eq_true rfl) (fun p e s m args below meth c Q ls hQ hx hb hr hts hown hlocks hml hin2 hP hK hl => ?_)
  have hl : lv_has ls 2 [(0, .ref (b + offC 1 n))] := hl
  have hO := oC
  have hinX2 : ∀ w ∈ wsX20, w ∈ wsX2_init := by decide +kernel
  have hinX0 : ∀ w ∈ wsX00, w ∈ wsX2_init := by decide +kernel
  have hinX4 : ∀ w ∈ wsX40, w ∈ wsX2_init := by decide +kernel
  have hinX1 : ∀ w ∈ wsX10, w ∈ wsX2_init := by decide +kernel
  have hS := va_S.rf (A := fun q => b ≤ q) (H0 := s.heap)
  have hbs := oB n hn
  have s1 : σ 1 n = wC G (adC b) I00 1 n := hσ 1 n (by decide) (mC (by decide) hn)
  refine lv_aload_n hx hb dX2_init_0 rfl (lv_at hl 0 rfl) ?_
  refine W.objInit hx hb hown (hts (.methodLink RX2 3 objectInit) (by decide +kernel)) (hts (.instanceMethod objectInit) (by decide +kernel)) (hts _ (List.mem_of_getElem? (i := 3) rfl)) rfl (by rw [hml]; exact hl.1) rfl dX2_init_1 (Nat.le_of_ble_eq_true rfl) (Nat.le_of_ble_eq_true rfl) ?_
  refine W.eq (g2 := F0 m 4 ls []) rfl ?_
  refine lv_aload_n hx hb dX2_init_4 rfl (lv_at hl 0 rfl) ?_
  refine k_new hx hb hts hinX0 tyX0 tyX0_ok hown (hts (.classLink RX2 9 RX0) (by decide +kernel)) (hts (.instantiable RX0 5) (by decide +kernel)) (hts (.initialized RX0) (by decide +kernel)) hK hO hP hS 5 (n) (mC (by decide) hn) (by show 2 + 102 * n = _; omega) (ci := 0) rfl [.null, .null, .null, .null, .null] (fun j hj => by rcases (show j = 0 ∨ j = 1 ∨ j = 2 ∨ j = 3 ∨ j = 4 by omega) with rfl | rfl | rfl | rfl | rfl <;> rfl) (Nat.le_of_ble_eq_true rfl) (Nat.le_of_ble_eq_true rfl) dX2_init_5 (fun H hP hS => ?_)
  refine lv_dup hx hb dX2_init_8 rfl ?_
  have hP : PK D LC offC b (3 + 102 * n) (upC (upC σ 1 n (.inr (2, [.null, .null, .null, .null, .null, .null, .int 0]))) 5 n (.inr (0, [.null, .null, .null, .null, .null]))) H := by rw [show 3 + 102 * n = 2 + 102 * n + 1 by omega]; exact hP
  refine k_cv (va_runIN (As := []) (rest := [.ref (b + offC 5 (n)), .ref (b + offC 1 (n))]) ⟨hx, hb, hml, hown, hts⟩ (c_X0_init l D G b (3 + 102 * n) (upC σ 1 n (.inr (2, [.null, .null, .null, .null, .null, .null, .int 0]))) n hn (by show 2 + 102 * n < _; omega) (by show 3 + 102 * n = _; omega) (by show 4 + 102 * n = _; omega) (by show 5 + 102 * n = _; omega) (by show 6 + 102 * n = _; omega) (by show 7 + 102 * n = _; omega) (by rw [upC_n (by omega)]; exact hσ 5 (n) (by decide) (mC (by decide) hn)) (by rw [upC_n (by omega)]; exact hσ 12 (n) (by decide) (mC (by decide) hn)) (by rw [upC_n (by omega)]; exact hσ 13 (n) (by decide) (mC (by decide) hn)) (by rw [upC_n (by omega)]; exact hσ 14 (n) (by decide) (mC (by decide) hn)) (by rw [upC_n (by omega)]; exact hσ 15 (n) (by decide) (mC (by decide) hn)) (by rw [upC_n (by omega)]; exact hσ 20 (n) (by decide) (mC (by decide) hn))) ⟨va_cnB 0 hts gX2_init_X0_init_n11 rfl rfl rfl (hK.2.2 _ (List.mem_of_getElem? (i := 0) rfl)) (hts (.initialized RX0) (by decide +kernel)) (by decide +kernel) ⟨Nat.le_of_ble_eq_true rfl, Nat.le_of_ble_eq_true rfl⟩, rfl, (hts (.instanceMethod yX0_init) (by decide +kernel))⟩ (k_preS hK hP) rfl rfl hl.1 rfl (lv_room (Nat.le_of_ble_eq_true rfl)) dX2_init_9 ⟨(Nat.le_of_ble_eq_true rfl), (Nat.le_of_ble_eq_true rfl)⟩) hS (fun H locs hP hS => ?_)
  refine k_putF hx hb hts hinX2 tyX2 tyX2_ok nmX2 hown hin2 hK hO hP hS 1 (n) (mC (by decide) hn) (by show 1 + 102 * n < _; omega) (upC_s _ _ _ _) rfl 0 (by decide) (hts (.fieldLink RX2 12 "JoinedStores$Network" "dots" "LJoinedStores$Dots;") (by decide +kernel)) rfl rfl rfl (ty := .object "JoinedStores$Dots") (by decide +kernel) rfl rfl (Nat.le_of_ble_eq_true rfl) dX2_init_12 (fun H locs hP hS => ?_)
  have hP : PK D LC offC b (8 + 102 * n) (upC σ 1 n (.inr (2, [.ref (b + offC 5 (n)), .null, .null, .null, .null, .null, .int 0]))) H := by rw [upC_u] at hP; rw [show 8 + 102 * n = 3 + 102 * n + 5 by omega]; exact hP
  refine lv_aload_n hx hb dX2_init_15 rfl (lv_at hl 0 rfl) ?_
  refine lv_bipush (v := nI 12) hx hb dX2_init_16 (by decide) ?_
  refine k_newi hx hb (hts (.arrayClass .int) (by decide +kernel)) hK hO hP hS 16 (n) (mC (by decide) hn) (by show 8 + 102 * n = _; omega) 12 (z := I00 16 n) (by rw [upC_n (by omega), hσ 16 (n) (by decide) (mC (by decide) hn)]; rfl) (fun _ _ => rfl) rfl (by decide) (Nat.le_of_ble_eq_true rfl) (Nat.le_of_ble_eq_true rfl) dX2_init_18 (fun H hP hS => ?_)
  refine k_putF hx hb hts hinX2 tyX2 tyX2_ok nmX2 hown hin2 hK hO hP hS 1 (n) (mC (by decide) hn) (by show 1 + 102 * n < _; omega) (upC_s _ _ _ _) rfl 1 (by decide) (hts (.fieldLink RX2 18 "JoinedStores$Network" "kinds" "[I") (by decide +kernel)) rfl rfl rfl (ty := .array .int) (by decide +kernel) rfl rfl (Nat.le_of_ble_eq_true rfl) dX2_init_20 (fun H locs hP hS => ?_)
  have hP : PK D LC offC b (9 + 102 * n) (upC σ 1 n (.inr (2, [.ref (b + offC 5 (n)), .ref (b + offC 16 (n)), .null, .null, .null, .null, .int 0]))) H := by rw [upC_u] at hP; rw [show 9 + 102 * n = 8 + 102 * n + 1 by omega]; exact hP
  refine lv_aload_n hx hb dX2_init_23 rfl (lv_at hl 0 rfl) ?_
  refine lv_iconst (v := nI 4) hx hb dX2_init_24 (by decide) ?_
  refine k_anew hx hb hown (hts (.classLink RX2 22 RX4) (by decide +kernel)) hK.2.1.1 hK hO hP hS 3 (2 * n) (mC (by decide) (show 2 * n < 5 by omega)) ((oN n hn).1.trans (by omega)) 1 rfl 4 rfl (by decide) (Nat.le_of_ble_eq_true rfl) (Nat.le_of_ble_eq_true rfl) dX2_init_25 (fun H hP hS => ?_)
  have hP : PK D LC offC b (10 + 102 * n) (upC (upC σ 3 (2 * n) (.inl (G 1, 4, .inr (.inr (.inr (.inr fun _ => none)))))) 1 n (.inr (2, [.ref (b + offC 5 (n)), .ref (b + offC 16 (n)), .null, .null, .null, .null, .int 0]))) H := by rw [upC_c (by omega)] at hP; rw [show 10 + 102 * n = 9 + 102 * n + 1 by omega]; exact hP
  refine k_putF hx hb hts hinX2 tyX2 tyX2_ok nmX2 hown hin2 hK hO hP hS 1 (n) (mC (by decide) hn) (by show 1 + 102 * n < _; omega) (upC_s _ _ _ _) rfl 2 (by decide) (hts (.fieldLink RX2 24 "JoinedStores$Network" "stores" "[LJoinedStores$Store;") (by decide +kernel)) rfl rfl rfl (ty := .array (.object "JoinedStores$Store")) (by decide +kernel) rfl rfl (Nat.le_of_ble_eq_true rfl) dX2_init_28 (fun H locs hP hS => ?_)
  have hP : PK D LC offC b (10 + 102 * n) (upC (upC σ 3 (2 * n) (.inl (G 1, 4, .inr (.inr (.inr (.inr fun _ => none)))))) 1 n (.inr (2, [.ref (b + offC 5 (n)), .ref (b + offC 16 (n)), .ref (b + offC 3 (2 * n)), .null, .null, .null, .int 0]))) H := by rw [upC_u] at hP; exact hP
  refine lv_aload_n hx hb dX2_init_31 rfl (lv_at hl 0 rfl) ?_
  refine lv_bipush (v := nI 16) hx hb dX2_init_32 (by decide) ?_
  refine k_anew hx hb hown (hts (.classLink RX2 22 RX4) (by decide +kernel)) hK.2.1.1 hK hO hP hS 3 (2 * n + 1) (mC (by decide) (show 2 * n + 1 < 5 by omega)) ((oN n hn).2.trans (by omega)) 1 rfl 16 rfl (by decide) (Nat.le_of_ble_eq_true rfl) (Nat.le_of_ble_eq_true rfl) dX2_init_34 (fun H hP hS => ?_)
  have hP : PK D LC offC b (11 + 102 * n) (upC (upC (upC σ 3 (2 * n) (.inl (G 1, 4, .inr (.inr (.inr (.inr fun _ => none)))))) 3 (2 * n + 1) (.inl (G 1, 16, .inr (.inr (.inr (.inr fun _ => none)))))) 1 n (.inr (2, [.ref (b + offC 5 (n)), .ref (b + offC 16 (n)), .ref (b + offC 3 (2 * n)), .null, .null, .null, .int 0]))) H := by rw [upC_c (by omega)] at hP; rw [show 11 + 102 * n = 10 + 102 * n + 1 by omega]; exact hP
  refine k_putF hx hb hts hinX2 tyX2 tyX2_ok nmX2 hown hin2 hK hO hP hS 1 (n) (mC (by decide) hn) (by show 1 + 102 * n < _; omega) (upC_s _ _ _ _) rfl 3 (by decide) (hts (.fieldLink RX2 28 "JoinedStores$Network" "parcels" "[LJoinedStores$Store;") (by decide +kernel)) rfl rfl rfl (ty := .array (.object "JoinedStores$Store")) (by decide +kernel) rfl rfl (Nat.le_of_ble_eq_true rfl) dX2_init_37 (fun H locs hP hS => ?_)
  have hP : PK D LC offC b (11 + 102 * n) (upC (upC (upC σ 3 (2 * n) (.inl (G 1, 4, .inr (.inr (.inr (.inr fun _ => none)))))) 3 (2 * n + 1) (.inl (G 1, 16, .inr (.inr (.inr (.inr fun _ => none)))))) 1 n (.inr (2, [.ref (b + offC 5 (n)), .ref (b + offC 16 (n)), .ref (b + offC 3 (2 * n)), .ref (b + offC 3 (2 * n + 1)), .null, .null, .int 0]))) H := by rw [upC_u] at hP; exact hP
  refine lv_aload_n hx hb dX2_init_40 rfl (lv_at hl 0 rfl) ?_
  refine lv_bipush (v := nI 64) hx hb dX2_init_41 (by decide) ?_
  refine k_newi hx hb (hts (.arrayClass .int) (by decide +kernel)) hK hO hP hS 17 (n) (mC (by decide) hn) (by show 11 + 102 * n = _; omega) 64 (z := I00 17 n) (by rw [upC_n (by omega), upC_n (by omega), upC_n (by omega), hσ 17 (n) (by decide) (mC (by decide) hn)]; rfl) (fun _ _ => rfl) rfl (by decide) (Nat.le_of_ble_eq_true rfl) (Nat.le_of_ble_eq_true rfl) dX2_init_43 (fun H hP hS => ?_)
  refine k_putF hx hb hts hinX2 tyX2 tyX2_ok nmX2 hown hin2 hK hO hP hS 1 (n) (mC (by decide) hn) (by show 1 + 102 * n < _; omega) (upC_s _ _ _ _) rfl 4 (by decide) (hts (.fieldLink RX2 31 "JoinedStores$Network" "known" "[I") (by decide +kernel)) rfl rfl rfl (ty := .array .int) (by decide +kernel) rfl rfl (Nat.le_of_ble_eq_true rfl) dX2_init_45 (fun H locs hP hS => ?_)
  have hP : PK D LC offC b (12 + 102 * n) (upC (upC (upC σ 3 (2 * n) (.inl (G 1, 4, .inr (.inr (.inr (.inr fun _ => none)))))) 3 (2 * n + 1) (.inl (G 1, 16, .inr (.inr (.inr (.inr fun _ => none)))))) 1 n (.inr (2, [.ref (b + offC 5 (n)), .ref (b + offC 16 (n)), .ref (b + offC 3 (2 * n)), .ref (b + offC 3 (2 * n + 1)), .ref (b + offC 17 (n)), .null, .int 0]))) H := by rw [upC_u] at hP; rw [show 12 + 102 * n = 11 + 102 * n + 1 by omega]; exact hP
  refine lv_aload_n hx hb dX2_init_48 rfl (lv_at hl 0 rfl) ?_
  refine lv_bipush (v := nI 6) hx hb dX2_init_49 (by decide) ?_
  refine k_anew hx hb hown (hts (.classLink RX2 34 RX1) (by decide +kernel)) hK.2.1.2.1 hK hO hP hS 6 (n) (mC (by decide) hn) (by show 12 + 102 * n = _; omega) 2 rfl 6 rfl (by decide) (Nat.le_of_ble_eq_true rfl) (Nat.le_of_ble_eq_true rfl) dX2_init_51 (fun H hP hS => ?_)
  have hP : PK D LC offC b (13 + 102 * n) (upC (upC (upC (upC σ 3 (2 * n) (.inl (G 1, 4, .inr (.inr (.inr (.inr fun _ => none)))))) 3 (2 * n + 1) (.inl (G 1, 16, .inr (.inr (.inr (.inr fun _ => none)))))) 6 n (.inl (G 2, 6, .inr (.inr (.inr (.inr fun _ => none)))))) 1 n (.inr (2, [.ref (b + offC 5 (n)), .ref (b + offC 16 (n)), .ref (b + offC 3 (2 * n)), .ref (b + offC 3 (2 * n + 1)), .ref (b + offC 17 (n)), .null, .int 0]))) H := by rw [upC_c (by omega)] at hP; rw [show 13 + 102 * n = 12 + 102 * n + 1 by omega]; exact hP
  refine k_putF hx hb hts hinX2 tyX2 tyX2_ok nmX2 hown hin2 hK hO hP hS 1 (n) (mC (by decide) hn) (by show 1 + 102 * n < _; omega) (upC_s _ _ _ _) rfl 5 (by decide) (hts (.fieldLink RX2 36 "JoinedStores$Network" "waiting" "[LJoinedStores$Message;") (by decide +kernel)) rfl rfl rfl (ty := .array (.object "JoinedStores$Message")) (by decide +kernel) rfl rfl (Nat.le_of_ble_eq_true rfl) dX2_init_54 (fun H locs hP hS => ?_)
  have hP : PK D LC offC b (13 + 102 * n) (upC (upC (upC (upC σ 3 (2 * n) (.inl (G 1, 4, .inr (.inr (.inr (.inr fun _ => none)))))) 3 (2 * n + 1) (.inl (G 1, 16, .inr (.inr (.inr (.inr fun _ => none)))))) 6 n (.inl (G 2, 6, .inr (.inr (.inr (.inr fun _ => none)))))) 1 n (.inr (2, [.ref (b + offC 5 (n)), .ref (b + offC 16 (n)), .ref (b + offC 3 (2 * n)), .ref (b + offC 3 (2 * n + 1)), .ref (b + offC 17 (n)), .ref (b + offC 6 (n)), .int 0]))) H := by rw [upC_u] at hP; exact hP
  rw [upC_id (show (upC (upC (upC σ 3 (2 * n) (.inl (G 1, 4, .inr (.inr (.inr (.inr fun _ => none)))))) 3 (2 * n + 1) (.inl (G 1, 16, .inr (.inr (.inr (.inr fun _ => none)))))) 6 n (.inl (G 2, 6, .inr (.inr (.inr (.inr fun _ => none)))))) 1 n = (.inr (2, [.ref (b + offC 5 (n)), .ref (b + offC 16 (n)), .ref (b + offC 3 (2 * n)), .ref (b + offC 3 (2 * n + 1)), .ref (b + offC 17 (n)), .ref (b + offC 6 (n)), .int 0]) : va_E) by rw [upC_n (by omega), upC_n (by omega), upC_n (by omega), s1]; rfl)] at hP
  have hσM : ∀ n, n < 2 → σ 6 n = .inl (G 2, 6, .inr (.inr (.inr (.inr fun j => some (b + offC 8 ((I00 6 n j).toNatClampNeg + 6 * n)))))) := fun n hn => (hσ 6 (n) (by decide) (mC (by decide) hn)).trans rfl
  have K112 : ∀ (n9 j : Nat), j ≤ 6 → 6 < j + n9 → ∀ (H : Heap) (locs : List Loc), PK D LC offC b (73 + 102 * n + 5 * j) (upC (σ) 6 (n) (.inl (G 2, 6, .inr (.inr (.inr (.inr (rfP (fun j => b + offC 8 (j + 6 * n)) j))))))) H → va_S (fun q => b ≤ q) s.heap H locs → ∀ ls : Array Slot, lv_has ls 2 [(1, .int (nI j)), (0, .ref (b + offC 1 n))] → W p l e ({ frames := 3, cells := 101, slots := 915, locals := 60 } : Room) s m args below meth c H locs (71 + 5 * j) (807 + 18 * j) Q (F0 m 112 ls []) := by
    intro n9
    induction n9 with
    | zero => intro j hj hf; exact absurd hf (by omega)
    | succ n9 ih =>
      intro j hj hf H locs hP hS ls hl
      refine lv_iload_n hx hb dX2_init_112 rfl (lv_at hl 0 rfl) ?_
      refine lv_bipush (v := nI 6) hx hb dX2_init_113 (by decide) ?_
      refine lv_icmp_ge (tgt := 137) hx hb dX2_init_115 (by decide) (fun c9 => ?_) (fun c9 => ?_)
      · replace c9 : 6 ≤ j := (nI_leI (by decide) (by omega)).mp c9
        have e9 : j = 6 := by omega
        subst e9
        have hP := PK_refs hP (fun q hq => (rfP_e hq).trans (by show some (b + offC 8 (q + 6 * n)) = some (b + offC 8 ((nI q).toNatClampNeg + 6 * n)); rw [nI_clamp (by omega)])) (hσM n hn)
        refine W.widen (k := 101) (n := 915) (by first | decide | omega) (by first | decide | omega) ?_
        rw [hQ]
        exact k_vret hx hb hr hlocks (by rw [show 103 + 102 * n = 73 + 102 * n + 5 * 6 by omega]; exact hP) hS dX2_init_137
      · replace c9 : ¬ (6 ≤ j) := fun h => c9 ((nI_leI (by decide) (by omega)).mpr h)
        refine lv_aload_n hx hb dX2_init_118 rfl (lv_at hl 1 rfl) ?_
        refine k_get hx hb hts hinX2 hown hK hP 1 n (mC (by decide) hn) (by show 1 + 102 * n < _; omega) (fs := [.ref (b + offC 5 (n)), .ref (b + offC 16 (n)), .ref (b + offC 3 (2 * n)), .ref (b + offC 3 (2 * n + 1)), .ref (b + offC 17 (n)), .ref (b + offC 6 (n)), .int 0]) (by rw [upC_n (by omega)]; rw [s1]; rfl) rfl 5 (by decide) (hts (.fieldLink RX2 36 "JoinedStores$Network" "waiting" "[LJoinedStores$Message;") (by decide +kernel)) rfl rfl dX2_init_119 ?_
        refine lv_iload_n hx hb dX2_init_122 rfl (lv_at hl 0 rfl) ?_
        refine k_new hx hb hts hinX1 tyX1 tyX1_ok hown (hts (.classLink RX2 34 RX1) (by decide +kernel)) (hts (.instantiable RX1 4) (by decide +kernel)) (hts (.initialized RX1) (by decide +kernel)) hK hO hP hS 8 (j + 6 * n) (mC (by decide) (show j + 6 * n < 12 by omega)) (by have := oMs n hn j (by omega); omega) (ci := 1) rfl [.int 0, .int 0, .null, .null] (fun j hj => by rcases (show j = 0 ∨ j = 1 ∨ j = 2 ∨ j = 3 by omega) with rfl | rfl | rfl | rfl <;> rfl) (by show _ ≤ 101; omega) (by show _ ≤ 915; omega) dX2_init_123 (fun H hP hS => ?_)
        refine lv_dup hx hb dX2_init_126 rfl ?_
        refine k_cv (va_runIN (As := []) (rest := [.ref (b + offC 8 (j + 6 * n)), .int (nI j), .ref (b + offC 6 (n))]) ⟨hx, hb, hml, hown, hts⟩ (c_X1_init l D G b (73 + 102 * n + 5 * j + 1) (upC (σ) 6 (n) (.inl (G 2, 6, .inr (.inr (.inr (.inr (rfP (fun j => b + offC 8 (j + 6 * n)) j))))))) (j + 6 * n) (by omega) (by have := oMs n hn j (by omega); omega) (by have := oMs n hn j (by omega); omega) (by have := oMs n hn j (by omega); omega) (by have := oMs n hn j (by omega); omega) (by have := oMs n hn j (by omega); omega) (by rw [upC_n (by omega)]; skip; exact hσ 8 _ (by decide) (mC (by decide) (by show _ < 12; omega))) (by rw [upC_n (by omega)]; skip; exact hσ 4 _ (by decide) (mC (by decide) (by show _ < 59; omega))) (by rw [upC_n (by omega)]; skip; exact hσ 10 _ (by decide) (mC (by decide) (by show _ < 59; omega))) (by rw [upC_n (by omega)]; skip; exact hσ 11 _ (by decide) (mC (by decide) (by show _ < 59; omega))) (by rw [upC_n (by omega)]; skip; exact hσ 18 _ (by decide) (mC (by decide) (by show _ < 12; omega)))) ⟨va_cnB 0 hts gX2_init_X1_init_n41 rfl rfl rfl (hK.2.2 _ (List.mem_of_getElem? (i := 2) rfl)) (hts (.initialized RX1) (by decide +kernel)) (by decide +kernel) ⟨Nat.le_of_ble_eq_true rfl, Nat.le_of_ble_eq_true rfl⟩, rfl, (hts (.instanceMethod yX1_init) (by decide +kernel))⟩ (k_preS hK hP) rfl rfl hl.1 rfl (lv_room (Nat.le_of_ble_eq_true rfl)) dX2_init_127 ⟨(by show _ ≤ 101; omega), (by show _ ≤ 915; omega)⟩) hS (fun H locs hP hS => ?_)
        refine k_aast hx hb hK hO hP hS 2 1 6 (n) j 8 (j + 6 * n) (mC (by decide) hn) (by have := oN n hn; have : offC 6 n = 12 + 102 * n := rfl; omega) (n := 6) (upC_s _ _ _ _) rfl rfl (mC (by decide) (show j + 6 * n < 12 by omega)) (by have := oMs n hn j (by omega); omega) (vs := _) (by rw [upC_n (by omega)]; skip; exact hσ 8 _ (by decide) (mC (by decide) (show j + 6 * n < 12 by omega))) (by omega) (by decide) rfl dX2_init_130 (fun H locs hP hS => ?_)
        rw [upC_u, rfP_s] at hP
        refine lv_iinc (v := nI (j + 1)) (lv' := [(1, .int (nI (j + 1))), (0, .ref (b + offC 1 n))]) hx hb dX2_init_131 hl (k := 0) rfl (nI_inc j 1) (by decide) rfl (fun ls hl => ?_)
        refine lv_goto (tgt := 112) hx hb dX2_init_134 (by decide) ?_
        refine W.widen (k := 71 + 5 * (j + 1)) (n := 807 + 18 * (j + 1)) (by omega) (by omega) ?_
        refine ih (j + 1) (by omega) (by omega) _ _ ?_ hS _ (lv_sub hl [0, 1] rfl)
        rw [show 73 + 102 * n + 5 * (j + 1) = 73 + 102 * n + 5 * j + 1 + 4 by omega]
        exact hP
  have hσP : ∀ n, n < 2 → σ 3 (2 * n + 1) = .inl (G 1, 16, .inr (.inr (.inr (.inr fun j => some (b + offC 4 (j + bSt (2 * n + 1)))))) ) := fun n hn => (hσ 3 (2 * n + 1) (by decide) (mC (by decide) (show 2 * n + 1 < 5 by omega))).trans (by rcases (by omega : n = 0 ∨ n = 1) with rfl | rfl <;> rfl)
  have K85 : ∀ (n9 j : Nat), j ≤ 16 → 16 < j + n9 → ∀ (H : Heap) (locs : List Loc), PK D LC offC b (25 + 102 * n + 3 * j) (upC (upC σ 6 n (.inl (G 2, 6, .inr (.inr (.inr (.inr fun _ => none)))))) 3 (2 * n + 1) (.inl (G 1, 16, .inr (.inr (.inr (.inr (rfP (fun j => b + offC 4 (j + bSt (2 * n + 1))) j))))))) H → va_S (fun q => b ≤ q) s.heap H locs → ∀ ls : Array Slot, lv_has ls 2 [(1, .int (nI j)), (0, .ref (b + offC 1 n))] → W p l e ({ frames := 3, cells := 101, slots := 915, locals := 60 } : Room) s m args below meth c H locs (23 + 3 * j) (647 + 10 * j) Q (F0 m 85 ls []) := by
    intro n9
    induction n9 with
    | zero => intro j hj hf; exact absurd hf (by omega)
    | succ n9 ih =>
      intro j hj hf H locs hP hS ls hl
      refine lv_iload_n hx hb dX2_init_85 rfl (lv_at hl 0 rfl) ?_
      refine lv_bipush (v := nI 16) hx hb dX2_init_86 (by decide) ?_
      refine lv_icmp_ge (tgt := 110) hx hb dX2_init_88 (by decide) (fun c9 => ?_) (fun c9 => ?_)
      · replace c9 : 16 ≤ j := (nI_leI (by decide) (by omega)).mp c9
        have e9 : j = 16 := by omega
        subst e9
        refine lv_iconst (v := nI 0) hx hb dX2_init_110 (by decide) ?_
        refine lv_istore_n (lv' := [(1, .int (nI 0)), (0, .ref (b + offC 1 n))]) hx hb dX2_init_111 rfl hl (by decide) rfl (fun ls hl => ?_)
        have hP := PK_refs hP (fun q hq => rfP_e hq) (by rw [upC_n (by omega)]; exact hσP n hn)
        refine W.widen (k := 71 + 5 * 0) (n := 807 + 18 * 0) (by omega) (by omega) ?_
        exact K112 (6 + 1) 0 (by decide) (by decide) _ _ (by rw [show 73 + 102 * n + 5 * 0 = 25 + 102 * n + 3 * 16 by omega, rfP_0]; exact hP) hS _ hl
      · replace c9 : ¬ (16 ≤ j) := fun h => c9 ((nI_leI (by decide) (by omega)).mpr h)
        refine lv_aload_n hx hb dX2_init_91 rfl (lv_at hl 1 rfl) ?_
        refine k_get hx hb hts hinX2 hown hK hP 1 n (mC (by decide) hn) (by show 1 + 102 * n < _; omega) (fs := [.ref (b + offC 5 (n)), .ref (b + offC 16 (n)), .ref (b + offC 3 (2 * n)), .ref (b + offC 3 (2 * n + 1)), .ref (b + offC 17 (n)), .ref (b + offC 6 (n)), .int 0]) (by rw [upC_n (by omega)]; rw [upC_n (by omega), s1]; rfl) rfl 3 (by decide) (hts (.fieldLink RX2 28 "JoinedStores$Network" "parcels" "[LJoinedStores$Store;") (by decide +kernel)) rfl rfl dX2_init_92 ?_
        refine lv_iload_n hx hb dX2_init_95 rfl (lv_at hl 0 rfl) ?_
        refine k_new hx hb hts hinX4 tyX4 tyX4_ok hown (hts (.classLink RX2 22 RX4) (by decide +kernel)) (hts (.instantiable RX4 2) (by decide +kernel)) (hts (.initialized RX4) (by decide +kernel)) hK hO hP hS 4 (j + bSt (2 * n + 1)) (mC (by decide) (show j + bSt (2 * n + 1) < 59 by omega)) (by have := oPc n hn j (by omega); omega) (ci := 4) rfl [.null, .null] (fun j hj => by rcases (show j = 0 ∨ j = 1 by omega) with rfl | rfl <;> rfl) (by show _ ≤ 101; omega) (by show _ ≤ 915; omega) dX2_init_96 (fun H hP hS => ?_)
        refine lv_dup hx hb dX2_init_99 rfl ?_
        refine k_cv (va_runIN (As := []) (rest := [.ref (b + offC 4 (j + bSt (2 * n + 1))), .int (nI j), .ref (b + offC 3 (2 * n + 1))]) ⟨hx, hb, hml, hown, hts⟩ (c_X4_init l D G b (25 + 102 * n + 3 * j + 1) (upC (upC σ 6 n (.inl (G 2, 6, .inr (.inr (.inr (.inr fun _ => none)))))) 3 (2 * n + 1) (.inl (G 1, 16, .inr (.inr (.inr (.inr (rfP (fun j => b + offC 4 (j + bSt (2 * n + 1))) j))))))) (j + bSt (2 * n + 1)) (by omega) (by have := oPc n hn j (by omega); omega) (by have := oPc n hn j (by omega); omega) (by have := oPc n hn j (by omega); omega) (by rw [upC_n (by omega)]; rw [upC_n (by omega)]; exact hσ 4 _ (by decide) (mC (by decide) (by show _ < 59; omega))) (by rw [upC_n (by omega)]; rw [upC_n (by omega)]; exact hσ 10 _ (by decide) (mC (by decide) (by show _ < 59; omega))) (by rw [upC_n (by omega)]; rw [upC_n (by omega)]; exact hσ 11 _ (by decide) (mC (by decide) (by show _ < 59; omega)))) ⟨va_cnB 0 hts gX2_init_X4_init_n40 rfl rfl rfl (hK.2.2 _ (List.mem_of_getElem? (i := 1) rfl)) (hts (.initialized RX4) (by decide +kernel)) (by decide +kernel) ⟨Nat.le_of_ble_eq_true rfl, Nat.le_of_ble_eq_true rfl⟩, rfl, (hts (.instanceMethod yX4_init) (by decide +kernel))⟩ (k_preS hK hP) rfl rfl hl.1 rfl (lv_room (Nat.le_of_ble_eq_true rfl)) dX2_init_100 ⟨(by show _ ≤ 101; omega), (by show _ ≤ 915; omega)⟩) hS (fun H locs hP hS => ?_)
        refine k_aast hx hb hK hO hP hS 1 4 3 (2 * n + 1) j 4 (j + bSt (2 * n + 1)) (mC (by decide) (show 2 * n + 1 < 5 by omega)) (by have := oN n hn; have : offC 6 n = 12 + 102 * n := rfl; omega) (n := 16) (upC_s _ _ _ _) rfl rfl (mC (by decide) (show j + bSt (2 * n + 1) < 59 by omega)) (by have := oPc n hn j (by omega); omega) (vs := _) (by rw [upC_n (by omega)]; rw [upC_n (by omega)]; exact hσ 4 _ (by decide) (mC (by decide) (show j + bSt (2 * n + 1) < 59 by omega))) (by omega) (by decide) rfl dX2_init_103 (fun H locs hP hS => ?_)
        rw [upC_u, rfP_s] at hP
        refine lv_iinc (v := nI (j + 1)) (lv' := [(1, .int (nI (j + 1))), (0, .ref (b + offC 1 n))]) hx hb dX2_init_104 hl (k := 0) rfl (nI_inc j 1) (by decide) rfl (fun ls hl => ?_)
        refine lv_goto (tgt := 85) hx hb dX2_init_107 (by decide) ?_
        refine W.widen (k := 23 + 3 * (j + 1)) (n := 647 + 10 * (j + 1)) (by omega) (by omega) ?_
        refine ih (j + 1) (by omega) (by omega) _ _ ?_ hS _ (lv_sub hl [0, 1] rfl)
        rw [show 25 + 102 * n + 3 * (j + 1) = 25 + 102 * n + 3 * j + 1 + 2 by omega]
        exact hP
  have hσS : ∀ n, n < 2 → σ 3 (2 * n) = .inl (G 1, 4, .inr (.inr (.inr (.inr fun j => some (b + offC 4 (j + bSt (2 * n)))))) ) := fun n hn => (hσ 3 (2 * n) (by decide) (mC (by decide) (show 2 * n < 5 by omega))).trans (by rcases (by omega : n = 0 ∨ n = 1) with rfl | rfl <;> rfl)
  have K59 : ∀ (n9 j : Nat), j ≤ 4 → 4 < j + n9 → ∀ (H : Heap) (locs : List Loc), PK D LC offC b (13 + 102 * n + 3 * j) (upC (upC (upC σ 3 (2 * n + 1) (.inl (G 1, 16, .inr (.inr (.inr (.inr fun _ => none)))))) 6 n (.inl (G 2, 6, .inr (.inr (.inr (.inr fun _ => none)))))) 3 (2 * n) (.inl (G 1, 4, .inr (.inr (.inr (.inr (rfP (fun j => b + offC 4 (j + bSt (2 * n))) j))))))) H → va_S (fun q => b ≤ q) s.heap H locs → ∀ ls : Array Slot, lv_has ls 2 [(1, .int (nI j)), (0, .ref (b + offC 1 n))] → W p l e ({ frames := 3, cells := 101, slots := 915, locals := 60 } : Room) s m args below meth c H locs (11 + 3 * j) (607 + 10 * j) Q (F0 m 59 ls []) := by
    intro n9
    induction n9 with
    | zero => intro j hj hf; exact absurd hf (by omega)
    | succ n9 ih =>
      intro j hj hf H locs hP hS ls hl
      refine lv_iload_n hx hb dX2_init_59 rfl (lv_at hl 0 rfl) ?_
      refine lv_iconst (v := nI 4) hx hb dX2_init_60 (by decide) ?_
      refine lv_icmp_ge (tgt := 83) hx hb dX2_init_61 (by decide) (fun c9 => ?_) (fun c9 => ?_)
      · replace c9 : 4 ≤ j := (nI_leI (by decide) (by omega)).mp c9
        have e9 : j = 4 := by omega
        subst e9
        refine lv_iconst (v := nI 0) hx hb dX2_init_83 (by decide) ?_
        refine lv_istore_n (lv' := [(1, .int (nI 0)), (0, .ref (b + offC 1 n))]) hx hb dX2_init_84 rfl hl (by decide) rfl (fun ls hl => ?_)
        have hP := PK_refs hP (fun q hq => rfP_e hq) (by rw [upC_n (by omega), upC_n (by omega)]; exact hσS n hn)
        rw [upC_c (by omega)] at hP
        refine W.widen (k := 23 + 3 * 0) (n := 647 + 10 * 0) (by omega) (by omega) ?_
        exact K85 (16 + 1) 0 (by decide) (by decide) _ _ (by rw [show 25 + 102 * n + 3 * 0 = 13 + 102 * n + 3 * 4 by omega, rfP_0]; exact hP) hS _ hl
      · replace c9 : ¬ (4 ≤ j) := fun h => c9 ((nI_leI (by decide) (by omega)).mpr h)
        refine lv_aload_n hx hb dX2_init_64 rfl (lv_at hl 1 rfl) ?_
        refine k_get hx hb hts hinX2 hown hK hP 1 n (mC (by decide) hn) (by show 1 + 102 * n < _; omega) (fs := [.ref (b + offC 5 (n)), .ref (b + offC 16 (n)), .ref (b + offC 3 (2 * n)), .ref (b + offC 3 (2 * n + 1)), .ref (b + offC 17 (n)), .ref (b + offC 6 (n)), .int 0]) (by rw [upC_n (by omega)]; rw [upC_n (by omega), upC_n (by omega), s1]; rfl) rfl 2 (by decide) (hts (.fieldLink RX2 24 "JoinedStores$Network" "stores" "[LJoinedStores$Store;") (by decide +kernel)) rfl rfl dX2_init_65 ?_
        refine lv_iload_n hx hb dX2_init_68 rfl (lv_at hl 0 rfl) ?_
        refine k_new hx hb hts hinX4 tyX4 tyX4_ok hown (hts (.classLink RX2 22 RX4) (by decide +kernel)) (hts (.instantiable RX4 2) (by decide +kernel)) (hts (.initialized RX4) (by decide +kernel)) hK hO hP hS 4 (j + bSt (2 * n)) (mC (by decide) (show j + bSt (2 * n) < 59 by omega)) (by have := oSt n hn j (by omega); omega) (ci := 4) rfl [.null, .null] (fun j hj => by rcases (show j = 0 ∨ j = 1 by omega) with rfl | rfl <;> rfl) (by show _ ≤ 101; omega) (by show _ ≤ 915; omega) dX2_init_69 (fun H hP hS => ?_)
        refine lv_dup hx hb dX2_init_72 rfl ?_
        refine k_cv (va_runIN (As := []) (rest := [.ref (b + offC 4 (j + bSt (2 * n))), .int (nI j), .ref (b + offC 3 (2 * n))]) ⟨hx, hb, hml, hown, hts⟩ (c_X4_init l D G b (13 + 102 * n + 3 * j + 1) (upC (upC (upC σ 3 (2 * n + 1) (.inl (G 1, 16, .inr (.inr (.inr (.inr fun _ => none)))))) 6 n (.inl (G 2, 6, .inr (.inr (.inr (.inr fun _ => none)))))) 3 (2 * n) (.inl (G 1, 4, .inr (.inr (.inr (.inr (rfP (fun j => b + offC 4 (j + bSt (2 * n))) j))))))) (j + bSt (2 * n)) (by omega) (by have := oSt n hn j (by omega); omega) (by have := oSt n hn j (by omega); omega) (by have := oSt n hn j (by omega); omega) (by rw [upC_n (by omega)]; rw [upC_n (by omega), upC_n (by omega)]; exact hσ 4 _ (by decide) (mC (by decide) (by show _ < 59; omega))) (by rw [upC_n (by omega)]; rw [upC_n (by omega), upC_n (by omega)]; exact hσ 10 _ (by decide) (mC (by decide) (by show _ < 59; omega))) (by rw [upC_n (by omega)]; rw [upC_n (by omega), upC_n (by omega)]; exact hσ 11 _ (by decide) (mC (by decide) (by show _ < 59; omega)))) ⟨va_cnB 0 hts gX2_init_X4_init_n40 rfl rfl rfl (hK.2.2 _ (List.mem_of_getElem? (i := 1) rfl)) (hts (.initialized RX4) (by decide +kernel)) (by decide +kernel) ⟨Nat.le_of_ble_eq_true rfl, Nat.le_of_ble_eq_true rfl⟩, rfl, (hts (.instanceMethod yX4_init) (by decide +kernel))⟩ (k_preS hK hP) rfl rfl hl.1 rfl (lv_room (Nat.le_of_ble_eq_true rfl)) dX2_init_73 ⟨(by show _ ≤ 101; omega), (by show _ ≤ 915; omega)⟩) hS (fun H locs hP hS => ?_)
        refine k_aast hx hb hK hO hP hS 1 4 3 (2 * n) j 4 (j + bSt (2 * n)) (mC (by decide) (show 2 * n < 5 by omega)) (by have := oN n hn; have : offC 6 n = 12 + 102 * n := rfl; omega) (n := 4) (upC_s _ _ _ _) rfl rfl (mC (by decide) (show j + bSt (2 * n) < 59 by omega)) (by have := oSt n hn j (by omega); omega) (vs := _) (by rw [upC_n (by omega)]; rw [upC_n (by omega), upC_n (by omega)]; exact hσ 4 _ (by decide) (mC (by decide) (show j + bSt (2 * n) < 59 by omega))) (by omega) (by decide) rfl dX2_init_76 (fun H locs hP hS => ?_)
        rw [upC_u, rfP_s] at hP
        refine lv_iinc (v := nI (j + 1)) (lv' := [(1, .int (nI (j + 1))), (0, .ref (b + offC 1 n))]) hx hb dX2_init_77 hl (k := 0) rfl (nI_inc j 1) (by decide) rfl (fun ls hl => ?_)
        refine lv_goto (tgt := 59) hx hb dX2_init_80 (by decide) ?_
        refine W.widen (k := 11 + 3 * (j + 1)) (n := 607 + 10 * (j + 1)) (by omega) (by omega) ?_
        refine ih (j + 1) (by omega) (by omega) _ _ ?_ hS _ (lv_sub hl [0, 1] rfl)
        rw [show 13 + 102 * n + 3 * (j + 1) = 13 + 102 * n + 3 * j + 1 + 2 by omega]
        exact hP
  refine lv_iconst (v := nI 0) hx hb dX2_init_57 (by decide) ?_
  refine lv_istore_n (lv' := [(1, .int (nI 0)), (0, .ref (b + offC 1 n))]) hx hb dX2_init_58 rfl hl (by decide) rfl (fun ls hl => ?_)
  rw [upC_c (by omega : ¬ (3 = 3 ∧ 2 * n = 2 * n + 1)), upC_c (by omega : ¬ (3 = 6 ∧ 2 * n = n))] at hP
  refine W.widen (k := 11 + 3 * 0) (n := 607 + 10 * 0) (by decide) (by decide) ?_
  exact K59 (4 + 1) 0 (by decide) (by decide) _ _ (by rw [rfP_0]; exact hP) hS _ hl
