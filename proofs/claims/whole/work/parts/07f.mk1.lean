/-! ===== constructors, the leaves ===== -/
set_option maxHeartbeats 4000000 in
set_option maxRecDepth 100000 in
theorem c_X4_init (l : Launch) (D : va_G) (G : Nat → ClassId) (b : Nat) (k : Nat) (σ : Cont) (i : Nat) (hi : i < 59) (h4 : offC 4 i < k) (h10 : offC 10 i = k) (h11 : offC 11 i = k + 1) (e4 : σ 4 i = wC G (adC b) I00 4 i) (e10 : σ 10 i = wC G (adC b) I00 10 i) (e11 : σ 11 i = wC G (adC b) I00 11 i) : Met l yX4_init wsX4_init ({ frames := 1, cells := 2, slots := 8, locals := 20 } : Room) (kPre D G LC offC b (k) (upC σ 4 i (.inr (4, [.null, .null]))) [.ref (b + offC 4 i)]) (kQ D LC offC b (k + 2) (σ)) 2 8 (fun q => b ≤ q) := by
  refine k_entry (C := RX4) (cc := cX4_init) (maxL := 1) (ret := none) rfl rfl (by decide) rfl (Nat.le_of_ble_eq_true rfl) (fun p e s m args below meth c Q ls hQ hx hb hr hts hown hlocks hml hin2 hP hK hl => ?_)
  have hl : lv_has ls 1 [(0, .ref (b + offC 4 i))] := hl
  have hO := oC
  have hinX4 : ∀ w ∈ wsX40, w ∈ wsX4_init := by decide +kernel
  have hS := va_S.rf (A := fun q => b ≤ q) (H0 := s.heap)
  refine lv_aload_n hx hb dX4_init_0 rfl (lv_at hl 0 rfl) ?_
  refine W.objInit hx hb hown (hts (.methodLink RX4 3 objectInit) (by decide +kernel)) (hts (.instanceMethod objectInit) (by decide +kernel)) (hts _ (List.mem_of_getElem? (i := 3) rfl)) rfl (by rw [hml]; exact hl.1) rfl dX4_init_1 (Nat.le_of_ble_eq_true rfl) (Nat.le_of_ble_eq_true rfl) ?_
  refine W.eq (g2 := F0 m 4 ls []) rfl ?_
  refine lv_aload_n hx hb dX4_init_4 rfl (lv_at hl 0 rfl) ?_
  refine lv_iconst (v := nI 4) hx hb dX4_init_5 (by decide) ?_
  refine k_newi hx hb (hts (.arrayClass .int) (by decide +kernel)) hK hO hP hS 10 (i) (mC (by decide) hi) h10 4 (z := I00 10 i) (by rw [upC_n (by omega), e10]; rfl) (fun _ _ => rfl) rfl (by decide) (Nat.le_of_ble_eq_true rfl) (Nat.le_of_ble_eq_true rfl) dX4_init_6 (fun H hP hS => ?_)
  refine k_putF hx hb hts hinX4 tyX4 tyX4_ok nmX4 hown hin2 hK hO hP hS 4 (i) (mC (by decide) hi) (by omega) (upC_s _ _ _ _) rfl 0 (by decide) (hts (.fieldLink RX4 9 "JoinedStores$Store" "heard" "[I") (by decide +kernel)) rfl rfl rfl (ty := .array .int) (by decide +kernel) rfl rfl (Nat.le_of_ble_eq_true rfl) dX4_init_8 (fun H locs hP hS => ?_)
  have hP : PK D LC offC b (k + 1) (upC σ 4 i (.inr (4, [.ref (b + offC 10 (i)), .null]))) H := by rw [upC_u] at hP; exact hP
  refine lv_aload_n hx hb dX4_init_11 rfl (lv_at hl 0 rfl) ?_
  refine lv_iconst (v := nI 4) hx hb dX4_init_12 (by decide) ?_
  refine k_newi hx hb (hts (.arrayClass .int) (by decide +kernel)) hK hO hP hS 11 (i) (mC (by decide) hi) h11 4 (z := I00 11 i) (by rw [upC_n (by omega), e11]; rfl) (fun _ _ => rfl) rfl (by decide) (Nat.le_of_ble_eq_true rfl) (Nat.le_of_ble_eq_true rfl) dX4_init_13 (fun H hP hS => ?_)
  refine k_putF hx hb hts hinX4 tyX4 tyX4_ok nmX4 hown hin2 hK hO hP hS 4 (i) (mC (by decide) hi) (by omega) (upC_s _ _ _ _) rfl 1 (by decide) (hts (.fieldLink RX4 15 "JoinedStores$Store" "alive" "[I") (by decide +kernel)) rfl rfl rfl (ty := .array .int) (by decide +kernel) rfl rfl (Nat.le_of_ble_eq_true rfl) dX4_init_15 (fun H locs hP hS => ?_)
  have hP : PK D LC offC b (k + 2) (upC σ 4 i (.inr (4, [.ref (b + offC 10 (i)), .ref (b + offC 11 (i))]))) H := by rw [upC_u] at hP; exact hP
  rw [upC_id (show σ 4 i = (.inr (4, [.ref (b + offC 10 (i)), .ref (b + offC 11 (i))]) : va_E) from e4.trans rfl)] at hP
  refine W.widen (k := 2) (n := 8) (by first | decide | omega) (by first | decide | omega) ?_
  rw [hQ]
  exact k_vret hx hb hr hlocks hP hS dX4_init_18

set_option maxHeartbeats 4000000 in
set_option maxRecDepth 100000 in
theorem c_X3_init (l : Launch) (D : va_G) (G : Nat → ClassId) (b : Nat) (k : Nat) (σ : Cont) (i : Nat) (hi : i < 4) (h7 : offC 7 i < k) (h19 : offC 19 i = k) (e7 : σ 7 i = wC G (adC b) I00 7 i) (e19 : σ 19 i = wC G (adC b) I00 19 i) : Met l yX3_init wsX3_init ({ frames := 1, cells := 1, slots := 40, locals := 20 } : Room) (kPre D G LC offC b (k) (upC σ 7 i (.inr (3, [.int 0, .int 0, .null]))) [.ref (b + offC 7 i)]) (kQ D LC offC b (k + 1) (σ)) 1 40 (fun q => b ≤ q) := by
  refine k_entry (C := RX3) (cc := cX3_init) (maxL := 1) (ret := none) rfl rfl (by decide) rfl (Nat.le_of_ble_eq_true rfl) (fun p e s m args below meth c Q ls hQ hx hb hr hts hown hlocks hml hin2 hP hK hl => ?_)
  have hl : lv_has ls 1 [(0, .ref (b + offC 7 i))] := hl
  have hO := oC
  have hinX3 : ∀ w ∈ wsX30, w ∈ wsX3_init := by decide +kernel
  have hS := va_S.rf (A := fun q => b ≤ q) (H0 := s.heap)
  refine lv_aload_n hx hb dX3_init_0 rfl (lv_at hl 0 rfl) ?_
  refine W.objInit hx hb hown (hts (.methodLink RX3 3 objectInit) (by decide +kernel)) (hts (.instanceMethod objectInit) (by decide +kernel)) (hts _ (List.mem_of_getElem? (i := 3) rfl)) rfl (by rw [hml]; exact hl.1) rfl dX3_init_1 (Nat.le_of_ble_eq_true rfl) (Nat.le_of_ble_eq_true rfl) ?_
  refine W.eq (g2 := F0 m 4 ls []) rfl ?_
  refine lv_aload_n hx hb dX3_init_4 rfl (lv_at hl 0 rfl) ?_
  refine lv_iconst (v := -1) hx hb dX3_init_5 (by decide) ?_
  refine k_put hx hb hts hinX3 tyX3 tyX3_ok nmX3 hown hK hO hP hS 7 (i) (mC (by decide) hi) h7 (upC_s _ _ _ _) rfl 0 (by decide) (hts (.fieldLink RX3 9 "JoinedStores$Sheet" "sort" "I") (by decide +kernel)) rfl rfl (ty := .int) (by decide +kernel) rfl rfl (Nat.le_of_ble_eq_true rfl) dX3_init_6 (fun H locs hP hS => ?_)
  have hP : PK D LC offC b (k) (upC σ 7 i (.inr (3, [.int (-1), .int 0, .null]))) H := by rw [upC_u] at hP; exact hP
  refine lv_aload_n hx hb dX3_init_9 rfl (lv_at hl 0 rfl) ?_
  refine lv_bipush (v := nI 40) hx hb dX3_init_10 (by decide) ?_
  refine k_newi hx hb (hts (.arrayClass .int) (by decide +kernel)) hK hO hP hS 19 (i) (mC (by decide) hi) h19 40 (z := I00 19 i) (by rw [upC_n (by omega), e19]; rfl) (fun _ _ => rfl) rfl (by decide) (Nat.le_of_ble_eq_true rfl) (Nat.le_of_ble_eq_true rfl) dX3_init_12 (fun H hP hS => ?_)
  refine k_putF hx hb hts hinX3 tyX3 tyX3_ok nmX3 hown hin2 hK hO hP hS 7 (i) (mC (by decide) hi) (by omega) (upC_s _ _ _ _) rfl 2 (by decide) (hts (.fieldLink RX3 15 "JoinedStores$Sheet" "items" "[I") (by decide +kernel)) rfl rfl rfl (ty := .array .int) (by decide +kernel) rfl rfl (Nat.le_of_ble_eq_true rfl) dX3_init_14 (fun H locs hP hS => ?_)
  have hP : PK D LC offC b (k + 1) (upC σ 7 i (.inr (3, [.int (-1), .int 0, .ref (b + offC 19 (i))]))) H := by rw [upC_u] at hP; exact hP
  rw [upC_id (show σ 7 i = (.inr (3, [.int (-1), .int 0, .ref (b + offC 19 (i))]) : va_E) from e7.trans rfl)] at hP
  refine W.widen (k := 1) (n := 40) (by first | decide | omega) (by first | decide | omega) ?_
  rw [hQ]
  exact k_vret hx hb hr hlocks hP hS dX3_init_17

set_option maxHeartbeats 4000000 in
set_option maxRecDepth 100000 in
theorem c_X0_init (l : Launch) (D : va_G) (G : Nat → ClassId) (b : Nat) (k : Nat) (σ : Cont) (i : Nat) (hi : i < 2) (h5 : offC 5 i < k) (g0 : offC 12 i = k + 0) (g1 : offC 13 i = k + 1) (g2 : offC 14 i = k + 2) (g3 : offC 15 i = k + 3) (g4 : offC 20 i = k + 4) (e5 : σ 5 i = wC G (adC b) I00 5 i) (e12 : σ 12 i = wC G (adC b) I00 12 i) (e13 : σ 13 i = wC G (adC b) I00 13 i) (e14 : σ 14 i = wC G (adC b) I00 14 i) (e15 : σ 15 i = wC G (adC b) I00 15 i) (e20 : σ 20 i = wC G (adC b) I00 20 i) : Met l yX0_init wsX0_init ({ frames := 1, cells := 5, slots := 500, locals := 20 } : Room) (kPre D G LC offC b (k) (upC σ 5 i (.inr (0, [.null, .null, .null, .null, .null]))) [.ref (b + offC 5 i)]) (kQ D LC offC b (k + 5) (σ)) 5 500 (fun q => b ≤ q) := by
  refine k_entry (C := RX0) (cc := cX0_init) (maxL := 1) (ret := none) rfl rfl (by decide) rfl (Nat.le_of_ble_eq_true rfl) (fun p e s m args below meth c Q ls hQ hx hb hr hts hown hlocks hml hin2 hP hK hl => ?_)
  have hl : lv_has ls 1 [(0, .ref (b + offC 5 i))] := hl
  have hO := oC
  have hinX0 : ∀ w ∈ wsX00, w ∈ wsX0_init := by decide +kernel
  have hS := va_S.rf (A := fun q => b ≤ q) (H0 := s.heap)
  refine lv_aload_n hx hb dX0_init_0 rfl (lv_at hl 0 rfl) ?_
  refine W.objInit hx hb hown (hts (.methodLink RX0 3 objectInit) (by decide +kernel)) (hts (.instanceMethod objectInit) (by decide +kernel)) (hts _ (List.mem_of_getElem? (i := 3) rfl)) rfl (by rw [hml]; exact hl.1) rfl dX0_init_1 (Nat.le_of_ble_eq_true rfl) (Nat.le_of_ble_eq_true rfl) ?_
  refine W.eq (g2 := F0 m 4 ls []) rfl ?_
  refine lv_aload_n hx hb dX0_init_4 rfl (lv_at hl 0 rfl) ?_
  refine lv_iconst (v := nI 4) hx hb dX0_init_5 (by decide) ?_
  refine k_newi hx hb (hts (.arrayClass .int) (by decide +kernel)) hK hO hP hS 12 (i) (mC (by decide) hi) g0 4 (z := I00 12 i) (by rw [upC_n (by omega), e12]; rfl) (fun _ _ => rfl) rfl (by decide) (Nat.le_of_ble_eq_true rfl) (Nat.le_of_ble_eq_true rfl) dX0_init_6 (fun H hP hS => ?_)
  refine k_putF hx hb hts hinX0 tyX0 tyX0_ok nmX0 hown hin2 hK hO hP hS 5 (i) (mC (by decide) hi) (by omega) (upC_s _ _ _ _) rfl 0 (by decide) (hts (.fieldLink RX0 9 "JoinedStores$Dots" "made" "[I") (by decide +kernel)) rfl rfl rfl (ty := .array .int) (by decide +kernel) rfl rfl (Nat.le_of_ble_eq_true rfl) dX0_init_8 (fun H locs hP hS => ?_)
  have hP : PK D LC offC b (k + 1) (upC σ 5 i (.inr (0, [.ref (b + offC 12 (i)), .null, .null, .null, .null]))) H := by rw [upC_u] at hP; exact hP
  refine lv_aload_n hx hb dX0_init_11 rfl (lv_at hl 0 rfl) ?_
  refine lv_bipush (v := nI 124) hx hb dX0_init_12 (by decide) ?_
  refine k_newi hx hb (hts (.arrayClass .int) (by decide +kernel)) hK hO hP hS 13 (i) (mC (by decide) hi) g1 124 (z := I00 13 i) (by rw [upC_n (by omega), e13]; rfl) (fun _ _ => rfl) rfl (by decide) (Nat.le_of_ble_eq_true rfl) (Nat.le_of_ble_eq_true rfl) dX0_init_14 (fun H hP hS => ?_)
  refine k_putF hx hb hts hinX0 tyX0 tyX0_ok nmX0 hown hin2 hK hO hP hS 5 (i) (mC (by decide) hi) (by omega) (upC_s _ _ _ _) rfl 1 (by decide) (hts (.fieldLink RX0 15 "JoinedStores$Dots" "values" "[I") (by decide +kernel)) rfl rfl rfl (ty := .array .int) (by decide +kernel) rfl rfl (Nat.le_of_ble_eq_true rfl) dX0_init_16 (fun H locs hP hS => ?_)
  have hP : PK D LC offC b (k + 2) (upC σ 5 i (.inr (0, [.ref (b + offC 12 (i)), .ref (b + offC 13 (i)), .null, .null, .null]))) H := by rw [upC_u] at hP; exact hP
  refine lv_aload_n hx hb dX0_init_19 rfl (lv_at hl 0 rfl) ?_
  refine lv_bipush (v := nI 124) hx hb dX0_init_20 (by decide) ?_
  refine k_newi hx hb (hts (.arrayClass .int) (by decide +kernel)) hK hO hP hS 14 (i) (mC (by decide) hi) g2 124 (z := I00 14 i) (by rw [upC_n (by omega), e14]; rfl) (fun _ _ => rfl) rfl (by decide) (Nat.le_of_ble_eq_true rfl) (Nat.le_of_ble_eq_true rfl) dX0_init_22 (fun H hP hS => ?_)
  refine k_putF hx hb hts hinX0 tyX0 tyX0_ok nmX0 hown hin2 hK hO hP hS 5 (i) (mC (by decide) hi) (by omega) (upC_s _ _ _ _) rfl 2 (by decide) (hts (.fieldLink RX0 18 "JoinedStores$Dots" "stamps" "[I") (by decide +kernel)) rfl rfl rfl (ty := .array .int) (by decide +kernel) rfl rfl (Nat.le_of_ble_eq_true rfl) dX0_init_24 (fun H locs hP hS => ?_)
  have hP : PK D LC offC b (k + 3) (upC σ 5 i (.inr (0, [.ref (b + offC 12 (i)), .ref (b + offC 13 (i)), .ref (b + offC 14 (i)), .null, .null]))) H := by rw [upC_u] at hP; exact hP
  refine lv_aload_n hx hb dX0_init_27 rfl (lv_at hl 0 rfl) ?_
  refine lv_bipush (v := nI 124) hx hb dX0_init_28 (by decide) ?_
  refine k_newi hx hb (hts (.arrayClass .int) (by decide +kernel)) hK hO hP hS 15 (i) (mC (by decide) hi) g3 124 (z := I00 15 i) (by rw [upC_n (by omega), e15]; rfl) (fun _ _ => rfl) rfl (by decide) (Nat.le_of_ble_eq_true rfl) (Nat.le_of_ble_eq_true rfl) dX0_init_30 (fun H hP hS => ?_)
  refine k_putF hx hb hts hinX0 tyX0 tyX0_ok nmX0 hown hin2 hK hO hP hS 5 (i) (mC (by decide) hi) (by omega) (upC_s _ _ _ _) rfl 3 (by decide) (hts (.fieldLink RX0 21 "JoinedStores$Dots" "objects" "[I") (by decide +kernel)) rfl rfl rfl (ty := .array .int) (by decide +kernel) rfl rfl (Nat.le_of_ble_eq_true rfl) dX0_init_32 (fun H locs hP hS => ?_)
  have hP : PK D LC offC b (k + 4) (upC σ 5 i (.inr (0, [.ref (b + offC 12 (i)), .ref (b + offC 13 (i)), .ref (b + offC 14 (i)), .ref (b + offC 15 (i)), .null]))) H := by rw [upC_u] at hP; exact hP
  refine lv_aload_n hx hb dX0_init_35 rfl (lv_at hl 0 rfl) ?_
  refine lv_bipush (v := nI 124) hx hb dX0_init_36 (by decide) ?_
  refine k_newi hx hb (hts (.arrayClass .int) (by decide +kernel)) hK hO hP hS 20 (i) (mC (by decide) hi) g4 124 (z := I00 20 i) (by rw [upC_n (by omega), e20]; rfl) (fun _ _ => rfl) rfl (by decide) (Nat.le_of_ble_eq_true rfl) (Nat.le_of_ble_eq_true rfl) dX0_init_38 (fun H hP hS => ?_)
  refine k_putF hx hb hts hinX0 tyX0 tyX0_ok nmX0 hown hin2 hK hO hP hS 5 (i) (mC (by decide) hi) (by omega) (upC_s _ _ _ _) rfl 4 (by decide) (hts (.fieldLink RX0 24 "JoinedStores$Dots" "gathered" "[I") (by decide +kernel)) rfl rfl rfl (ty := .array .int) (by decide +kernel) rfl rfl (Nat.le_of_ble_eq_true rfl) dX0_init_40 (fun H locs hP hS => ?_)
  have hP : PK D LC offC b (k + 5) (upC σ 5 i (.inr (0, [.ref (b + offC 12 (i)), .ref (b + offC 13 (i)), .ref (b + offC 14 (i)), .ref (b + offC 15 (i)), .ref (b + offC 20 (i))]))) H := by rw [upC_u] at hP; exact hP
  rw [upC_id (show σ 5 i = (.inr (0, [.ref (b + offC 12 (i)), .ref (b + offC 13 (i)), .ref (b + offC 14 (i)), .ref (b + offC 15 (i)), .ref (b + offC 20 (i))]) : va_E) from e5.trans rfl)] at hP
  refine W.widen (k := 5) (n := 500) (by first | decide | omega) (by first | decide | omega) ?_
  rw [hQ]
  exact k_vret hx hb hr hlocks hP hS dX0_init_43

set_option maxHeartbeats 4000000 in
set_option maxRecDepth 100000 in
theorem c_X1_init (l : Launch) (D : va_G) (G : Nat → ClassId) (b : Nat) (k : Nat) (σ : Cont) (i : Nat) (hi : i < 12) (h8 : offC 8 i < k) (h4 : offC 4 (i + 20) = k) (h10 : offC 10 (i + 20) = k + 1) (h11 : offC 11 (i + 20) = k + 2) (h18 : offC 18 i = k + 3) (e8 : σ 8 i = wC G (adC b) I00 8 i) (e4 : σ 4 (i + 20) = wC G (adC b) I00 4 (i + 20)) (e10 : σ 10 (i + 20) = wC G (adC b) I00 10 (i + 20)) (e11 : σ 11 (i + 20) = wC G (adC b) I00 11 (i + 20)) (e18 : σ 18 i = wC G (adC b) I00 18 i) : Met l yX1_init wsX1_init ({ frames := 2, cells := 4, slots := 14, locals := 40 } : Room) (kPre D G LC offC b (k) (upC σ 8 i (.inr (1, [.int 0, .int 0, .null, .null]))) [.ref (b + offC 8 i)]) (kQ D LC offC b (k + 4) (σ)) 4 14 (fun q => b ≤ q) := by
  refine k_entry (C := RX1) (cc := cX1_init) (maxL := 1) (ret := none) rfl rfl (by decide) rfl (Nat.le_of_ble_eq_true rfl) (fun p e s m args below meth c Q ls hQ hx hb hr hts hown hlocks hml hin2 hP hK hl => ?_)
  have hl : lv_has ls 1 [(0, .ref (b + offC 8 i))] := hl
  have hO := oC
  have hinX1 : ∀ w ∈ wsX10, w ∈ wsX1_init := by decide +kernel
  have hinX4 : ∀ w ∈ wsX40, w ∈ wsX1_init := by decide +kernel
  have hS := va_S.rf (A := fun q => b ≤ q) (H0 := s.heap)
  refine lv_aload_n hx hb dX1_init_0 rfl (lv_at hl 0 rfl) ?_
  refine W.objInit hx hb hown (hts (.methodLink RX1 3 objectInit) (by decide +kernel)) (hts (.instanceMethod objectInit) (by decide +kernel)) (hts _ (List.mem_of_getElem? (i := 3) rfl)) rfl (by rw [hml]; exact hl.1) rfl dX1_init_1 (Nat.le_of_ble_eq_true rfl) (Nat.le_of_ble_eq_true rfl) ?_
  refine W.eq (g2 := F0 m 4 ls []) rfl ?_
  refine lv_aload_n hx hb dX1_init_4 rfl (lv_at hl 0 rfl) ?_
  refine k_new hx hb hts hinX4 tyX4 tyX4_ok hown (hts (.classLink RX1 9 RX4) (by decide +kernel)) (hts (.instantiable RX4 2) (by decide +kernel)) (hts (.initialized RX4) (by decide +kernel)) hK hO hP hS 4 (i + 20) (mC (by decide) (show i + 20 < 59 by omega)) h4 (ci := 4) rfl [.null, .null] (fun j hj => by rcases (show j = 0 ∨ j = 1 by omega) with rfl | rfl <;> rfl) (Nat.le_of_ble_eq_true rfl) (Nat.le_of_ble_eq_true rfl) dX1_init_5 (fun H hP hS => ?_)
  refine lv_dup hx hb dX1_init_8 rfl ?_
  refine k_cv (va_runIN (As := []) (rest := [.ref (b + offC 4 (i + 20)), .ref (b + offC 8 (i))]) ⟨hx, hb, hml, hown, hts⟩ (c_X4_init l D G b (k + 1) (upC σ 8 i (.inr (1, [.int 0, .int 0, .null, .null]))) (i + 20) (by omega) (by omega) h10 h11 (by rw [upC_n (by omega)]; exact e4) (by rw [upC_n (by omega)]; exact e10) (by rw [upC_n (by omega)]; exact e11)) ⟨va_cnB 0 hts gX1_init_X4_init_n11 rfl rfl rfl (hK.2.2 _ (List.mem_of_getElem? (i := 3) rfl)) (hts (.initialized RX4) (by decide +kernel)) (by decide +kernel) ⟨Nat.le_of_ble_eq_true rfl, Nat.le_of_ble_eq_true rfl⟩, rfl, (hts (.instanceMethod yX4_init) (by decide +kernel))⟩ (k_preS hK hP) rfl rfl hl.1 rfl (lv_room (Nat.le_of_ble_eq_true rfl)) dX1_init_9 ⟨(Nat.le_of_ble_eq_true rfl), (Nat.le_of_ble_eq_true rfl)⟩) hS (fun H locs hP hS => ?_)
  refine k_putF hx hb hts hinX1 tyX1 tyX1_ok nmX1 hown hin2 hK hO hP hS 8 (i) (mC (by decide) hi) (by omega) (upC_s _ _ _ _) rfl 2 (by decide) (hts (.fieldLink RX1 12 "JoinedStores$Message" "store" "LJoinedStores$Store;") (by decide +kernel)) rfl rfl rfl (ty := .object "JoinedStores$Store") (by decide +kernel) rfl rfl (Nat.le_of_ble_eq_true rfl) dX1_init_12 (fun H locs hP hS => ?_)
  have hP : PK D LC offC b (k + 3) (upC σ 8 i (.inr (1, [.int 0, .int 0, .ref (b + offC 4 (i + 20)), .null]))) H := by rw [upC_u] at hP; exact hP
  refine lv_aload_n hx hb dX1_init_15 rfl (lv_at hl 0 rfl) ?_
  refine lv_iconst (v := nI 4) hx hb dX1_init_16 (by decide) ?_
  refine k_newi hx hb (hts (.arrayClass .int) (by decide +kernel)) hK hO hP hS 18 (i) (mC (by decide) hi) h18 4 (z := I00 18 i) (by rw [upC_n (by omega), e18]; rfl) (fun _ _ => rfl) rfl (by decide) (Nat.le_of_ble_eq_true rfl) (Nat.le_of_ble_eq_true rfl) dX1_init_17 (fun H hP hS => ?_)
  refine k_putF hx hb hts hinX1 tyX1 tyX1_ok nmX1 hown hin2 hK hO hP hS 8 (i) (mC (by decide) hi) (by omega) (upC_s _ _ _ _) rfl 3 (by decide) (hts (.fieldLink RX1 18 "JoinedStores$Message" "had" "[I") (by decide +kernel)) rfl rfl rfl (ty := .array .int) (by decide +kernel) rfl rfl (Nat.le_of_ble_eq_true rfl) dX1_init_19 (fun H locs hP hS => ?_)
  have hP : PK D LC offC b (k + 4) (upC σ 8 i (.inr (1, [.int 0, .int 0, .ref (b + offC 4 (i + 20)), .ref (b + offC 18 (i))]))) H := by rw [upC_u] at hP; exact hP
  rw [upC_id (show σ 8 i = (.inr (1, [.int 0, .int 0, .ref (b + offC 4 (i + 20)), .ref (b + offC 18 (i))]) : va_E) from e8.trans rfl)] at hP
  refine W.widen (k := 4) (n := 14) (by first | decide | omega) (by first | decide | omega) ?_
  rw [hQ]
  exact k_vret hx hb hr hlocks hP hS dX1_init_22
