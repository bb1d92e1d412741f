/-! ===== the model, six ===== -/
set_option maxHeartbeats 4000000 in
set_option maxRecDepth 100000 in
theorem c_X6_otherwise (l : Launch) (D : va_G) (G : Nat → ClassId) (ad : Nat → Nat → Nat) (hI : wI LM ad) (J : St) (k a rm L : Nat) (hk4 : k < 4) (ha : a < 33) (hrm : rm < 3) (hL4 : L ≤ 4) (hLe : J 24 0 k = nI L) (hM : okM J) (hKd : okK J) : Met l yX6_otherwise wsX6_otherwise ({ frames := 5, cells := 0, slots := 0, locals := 135 } : Room) (gPre D G LM ad [.ref (ad 0 (0)), .int (nI (k)), .int (nI (a)), .int (nI (rm))] (wM G ad J)) (gQi D LM ad (wM G ad) (fun r9 u => r9 = foM J k a rm L ∧ u = J)) 0 0 (wA LM ad) := by
  refine g_entry (C := RX6) (cc := cX6_otherwise) (maxL := 5) (ret := (some .int)) rfl (by decide) rfl (Nat.le_of_ble_eq_true rfl) (fun p e s m args below meth c Q ls hQ hx hb hr hts hown hlocks hml hW hK hl => ?_)
  have hl : lv_has ls 5 [(0, .ref (ad 0 (0))), (1, .int (nI (k))), (2, .int (nI (a))), (3, .int (nI (rm)))] := hl
  have hS := va_S.rf (A := wA LM ad) (H0 := s.heap)
  have hinX6 : ∀ w ∈ wsX60, w ∈ wsX6_otherwise := by decide +kernel
  have hf75 := hts (.fieldLink RX6 75 "JoinedStoresModel" "lengths" "[I") (by decide +kernel)
  have hf78 := hts (.fieldLink RX6 78 "JoinedStoresModel" "items" "[[I") (by decide +kernel)
  refine lv_iconst (v := nI 0) hx hb dX6_otherwise_0 (by decide) ?_
  refine lv_istore (lv' := [(4, .int (nI (0))), (0, .ref (ad 0 (0))), (1, .int (nI (k))), (2, .int (nI (a))), (3, .int (nI (rm)))]) hx hb dX6_otherwise_1 hl (by decide) rfl (fun ls hl => ?_)
  have K3 : ∀ (n : Nat) (i : Nat), (i ≤ L) → (∀ j, j < i → foP J k a rm j = false) → L < i + n → ∀ (H : Heap) (locs : List Loc), va_P D vwCl (wS LM ad (wM G ad J)) H → va_S (wA LM ad) s.heap H locs → ∀ (ls : Array Slot), lv_has ls 5 [(4, .int (nI (i))), (0, .ref (ad 0 (0))), (1, .int (nI (k))), (2, .int (nI (a))), (3, .int (nI (rm)))] → W p l e ({ frames := 5, cells := 0, slots := 0, locals := 135 } : Room) s m args below meth c H locs 0 0 Q (F0 m 3 ls []) := by
    intro n3
    induction n3 with
    | zero => intro i hi hno hfu; exact absurd hfu (by omega)
    | succ n3 ih3 =>
      intro i hi hno hfu H locs hW hS ls hl
      refine lv_iload hx hb dX6_otherwise_3 (lv_at hl 0 rfl) ?_
      refine lv_aload_n hx hb dX6_otherwise_5 rfl (lv_at hl 1 rfl) ?_
      refine r_get hx hb hts hown hK hW 0 (0) 24 (mM (by decide) (by decide)) rfl rfl hinX6 (by decide) hf75 rfl rfl dX6_otherwise_6 ?_
      refine lv_iload_n hx hb dX6_otherwise_9 rfl (lv_at hl 2 rfl) ?_
      refine rM_iald hx hb hK hW 24 (0) (k) (by decide) (by decide) (by decide) (show k < 4 by omega) rfl dX6_otherwise_10 (fun x1 ex1 => ?_)
      refine r_top (show x1 = nI (L) from (ex1.trans hLe)) ?_
      refine lv_icmp_ge (tgt := 47) hx hb dX6_otherwise_11 (by decide) (fun c11_1 => ?_) (fun c11_1 => ?_)
      · replace c11_1 : L ≤ i := (nI_leI (show L < 2147483648 by omega) (show i < 2147483648 by omega)).mp c11_1
        refine lv_iconst (v := (-1)) hx hb dX6_otherwise_47 (by decide) ?_
        rw [hQ]
        exact g_iret (wd := wM G ad) hx hb hr rfl hlocks hW hS (by have e4 : i = L := (by omega); subst e4; exact ⟨(fow_n hno).symm, rfl⟩) dX6_otherwise_48
      · replace c11_1 : ¬ (L ≤ i) := fun h => c11_1 ((nI_leI (show L < 2147483648 by omega) (show i < 2147483648 by omega)).mpr h)
        refine lv_aload_n hx hb dX6_otherwise_14 rfl (lv_at hl 1 rfl) ?_
        refine lv_iload_n hx hb dX6_otherwise_15 rfl (lv_at hl 3 rfl) ?_
        refine lv_iconst (v := nI 4) hx hb dX6_otherwise_16 (by decide) ?_
        refine lv_iload_n hx hb dX6_otherwise_17 rfl (lv_at hl 4 rfl) ?_
        refine lv_imul hx hb dX6_otherwise_18 (r_top (pk_mul _ _) ?_)
        refine lv_iload hx hb dX6_otherwise_19 (lv_at hl 0 rfl) ?_
        refine lv_iadd hx hb dX6_otherwise_21 (r_top (nI_add _ _) ?_)
        refine g_cl (va_runV (As := [.int (nI (a)), .int (nI ((4 * rm) + i))]) (rest := []) ⟨hx, hb, hml, hown, hts⟩ (c_X6_worthNow l D G ad hI J a ((4 * rm) + i) (show a < 33 by omega) (show (4 * rm) + i < 12 by omega) hM hKd) (cwV 2 hts gX6_otherwise_X6_worthNow rfl rfl rfl (by decide +kernel) ⟨Nat.le_of_ble_eq_true rfl, Nat.le_of_ble_eq_true rfl⟩) (g_preV hK hW 0 (0) (mM (by decide) (by decide)) rfl rfl) rfl rfl hl.1 rfl (lv_room (Nat.le_of_ble_eq_true rfl)) dX6_otherwise_22 ⟨Nat.le_refl _, Nat.le_refl _⟩) hS (fun x3 I3 H locs hp hW hS => ?_)
        obtain ⟨ex3, eI3⟩ := hp
        rw [eI3] at hW
        clear eI3
        refine lv_l2i hx hb dX6_otherwise_25 rfl ?_
        refine lv_aload_n hx hb dX6_otherwise_26 rfl (lv_at hl 1 rfl) ?_
        refine r_get hx hb hts hown hK hW 0 (0) 25 (mM (by decide) (by decide)) rfl rfl hinX6 (by decide) hf78 rfl rfl dX6_otherwise_27 ?_
        refine lv_iload_n hx hb dX6_otherwise_30 rfl (lv_at hl 2 rfl) ?_
        refine r_aaldI hx hb hK hW 1 12 (k) (mM (by decide) (by decide)) rfl (show k < 4 by omega) (by decide) rfl rfl dX6_otherwise_31 ?_
        refine lv_iload hx hb dX6_otherwise_32 (lv_at hl 0 rfl) ?_
        refine rM_iald hx hb hK hW 19 (k) (i) (by decide) (by decide) (show k < 4 by omega) (show i < 40 by omega) rfl dX6_otherwise_34 (fun x4 ex4 => ?_)
        refine lv_icmp_eq (tgt := 41) hx hb dX6_otherwise_35 (by decide) (fun c35_4 => ?_) (fun c35_4 => ?_)
        · refine lv_iinc (v := nI (i + 1)) (lv' := [(4, .int (nI (i + 1))), (0, .ref (ad 0 (0))), (1, .int (nI (k))), (2, .int (nI (a))), (3, .int (nI (rm)))]) hx hb dX6_otherwise_41 hl (k := 0) rfl (nI_inc i 1) (by decide) rfl (fun ls hl => ?_)
          refine lv_goto (tgt := 3) hx hb dX6_otherwise_44 (by decide) ?_
          exact ih3 (i + 1) (by omega) (fun j hj => by rcases Nat.lt_succ_iff_lt_or_eq.mp hj with q9 | q9; exact hno j q9; subst q9; rw [foP]; have c9 := c35_4; subst ex4 ex3 ex1; simp [c9]) (by omega) _ _ hW hS _ (lv_sub hl [0, 1, 2, 3, 4] rfl)
        · refine lv_iload hx hb dX6_otherwise_38 (lv_at hl 0 rfl) ?_
          rw [hQ]
          exact g_iret (wd := wM G ad) hx hb hr rfl hlocks hW hS (by refine ⟨?_, rfl⟩; exact (fow_y (by omega) (by rw [foP]; exact decide_eq_true (by have c9 := c35_4; subst ex4 ex3 ex1; exact c9)) hno).symm) dX6_otherwise_40
  exact K3 (L + 1) (0) (Nat.zero_le _) (fun j hj => absurd hj (Nat.not_lt_zero _)) (by omega) _ _ hW hS _ (lv_sub hl [0, 1, 2, 3, 4] rfl)

set_option maxHeartbeats 4000000 in
set_option maxRecDepth 100000 in
theorem c_X6_kindsBy (l : Launch) (D : va_G) (G : Nat → ClassId) (ad : Nat → Nat → Nat) (hI : wI LM ad) (J : St) (k r rm L : Nat) (hk4 : k < 4) (hr4 : r < 33) (hrm : rm < 3) (hL4 : L ≤ 4) (hLe : J 24 0 k = nI L) (hM : okM J) (hKd : okK J) : Met l yX6_kindsBy wsX6_kindsBy ({ frames := 6, cells := 0, slots := 0, locals := 159 } : Room) (gPre D G LM ad [.ref (ad 0 (0)), .int (nI (k)), .int (nI (r)), .int (nI (rm))] (wM G ad J)) (gQi D LM ad (wM G ad) (fun r9 u => r9 = bits (tlP2 J k r rm L) 6 ∧ u = J)) 0 0 (wA LM ad) := by
  refine g_entry (C := RX6) (cc := cX6_kindsBy) (maxL := 7) (ret := (some .int)) rfl (by decide) rfl (Nat.le_of_ble_eq_true rfl) (fun p e s m args below meth c Q ls hQ hx hb hr hts hown hlocks hml hW hK hl => ?_)
  have hl : lv_has ls 7 [(0, .ref (ad 0 (0))), (1, .int (nI (k))), (2, .int (nI (r))), (3, .int (nI (rm)))] := hl
  have hS := va_S.rf (A := wA LM ad) (H0 := s.heap)
  have hinX6 : ∀ w ∈ wsX60, w ∈ wsX6_kindsBy := by decide +kernel
  have hf24 := hts (.fieldLink RX6 24 "JoinedStoresModel" "kinds" "[I") (by decide +kernel)
  refine lv_aload_n hx hb dX6_kindsBy_0 rfl (lv_at hl 0 rfl) ?_
  refine r_get hx hb hts hown hK hW 0 (0) 4 (mM (by decide) (by decide)) rfl rfl hinX6 (by decide) hf24 rfl rfl dX6_kindsBy_1 ?_
  refine lv_iconst (v := nI 4) hx hb dX6_kindsBy_4 (by decide) ?_
  refine lv_iload_n hx hb dX6_kindsBy_5 rfl (lv_at hl 3 rfl) ?_
  refine lv_imul hx hb dX6_kindsBy_6 (r_top (pk_mul _ _) ?_)
  refine rM_iald hx hb hK hW 16 (0) (4 * rm) (by decide) (by decide) (by decide) (show 4 * rm < 12 by omega) rfl dX6_kindsBy_7 (fun x1 ex1 => ?_)
  refine lv_istore (lv' := [(4, .int (x1)), (0, .ref (ad 0 (0))), (1, .int (nI (k))), (2, .int (nI (r))), (3, .int (nI (rm)))]) hx hb dX6_kindsBy_8 hl (by decide) rfl (fun ls hl => ?_)
  refine lv_iconst (v := nI 0) hx hb dX6_kindsBy_10 (by decide) ?_
  refine lv_istore (lv' := [(5, .int (nI (0))), (4, .int (x1)), (0, .ref (ad 0 (0))), (1, .int (nI (k))), (2, .int (nI (r))), (3, .int (nI (rm)))]) hx hb dX6_kindsBy_11 hl (by decide) rfl (fun ls hl => ?_)
  refine lv_iconst (v := nI 0) hx hb dX6_kindsBy_13 (by decide) ?_
  refine lv_istore (lv' := [(6, .int (nI (0))), (5, .int (nI (0))), (4, .int (x1)), (0, .ref (ad 0 (0))), (1, .int (nI (k))), (2, .int (nI (r))), (3, .int (nI (rm)))]) hx hb dX6_kindsBy_14 hl (by decide) rfl (fun ls hl => ?_)
  have K16 : ∀ (n : Nat) (i : Nat) (d : Int32), (i ≤ 6) → (d = bits (tlP2 J k r rm L) i) → 6 < i + n → ∀ (H : Heap) (locs : List Loc), va_P D vwCl (wS LM ad (wM G ad (kxP J rm i))) H → va_S (wA LM ad) s.heap H locs → ∀ (ls : Array Slot), lv_has ls 7 [(6, .int (nI (i))), (5, .int (d)), (4, .int (x1)), (0, .ref (ad 0 (0))), (1, .int (nI (k))), (2, .int (nI (r))), (3, .int (nI (rm)))] → W p l e ({ frames := 6, cells := 0, slots := 0, locals := 159 } : Room) s m args below meth c H locs 0 0 Q (F0 m 16 ls []) := by
    intro n16
    induction n16 with
    | zero => intro i d hi hd hfu; exact absurd hfu (by omega)
    | succ n16 ih16 =>
      intro i d hi hd hfu H locs hW hS ls hl
      refine lv_iload hx hb dX6_kindsBy_16 (lv_at hl 0 rfl) ?_
      refine lv_bipush (v := nI 6) hx hb dX6_kindsBy_18 (by decide) ?_
      refine lv_icmp_ge (tgt := 59) hx hb dX6_kindsBy_20 (by decide) (fun c20_1 => ?_) (fun c20_1 => ?_)
      · replace c20_1 : 6 ≤ i := (nI_leI (show 6 < 2147483648 by omega) (show i < 2147483648 by omega)).mp c20_1
        refine lv_aload_n hx hb dX6_kindsBy_59 rfl (lv_at hl 3 rfl) ?_
        refine r_get hx hb hts hown hK hW 0 (0) 4 (mM (by decide) (by decide)) rfl rfl hinX6 (by decide) hf24 rfl rfl dX6_kindsBy_60 ?_
        refine lv_iconst (v := nI 4) hx hb dX6_kindsBy_63 (by decide) ?_
        refine lv_iload_n hx hb dX6_kindsBy_64 rfl (lv_at hl 6 rfl) ?_
        refine lv_imul hx hb dX6_kindsBy_65 (r_top (pk_mul _ _) ?_)
        refine lv_iload hx hb dX6_kindsBy_66 (lv_at hl 2 rfl) ?_
        refine rM_iast hx hb hK hI hW hS 16 (0) (4 * rm) (by decide) (by decide) (by decide) (show 4 * rm < 12 by omega) rfl dX6_kindsBy_68 (fun I3 H locs eI3 hW hS => ?_)
        refine lv_iload hx hb dX6_kindsBy_69 (lv_at hl 1 rfl) ?_
        rw [hQ]
        exact g_iret (wd := wM G ad) hx hb hr rfl hlocks hW hS (by have e4 : i = 6 := (by omega); subst e4; subst eI3; refine ⟨hd, ?_⟩; show up3 (up3 J 16 0 (4 * rm) (nI 5)) 16 0 (4 * rm) _ = J; rw [up3_up3]; exact up3_id ex1) dX6_kindsBy_71
      · replace c20_1 : ¬ (6 ≤ i) := fun h => c20_1 ((nI_leI (show 6 < 2147483648 by omega) (show i < 2147483648 by omega)).mpr h)
        refine lv_aload_n hx hb dX6_kindsBy_23 rfl (lv_at hl 3 rfl) ?_
        refine r_get hx hb hts hown hK hW 0 (0) 4 (mM (by decide) (by decide)) rfl rfl hinX6 (by decide) hf24 rfl rfl dX6_kindsBy_24 ?_
        refine lv_iconst (v := nI 4) hx hb dX6_kindsBy_27 (by decide) ?_
        refine lv_iload_n hx hb dX6_kindsBy_28 rfl (lv_at hl 6 rfl) ?_
        refine lv_imul hx hb dX6_kindsBy_29 (r_top (pk_mul _ _) ?_)
        refine lv_iload hx hb dX6_kindsBy_30 (lv_at hl 0 rfl) ?_
        refine rM_iast hx hb hK hI hW hS 16 (0) (4 * rm) (by decide) (by decide) (by decide) (show 4 * rm < 12 by omega) rfl dX6_kindsBy_32 (fun I4 H locs eI4 hW hS => ?_)
        refine lv_aload_n hx hb dX6_kindsBy_33 rfl (lv_at hl 3 rfl) ?_
        refine lv_iload_n hx hb dX6_kindsBy_34 rfl (lv_at hl 4 rfl) ?_
        refine lv_iload_n hx hb dX6_kindsBy_35 rfl (lv_at hl 5 rfl) ?_
        refine lv_iload_n hx hb dX6_kindsBy_36 rfl (lv_at hl 6 rfl) ?_
        have hKx : okK I4 := by rw [eI4, kxP_s]; exact okK_up hKd (by omega)
        have hMx : okM I4 := by rw [eI4, kxP_s]; exact okM_e (fun r9 => up3_f (by decide)) hM
        have hEx : I4 24 0 k = nI L := by rw [eI4, kxP_s]; exact (up3_f (by decide)).trans hLe
        refine g_ci (va_runV (As := [.int (nI (k)), .int (nI (r)), .int (nI (rm))]) (rest := []) ⟨hx, hb, hml, hown, hts⟩ (c_X6_otherwise l D G ad hI I4 k r rm L (show k < 4 by omega) (show r < 33 by omega) (show rm < 3 by omega) (show L ≤ 4 by omega) hEx hMx hKx) (cwV 3 hts gX6_kindsBy_X6_otherwise rfl rfl rfl (by decide +kernel) ⟨Nat.le_of_ble_eq_true rfl, Nat.le_of_ble_eq_true rfl⟩) (g_preV hK hW 0 (0) (mM (by decide) (by decide)) rfl rfl) rfl rfl hl.1 rfl (lv_room (Nat.le_of_ble_eq_true rfl)) dX6_kindsBy_37 ⟨Nat.le_refl _, Nat.le_refl _⟩) hS (fun x5 I5 H locs hp hW hS => ?_)
        obtain ⟨ex5, eI5⟩ := hp
        rw [eI5] at hW
        clear eI5
        refine lv_iconst (v := (-1)) hx hb dX6_kindsBy_40 (by decide) ?_
        refine lv_icmp_ne (tgt := 53) hx hb dX6_kindsBy_41 (by decide) (fun c41_5 => ?_) (fun c41_5 => ?_)
        · have hx9 : x5 = foM (up3 J 16 0 (4 * rm) (nI i)) k r rm L := by rw [ex5, eI4, kxP_s]; rfl
          refine lv_iinc (v := nI (i + 1)) (lv' := [(6, .int (nI (i + 1))), (5, .int (d)), (4, .int (x1)), (0, .ref (ad 0 (0))), (1, .int (nI (k))), (2, .int (nI (r))), (3, .int (nI (rm)))]) hx hb dX6_kindsBy_53 hl (k := 0) rfl (nI_inc i 1) (by decide) rfl (fun ls hl => ?_)
          refine lv_goto (tgt := 16) hx hb dX6_kindsBy_56 (by decide) ?_
          have e9 : I4 = kxP J rm (i + 1) := by
            subst ex5 eI4
            exact kxP_s _ _ _
          have hW9 := hW
          rw [e9] at hW9
          exact ih16 (i + 1) (d) (by omega) (by rw [bits, if_neg (show ¬ tlP2 J k r rm L i = true from fun q9 => c41_5 (hx9.trans (of_decide_eq_true q9))), ← hd]) (by omega) _ _ hW9 hS _ (lv_sub hl [0, 1, 2, 3, 4, 5, 6] rfl)
        · have hx9 : x5 = foM (up3 J 16 0 (4 * rm) (nI i)) k r rm L := by rw [ex5, eI4, kxP_s]; rfl
          refine lv_iload hx hb dX6_kindsBy_44 (lv_at hl 1 rfl) ?_
          refine lv_iconst (v := nI 1) hx hb dX6_kindsBy_46 (by decide) ?_
          refine lv_iload hx hb dX6_kindsBy_47 (lv_at hl 0 rfl) ?_
          refine lv_ishl hx hb dX6_kindsBy_49 (lv_topi (fun x7 ex7 => ?_))
          replace ex7 : x7 = b1 i := ex7
          refine lv_ior hx hb dX6_kindsBy_50 (lv_topi (fun x8 ex8 => ?_))
          refine lv_istore (lv' := [(5, .int (x8)), (6, .int (nI (i))), (4, .int (x1)), (0, .ref (ad 0 (0))), (1, .int (nI (k))), (2, .int (nI (r))), (3, .int (nI (rm)))]) hx hb dX6_kindsBy_51 hl (by decide) rfl (fun ls hl => ?_)
          refine lv_iinc (v := nI (i + 1)) (lv' := [(6, .int (nI (i + 1))), (5, .int (x8)), (4, .int (x1)), (0, .ref (ad 0 (0))), (1, .int (nI (k))), (2, .int (nI (r))), (3, .int (nI (rm)))]) hx hb dX6_kindsBy_53 hl (k := 1) rfl (nI_inc i 1) (by decide) rfl (fun ls hl => ?_)
          refine lv_goto (tgt := 16) hx hb dX6_kindsBy_56 (by decide) ?_
          have e9 : I4 = kxP J rm (i + 1) := by
            subst ex8 ex7 ex5 eI4
            exact kxP_s _ _ _
          have hW9 := hW
          rw [e9] at hW9
          exact ih16 (i + 1) (x8) (by omega) (by subst ex8 ex7; rw [bits, if_pos (show tlP2 J k r rm L i = true from decide_eq_true (hx9.symm.trans c41_5)), ← hd]) (by omega) _ _ hW9 hS _ (lv_sub hl [0, 1, 2, 3, 4, 5, 6] rfl)
  have e9 : J = kxP J rm 0 := by
    rfl
  have hW9 := hW
  rw [e9] at hW9
  exact K16 (6 + 1) (0) (nI (0)) (by decide) rfl (by omega) _ _ hW9 hS _ (lv_sub hl [0, 1, 2, 3, 4, 5, 6] rfl)

set_option maxHeartbeats 4000000 in
set_option maxRecDepth 100000 in
theorem c_X6_film (l : Launch) (D : va_G) (G : Nat → ClassId) (ad : Nat → Nat → Nat) (hI : wI LM ad) (J : St) (k r a n0 : Int32) (hM : okM J) (hKd : okK J) : Met l yX6_film wsX6_film ({ frames := 5, cells := 0, slots := 0, locals := 135 } : Room) (gPre D G LM ad [.ref (ad 0 (0)), .int (k), .int (r), .int (a), .int (n0)] (wM G ad J)) (gQi D LM ad (wM G ad) (fun r9 u => r9 = (if (((okN (nI 4) k && okN (nI 4) r) && (okN (nI 3) a && okN (nI 4) (nI 0))) && okN (nI 5) n0) = true then n0 else -2) ∧ u = (if (((okN (nI 4) k && okN (nI 4) r) && (okN (nI 3) a && okN (nI 4) (nI 0))) && okN (nI 5) n0) = true then flM J (tn k) (tn r) (tn a) (tn n0) (tn n0) else J))) 0 0 (wA LM ad) := by
  refine g_entry (C := RX6) (cc := cX6_film) (maxL := 6) (ret := (some .int)) rfl (by decide) rfl (Nat.le_of_ble_eq_true rfl) (fun p e s m args below meth c Q ls hQ hx hb hr hts hown hlocks hml hW hK hl => ?_)
  have hl : lv_has ls 6 [(0, .ref (ad 0 (0))), (1, .int (k)), (2, .int (r)), (3, .int (a)), (4, .int (n0))] := hl
  have hS := va_S.rf (A := wA LM ad) (H0 := s.heap)
  have hinX6 : ∀ w ∈ wsX60, w ∈ wsX6_film := by decide +kernel
  have hf72 := hts (.fieldLink RX6 72 "JoinedStoresModel" "sorts" "[I") (by decide +kernel)
  have hf75 := hts (.fieldLink RX6 75 "JoinedStoresModel" "lengths" "[I") (by decide +kernel)
  have hf78 := hts (.fieldLink RX6 78 "JoinedStoresModel" "items" "[[I") (by decide +kernel)
  refine lv_iload_n hx hb dX6_film_0 rfl (lv_at hl 1 rfl) ?_
  refine g_pi (va_runS (As := [.int (k)]) (rest := []) ⟨hx, hb, hml, hown, hts⟩ (c_X6_isSheet l k) (va_cwS 1 hts gX6_film_X6_isSheet rfl rfl rfl (by decide +kernel) ⟨Nat.le_of_ble_eq_true rfl, Nat.le_of_ble_eq_true rfl⟩) p_preS rfl rfl hl.1 rfl (lv_room (Nat.le_of_ble_eq_true rfl)) dX6_film_1 ⟨Nat.le_refl _, Nat.le_refl _⟩) hW hS (fun H locs hW hS => ?_)
  refine lv_if_eq (tgt := 35) hx hb dX6_film_4 (by decide) (fun c4_0 => ?_) (fun c4_0 => ?_)
  · replace c4_0 := bI_0.mp c4_0
    try simp only [decide_eq_true_eq, decide_eq_false_iff_not] at c4_0
    refine lv_bipush (v := (-2)) hx hb dX6_film_35 (by decide) ?_
    rw [hQ]
    exact g_iret (wd := wM G ad) hx hb hr rfl hlocks hW hS (by refine ⟨?_, ?_⟩ <;> simp [c4_0]) dX6_film_37
  · replace c4_0 := bI_1.mp c4_0
    obtain ⟨kN, hkN, ekN⟩ := okN_nI (k := 4) (by decide) c4_0
    subst ekN
    have t_kN : tn (nI kN) = kN := tn_nI (by omega)
    have k_kN : okN (nI 4) (nI kN) = true := okN_of (by decide) hkN
    refine lv_iload_n hx hb dX6_film_7 rfl (lv_at hl 2 rfl) ?_
    refine g_pi (va_runS (As := [.int (r)]) (rest := []) ⟨hx, hb, hml, hown, hts⟩ (c_X6_isReplica l r) (va_cwS 1 hts gX6_film_X6_isReplica rfl rfl rfl (by decide +kernel) ⟨Nat.le_of_ble_eq_true rfl, Nat.le_of_ble_eq_true rfl⟩) p_preS rfl rfl hl.1 rfl (lv_room (Nat.le_of_ble_eq_true rfl)) dX6_film_8 ⟨Nat.le_refl _, Nat.le_refl _⟩) hW hS (fun H locs hW hS => ?_)
    refine lv_if_eq (tgt := 35) hx hb dX6_film_11 (by decide) (fun c11_1 => ?_) (fun c11_1 => ?_)
    · replace c11_1 := bI_0.mp c11_1
      try simp only [decide_eq_true_eq, decide_eq_false_iff_not] at c11_1
      refine lv_bipush (v := (-2)) hx hb dX6_film_35 (by decide) ?_
      rw [hQ]
      exact g_iret (wd := wM G ad) hx hb hr rfl hlocks hW hS (by refine ⟨?_, ?_⟩ <;> simp [k_kN, c11_1]) dX6_film_37
    · replace c11_1 := bI_1.mp c11_1
      obtain ⟨rN, hrN, erN⟩ := okN_nI (k := 4) (by decide) c11_1
      subst erN
      have t_rN : tn (nI rN) = rN := tn_nI (by omega)
      have k_rN : okN (nI 4) (nI rN) = true := okN_of (by decide) hrN
      refine lv_iload_n hx hb dX6_film_14 rfl (lv_at hl 3 rfl) ?_
      refine lv_iconst (v := nI 0) hx hb dX6_film_15 (by decide) ?_
      refine g_pi (va_runS (As := [.int (a), .int (nI (0))]) (rest := []) ⟨hx, hb, hml, hown, hts⟩ (c_X6_isObject l a (nI (0))) (va_cwS 2 hts gX6_film_X6_isObject rfl rfl rfl (by decide +kernel) ⟨Nat.le_of_ble_eq_true rfl, Nat.le_of_ble_eq_true rfl⟩) p_preS rfl rfl hl.1 rfl (lv_room (Nat.le_of_ble_eq_true rfl)) dX6_film_16 ⟨Nat.le_refl _, Nat.le_refl _⟩) hW hS (fun H locs hW hS => ?_)
      refine lv_if_eq (tgt := 35) hx hb dX6_film_19 (by decide) (fun c19_2 => ?_) (fun c19_2 => ?_)
      · replace c19_2 := bI_0.mp c19_2
        try simp only [decide_eq_true_eq, decide_eq_false_iff_not] at c19_2
        refine lv_bipush (v := (-2)) hx hb dX6_film_35 (by decide) ?_
        rw [hQ]
        exact g_iret (wd := wM G ad) hx hb hr rfl hlocks hW hS (by refine ⟨?_, ?_⟩ <;> simp [k_kN, k_rN, c19_2]) dX6_film_37
      · replace c19_2 := bI_1.mp c19_2
        obtain ⟨aN, haN, eaN⟩ := okN_nI (k := 3) (by decide) (okAnd c19_2).1
        subst eaN
        have t_aN : tn (nI aN) = aN := tn_nI (by omega)
        have k_aN : okN (nI 3) (nI aN) = true := okN_of (by decide) haN
        refine lv_iload hx hb dX6_film_22 (lv_at hl 4 rfl) ?_
        refine lv_i2l hx hb dX6_film_24 rfl ?_
        refine lv_lconst (v := lN 0) hx hb dX6_film_25 (by decide) ?_
        refine lv_ldc2 (v := (4)) hx hb hown (hts (.constantLong RX6 233 (4)) (by decide +kernel)) dX6_film_26 ?_
        refine g_pi (va_runS (As := [.long (n0.toInt64), .long (lN 0), .long ((4))]) (rest := []) ⟨hx, hb, hml, hown, hts⟩ (c_X6_inB l n0.toInt64 (lN 0) ((4)) (okN (nI 5) n0) (inL_N (k := 5) (by decide) (by decide) _)) (va_cwS 3 hts gX6_film_X6_in rfl rfl rfl (by decide +kernel) ⟨Nat.le_of_ble_eq_true rfl, Nat.le_of_ble_eq_true rfl⟩) p_preS rfl rfl hl.1 rfl (lv_room (Nat.le_of_ble_eq_true rfl)) dX6_film_29 ⟨Nat.le_refl _, Nat.le_refl _⟩) hW hS (fun H locs hW hS => ?_)
        refine lv_if_ne (tgt := 38) hx hb dX6_film_32 (by decide) (fun c32_3 => ?_) (fun c32_3 => ?_)
        · replace c32_3 := bI_1.mp c32_3
          obtain ⟨n0N, hn0N, en0N⟩ := okN_nI (k := 5) (by decide) c32_3
          subst en0N
          have t_n0N : tn (nI n0N) = n0N := tn_nI (by omega)
          have k_n0N : okN (nI 5) (nI n0N) = true := okN_of (by decide) hn0N
          refine lv_aload_n hx hb dX6_film_38 rfl (lv_at hl 0 rfl) ?_
          refine r_get hx hb hts hown hK hW 0 (0) 23 (mM (by decide) (by decide)) rfl rfl hinX6 (by decide) hf72 rfl rfl dX6_film_39 ?_
          refine lv_iload_n hx hb dX6_film_42 rfl (lv_at hl 1 rfl) ?_
          refine lv_iconst (v := nI 0) hx hb dX6_film_43 (by decide) ?_
          refine rM_iast hx hb hK hI hW hS 23 (0) (kN) (by decide) (by decide) (by decide) (show kN < 4 by omega) rfl dX6_film_44 (fun I5 H locs eI5 hW hS => ?_)
          refine lv_aload_n hx hb dX6_film_45 rfl (lv_at hl 0 rfl) ?_
          refine r_get hx hb hts hown hK hW 0 (0) 24 (mM (by decide) (by decide)) rfl rfl hinX6 (by decide) hf75 rfl rfl dX6_film_46 ?_
          refine lv_iload_n hx hb dX6_film_49 rfl (lv_at hl 1 rfl) ?_
          refine lv_iload hx hb dX6_film_50 (lv_at hl 4 rfl) ?_
          refine rM_iast hx hb hK hI hW hS 24 (0) (kN) (by decide) (by decide) (by decide) (show kN < 4 by omega) rfl dX6_film_52 (fun I6 H locs eI6 hW hS => ?_)
          refine lv_iconst (v := nI 0) hx hb dX6_film_53 (by decide) ?_
          refine lv_istore (lv' := [(5, .int (nI (0))), (0, .ref (ad 0 (0))), (1, .int (nI (kN))), (2, .int (nI (rN))), (3, .int (nI (aN))), (4, .int (nI (n0N)))]) hx hb dX6_film_54 hl (by decide) rfl (fun ls hl => ?_)
          have K56 : ∀ (n : Nat) (i : Nat), (i ≤ n0N) → n0N < i + n → ∀ (H : Heap) (locs : List Loc), va_P D vwCl (wS LM ad (wM G ad (flM J kN rN aN n0N i))) H → va_S (wA LM ad) s.heap H locs → ∀ (ls : Array Slot), lv_has ls 6 [(5, .int (nI (i))), (0, .ref (ad 0 (0))), (1, .int (nI (kN))), (2, .int (nI (rN))), (3, .int (nI (aN))), (4, .int (nI (n0N)))] → W p l e ({ frames := 5, cells := 0, slots := 0, locals := 135 } : Room) s m args below meth c H locs 0 0 Q (F0 m 56 ls []) := by
            intro n56
            induction n56 with
            | zero => intro i hi hfu; exact absurd hfu (by omega)
            | succ n56 ih56 =>
              intro i hi hfu H locs hW hS ls hl
              refine lv_iload hx hb dX6_film_56 (lv_at hl 0 rfl) ?_
              refine lv_iload hx hb dX6_film_58 (lv_at hl 5 rfl) ?_
              refine lv_icmp_ge (tgt := 90) hx hb dX6_film_60 (by decide) (fun c60_6 => ?_) (fun c60_6 => ?_)
              · replace c60_6 : n0N ≤ i := (nI_leI (show n0N < 2147483648 by omega) (show i < 2147483648 by omega)).mp c60_6
                refine lv_iload hx hb dX6_film_90 (lv_at hl 5 rfl) ?_
                rw [hQ]
                exact g_iret (wd := wM G ad) hx hb hr rfl hlocks hW hS (by have e4 : i = n0N := (by omega); subst e4; refine ⟨?_, ?_⟩ <;> rw [if_pos (by simp [k_kN, k_rN, k_aN, k_n0N, show okN (nI 4) (nI 0) = true by decide +kernel])] <;> simp only [t_kN, t_rN, t_aN, t_n0N]) dX6_film_92
              · replace c60_6 : ¬ (n0N ≤ i) := fun h => c60_6 ((nI_leI (show n0N < 2147483648 by omega) (show i < 2147483648 by omega)).mpr h)
                refine lv_aload_n hx hb dX6_film_63 rfl (lv_at hl 1 rfl) ?_
                refine r_get hx hb hts hown hK hW 0 (0) 25 (mM (by decide) (by decide)) rfl rfl hinX6 (by decide) hf78 rfl rfl dX6_film_64 ?_
                refine lv_iload_n hx hb dX6_film_67 rfl (lv_at hl 2 rfl) ?_
                refine r_aaldI hx hb hK hW 1 12 (kN) (mM (by decide) (by decide)) rfl (show kN < 4 by omega) (by decide) rfl rfl dX6_film_68 ?_
                refine lv_iload hx hb dX6_film_69 (lv_at hl 0 rfl) ?_
                refine lv_aload_n hx hb dX6_film_71 rfl (lv_at hl 1 rfl) ?_
                refine lv_iload_n hx hb dX6_film_72 rfl (lv_at hl 3 rfl) ?_
                refine lv_iconst (v := nI 4) hx hb dX6_film_73 (by decide) ?_
                refine lv_iload_n hx hb dX6_film_74 rfl (lv_at hl 4 rfl) ?_
                refine lv_imul hx hb dX6_film_75 (r_top (pk_mul _ _) ?_)
                refine lv_iload hx hb dX6_film_76 (lv_at hl 0 rfl) ?_
                refine lv_iadd hx hb dX6_film_78 (r_top (nI_add _ _) ?_)
                have hM_7 : okM (flM J kN rN aN n0N i) := okM_e (fun r9 => by simp [clr_n, cpy_n, jn_n, goA_n, inP_n, up3_f, up3_s, mtM_n, hnM_n, gaP_n, lnP_n, cp3_n, tcM_n, flM_n]) hM
                have hK_8 : okK (flM J kN rN aN n0N i) := okK_e (fun o9 => by simp [clr_n, cpy_n, jn_n, goA_n, inP_n, up3_f, up3_s, mtM_n, hnM_n, gaP_n, lnP_n, cp3_n, tcM_n, flM_n]) hKd
                refine g_cl (va_runV (As := [.int (nI (rN)), .int (nI ((4 * aN) + i))]) (rest := [.int (nI (i)), .ref (ad 19 (kN))]) ⟨hx, hb, hml, hown, hts⟩ (c_X6_worthNow l D G ad hI (flM J kN rN aN n0N i) rN ((4 * aN) + i) (show rN < 33 by omega) (show (4 * aN) + i < 12 by omega) hM_7 hK_8) (cwV 2 hts gX6_film_X6_worthNow rfl rfl rfl (by decide +kernel) ⟨Nat.le_of_ble_eq_true rfl, Nat.le_of_ble_eq_true rfl⟩) (g_preV hK hW 0 (0) (mM (by decide) (by decide)) rfl rfl) rfl rfl hl.1 rfl (lv_room (Nat.le_of_ble_eq_true rfl)) dX6_film_79 ⟨Nat.le_refl _, Nat.le_refl _⟩) hS (fun x10 I10 H locs hp hW hS => ?_)
                obtain ⟨ex10, eI10⟩ := hp
                rw [eI10] at hW
                clear eI10
                refine lv_l2i hx hb dX6_film_82 rfl ?_
                refine rM_iast hx hb hK hI hW hS 19 (kN) (i) (by decide) (by decide) (show kN < 4 by omega) (show i < 40 by omega) rfl dX6_film_83 (fun I11 H locs eI11 hW hS => ?_)
                refine lv_iinc (v := nI (i + 1)) (lv' := [(5, .int (nI (i + 1))), (0, .ref (ad 0 (0))), (1, .int (nI (kN))), (2, .int (nI (rN))), (3, .int (nI (aN))), (4, .int (nI (n0N)))]) hx hb dX6_film_84 hl (k := 0) rfl (nI_inc i 1) (by decide) rfl (fun ls hl => ?_)
                refine lv_goto (tgt := 56) hx hb dX6_film_87 (by decide) ?_
                have e9 : I11 = flM J kN rN aN n0N (i + 1) := by
                  subst eI11 ex10
                  rfl
                have hW9 := hW
                rw [e9] at hW9
                exact ih56 (i + 1) (by omega) (by omega) _ _ hW9 hS _ (lv_sub hl [0, 1, 2, 3, 4, 5] rfl)
          have e9 : I6 = flM J kN rN aN n0N 0 := by
            subst eI6 eI5
            rfl
          have hW9 := hW
          rw [e9] at hW9
          exact K56 (n0N + 1) (0) (Nat.zero_le _) (by omega) _ _ hW9 hS _ (lv_sub hl [0, 1, 2, 3, 4, 5] rfl)
        · replace c32_3 := bI_0.mp c32_3
          try simp only [decide_eq_true_eq, decide_eq_false_iff_not] at c32_3
          refine lv_bipush (v := (-2)) hx hb dX6_film_35 (by decide) ?_
          rw [hQ]
          exact g_iret (wd := wM G ad) hx hb hr rfl hlocks hW hS (by refine ⟨?_, ?_⟩ <;> simp [k_kN, k_rN, k_aN, c32_3]) dX6_film_37

set_option maxHeartbeats 4000000 in
set_option maxRecDepth 100000 in
theorem c_X6_sheet (l : Launch) (D : va_G) (G : Nat → ClassId) (ad : Nat → Nat → Nat) (hI : wI LM ad) (J : St) (k so n0 : Int32) : Met l yX6_sheet wsX6_sheet ({ frames := 2, cells := 0, slots := 0, locals := 45 } : Room) (gPre D G LM ad [.ref (ad 0 (0)), .int (k), .int (so), .int (n0)] (wM G ad J)) (gQi D LM ad (wM G ad) (fun r9 u => r9 = (if (okN (nI 4) k && okR (-1) (nI 1) so) = true then (if (¬ so < 0 ∧ nI 40 < n0) then -2 else if (¬ so < 0 ∧ n0 < 0) then -14 else nI 1) else -2) ∧ u = (if (okN (nI 4) k && okR (-1) (nI 1) so) = true then (if (¬ so < 0 ∧ nI 40 < n0) then J else if (¬ so < 0 ∧ n0 < 0) then J else shM J (tn k) so n0) else J))) 0 0 (wA LM ad) := by
  refine g_entry (C := RX6) (cc := cX6_sheet) (maxL := 5) (ret := (some .int)) rfl (by decide) rfl (Nat.le_of_ble_eq_true rfl) (fun p e s m args below meth c Q ls hQ hx hb hr hts hown hlocks hml hW hK hl => ?_)
  have hl : lv_has ls 5 [(0, .ref (ad 0 (0))), (1, .int (k)), (2, .int (so)), (3, .int (n0))] := hl
  have hS := va_S.rf (A := wA LM ad) (H0 := s.heap)
  have hinX6 : ∀ w ∈ wsX60, w ∈ wsX6_sheet := by decide +kernel
  have hf72 := hts (.fieldLink RX6 72 "JoinedStoresModel" "sorts" "[I") (by decide +kernel)
  have hf75 := hts (.fieldLink RX6 75 "JoinedStoresModel" "lengths" "[I") (by decide +kernel)
  have hf78 := hts (.fieldLink RX6 78 "JoinedStoresModel" "items" "[[I") (by decide +kernel)
  refine lv_iload_n hx hb dX6_sheet_0 rfl (lv_at hl 1 rfl) ?_
  refine g_pi (va_runS (As := [.int (k)]) (rest := []) ⟨hx, hb, hml, hown, hts⟩ (c_X6_isSheet l k) (va_cwS 1 hts gX6_sheet_X6_isSheet rfl rfl rfl (by decide +kernel) ⟨Nat.le_of_ble_eq_true rfl, Nat.le_of_ble_eq_true rfl⟩) p_preS rfl rfl hl.1 rfl (lv_room (Nat.le_of_ble_eq_true rfl)) dX6_sheet_1 ⟨Nat.le_refl _, Nat.le_refl _⟩) hW hS (fun H locs hW hS => ?_)
  refine lv_if_eq (tgt := 29) hx hb dX6_sheet_4 (by decide) (fun c4_0 => ?_) (fun c4_0 => ?_)
  · replace c4_0 := bI_0.mp c4_0
    try simp only [decide_eq_true_eq, decide_eq_false_iff_not] at c4_0
    refine lv_bipush (v := (-2)) hx hb dX6_sheet_29 (by decide) ?_
    rw [hQ]
    exact g_iret (wd := wM G ad) hx hb hr rfl hlocks hW hS (by refine ⟨?_, ?_⟩ <;> simp [c4_0]) dX6_sheet_31
  · replace c4_0 := bI_1.mp c4_0
    obtain ⟨kN, hkN, ekN⟩ := okN_nI (k := 4) (by decide) c4_0
    subst ekN
    have t_kN : tn (nI kN) = kN := tn_nI (by omega)
    have k_kN : okN (nI 4) (nI kN) = true := okN_of (by decide) hkN
    refine lv_iload_n hx hb dX6_sheet_7 rfl (lv_at hl 2 rfl) ?_
    refine lv_i2l hx hb dX6_sheet_8 rfl ?_
    refine lv_ldc2 (v := (-1)) hx hb hown (hts (.constantLong RX6 246 (-1)) (by decide +kernel)) dX6_sheet_9 ?_
    refine lv_lconst (v := lN 1) hx hb dX6_sheet_12 (by decide) ?_
    refine g_pi (va_runS (As := [.long (so.toInt64), .long ((-1)), .long (lN 1)]) (rest := []) ⟨hx, hb, hml, hown, hts⟩ (c_X6_inB l so.toInt64 ((-1)) (lN 1) (okR (-1) (nI 1) so) (inL_R (by decide) (by decide) _)) (va_cwS 3 hts gX6_sheet_X6_in rfl rfl rfl (by decide +kernel) ⟨Nat.le_of_ble_eq_true rfl, Nat.le_of_ble_eq_true rfl⟩) p_preS rfl rfl hl.1 rfl (lv_room (Nat.le_of_ble_eq_true rfl)) dX6_sheet_13 ⟨Nat.le_refl _, Nat.le_refl _⟩) hW hS (fun H locs hW hS => ?_)
    refine lv_if_eq (tgt := 29) hx hb dX6_sheet_16 (by decide) (fun c16_1 => ?_) (fun c16_1 => ?_)
    · replace c16_1 := bI_0.mp c16_1
      try simp only [decide_eq_true_eq, decide_eq_false_iff_not] at c16_1
      refine lv_bipush (v := (-2)) hx hb dX6_sheet_29 (by decide) ?_
      rw [hQ]
      exact g_iret (wd := wM G ad) hx hb hr rfl hlocks hW hS (by refine ⟨?_, ?_⟩ <;> simp [k_kN, c16_1]) dX6_sheet_31
    · replace c16_1 := bI_1.mp c16_1
      try simp only [decide_eq_true_eq, decide_eq_false_iff_not] at c16_1
      refine lv_iload_n hx hb dX6_sheet_19 rfl (lv_at hl 2 rfl) ?_
      refine lv_if_lt (tgt := 32) hx hb dX6_sheet_20 (by decide) (fun c20_2 => ?_) (fun c20_2 => ?_)
      · refine lv_iload_n hx hb dX6_sheet_32 rfl (lv_at hl 2 rfl) ?_
        refine lv_if_lt (tgt := 43) hx hb dX6_sheet_33 (by decide) (fun c33_3 => ?_) (fun c33_3 => ?_)
        · refine lv_aload_n hx hb dX6_sheet_43 rfl (lv_at hl 0 rfl) ?_
          refine r_get hx hb hts hown hK hW 0 (0) 23 (mM (by decide) (by decide)) rfl rfl hinX6 (by decide) hf72 rfl rfl dX6_sheet_44 ?_
          refine lv_iload_n hx hb dX6_sheet_47 rfl (lv_at hl 1 rfl) ?_
          refine lv_iload_n hx hb dX6_sheet_48 rfl (lv_at hl 2 rfl) ?_
          refine rM_iast hx hb hK hI hW hS 23 (0) (kN) (by decide) (by decide) (by decide) (show kN < 4 by omega) rfl dX6_sheet_49 (fun I5 H locs eI5 hW hS => ?_)
          refine lv_aload_n hx hb dX6_sheet_50 rfl (lv_at hl 0 rfl) ?_
          refine r_get hx hb hts hown hK hW 0 (0) 24 (mM (by decide) (by decide)) rfl rfl hinX6 (by decide) hf75 rfl rfl dX6_sheet_51 ?_
          refine lv_iload_n hx hb dX6_sheet_54 rfl (lv_at hl 1 rfl) ?_
          refine lv_iload_n hx hb dX6_sheet_55 rfl (lv_at hl 2 rfl) ?_
          refine lv_if_ge (tgt := 63) hx hb dX6_sheet_56 (by decide) (fun c56_5 => ?_) (fun c56_5 => ?_)
          · refine lv_iload_n hx hb dX6_sheet_63 rfl (lv_at hl 3 rfl) ?_
            refine rM_iast hx hb hK hI hW hS 24 (0) (kN) (by decide) (by decide) (by decide) (show kN < 4 by omega) rfl dX6_sheet_64 (fun I7 H locs eI7 hW hS => ?_)
            refine lv_iconst (v := nI 0) hx hb dX6_sheet_65 (by decide) ?_
            refine lv_istore (lv' := [(4, .int (nI (0))), (0, .ref (ad 0 (0))), (1, .int (nI (kN))), (2, .int (so)), (3, .int (n0))]) hx hb dX6_sheet_66 hl (by decide) rfl (fun ls hl => ?_)
            have K68 : ∀ (n : Nat) (i : Nat), (i ≤ 40) → 40 < i + n → ∀ (H : Heap) (locs : List Loc), va_P D vwCl (wS LM ad (wM G ad (shP (up3 (up3 J 23 0 kN so) 24 0 kN (if so < 0 then nI 0 else n0)) kN i))) H → va_S (wA LM ad) s.heap H locs → ∀ (ls : Array Slot), lv_has ls 5 [(4, .int (nI (i))), (0, .ref (ad 0 (0))), (1, .int (nI (kN))), (2, .int (so)), (3, .int (n0))] → W p l e ({ frames := 2, cells := 0, slots := 0, locals := 45 } : Room) s m args below meth c H locs 0 0 Q (F0 m 68 ls []) := by
              intro n68
              induction n68 with
              | zero => intro i hi hfu; exact absurd hfu (by omega)
              | succ n68 ih68 =>
                intro i hi hfu H locs hW hS ls hl
                refine lv_iload hx hb dX6_sheet_68 (lv_at hl 0 rfl) ?_
                refine lv_bipush (v := nI 40) hx hb dX6_sheet_70 (by decide) ?_
                refine lv_icmp_ge (tgt := 91) hx hb dX6_sheet_72 (by decide) (fun c72_7 => ?_) (fun c72_7 => ?_)
                · replace c72_7 : 40 ≤ i := (nI_leI (show 40 < 2147483648 by omega) (show i < 2147483648 by omega)).mp c72_7
                  refine lv_iconst (v := nI 1) hx hb dX6_sheet_91 (by decide) ?_
                  rw [hQ]
                  exact g_iret (wd := wM G ad) hx hb hr rfl hlocks hW hS (by have e4 : i = 40 := (by omega); subst e4; skip; have hA : ¬ (¬ so < 0 ∧ nI 40 < n0) := (fun q9 => by first | exact absurd (by assumption) q9.1 | exact absurd q9.2 (Int32.not_lt.mpr (by assumption))); have hB : ¬ (¬ so < 0 ∧ n0 < 0) := (fun q9 => by first | exact absurd (by assumption) q9.1 | exact absurd q9.2 (Int32.not_lt.mpr (by assumption))); refine ⟨by rw [if_pos (by simp [k_kN, c16_1]), if_neg hA, if_neg hB], ((if_pos (by simp [k_kN, c16_1])).trans ((if_neg hA).trans ((if_neg hB).trans ?_))).symm⟩; simp only [t_kN, shM]) dX6_sheet_92
                · replace c72_7 : ¬ (40 ≤ i) := fun h => c72_7 ((nI_leI (show 40 < 2147483648 by omega) (show i < 2147483648 by omega)).mpr h)
                  refine lv_aload_n hx hb dX6_sheet_75 rfl (lv_at hl 1 rfl) ?_
                  refine r_get hx hb hts hown hK hW 0 (0) 25 (mM (by decide) (by decide)) rfl rfl hinX6 (by decide) hf78 rfl rfl dX6_sheet_76 ?_
                  refine lv_iload_n hx hb dX6_sheet_79 rfl (lv_at hl 2 rfl) ?_
                  refine r_aaldI hx hb hK hW 1 12 (kN) (mM (by decide) (by decide)) rfl (show kN < 4 by omega) (by decide) rfl rfl dX6_sheet_80 ?_
                  refine lv_iload hx hb dX6_sheet_81 (lv_at hl 0 rfl) ?_
                  refine lv_iconst (v := nI 0) hx hb dX6_sheet_83 (by decide) ?_
                  refine rM_iast hx hb hK hI hW hS 19 (kN) (i) (by decide) (by decide) (show kN < 4 by omega) (show i < 40 by omega) rfl dX6_sheet_84 (fun I9 H locs eI9 hW hS => ?_)
                  refine lv_iinc (v := nI (i + 1)) (lv' := [(4, .int (nI (i + 1))), (0, .ref (ad 0 (0))), (1, .int (nI (kN))), (2, .int (so)), (3, .int (n0))]) hx hb dX6_sheet_85 hl (k := 0) rfl (nI_inc i 1) (by decide) rfl (fun ls hl => ?_)
                  refine lv_goto (tgt := 68) hx hb dX6_sheet_88 (by decide) ?_
                  have e9 : I9 = shP (up3 (up3 J 23 0 kN so) 24 0 kN (if so < 0 then nI 0 else n0)) kN (i + 1) := by
                    subst eI9
                    exact shP_s _ _ _
                  have hW9 := hW
                  rw [e9] at hW9
                  exact ih68 (i + 1) (by omega) (by omega) _ _ hW9 hS _ (lv_sub hl [0, 1, 2, 3, 4] rfl)
            have e9 : I7 = shP (up3 (up3 J 23 0 kN so) 24 0 kN (if so < 0 then nI 0 else n0)) kN 0 := by
              subst eI7 eI5
              rw [shP_0, if_neg (Int32.not_lt.mpr c56_5)]
            have hW9 := hW
            rw [e9] at hW9
            exact K68 (40 + 1) (0) (by omega) (by omega) _ _ hW9 hS _ (lv_sub hl [0, 1, 2, 3, 4] rfl)
          · replace c56_5 := Int32.not_le.mp c56_5
            refine lv_iconst (v := nI 0) hx hb dX6_sheet_59 (by decide) ?_
            refine lv_goto (tgt := 64) hx hb dX6_sheet_60 (by decide) ?_
            refine rM_iast hx hb hK hI hW hS 24 (0) (kN) (by decide) (by decide) (by decide) (show kN < 4 by omega) rfl dX6_sheet_64 (fun I10 H locs eI10 hW hS => ?_)
            refine lv_iconst (v := nI 0) hx hb dX6_sheet_65 (by decide) ?_
            refine lv_istore (lv' := [(4, .int (nI (0))), (0, .ref (ad 0 (0))), (1, .int (nI (kN))), (2, .int (so)), (3, .int (n0))]) hx hb dX6_sheet_66 hl (by decide) rfl (fun ls hl => ?_)
            have K68 : ∀ (n : Nat) (i : Nat), (i ≤ 40) → 40 < i + n → ∀ (H : Heap) (locs : List Loc), va_P D vwCl (wS LM ad (wM G ad (shP (up3 (up3 J 23 0 kN so) 24 0 kN (if so < 0 then nI 0 else n0)) kN i))) H → va_S (wA LM ad) s.heap H locs → ∀ (ls : Array Slot), lv_has ls 5 [(4, .int (nI (i))), (0, .ref (ad 0 (0))), (1, .int (nI (kN))), (2, .int (so)), (3, .int (n0))] → W p l e ({ frames := 2, cells := 0, slots := 0, locals := 45 } : Room) s m args below meth c H locs 0 0 Q (F0 m 68 ls []) := by
              intro n68
              induction n68 with
              | zero => intro i hi hfu; exact absurd hfu (by omega)
              | succ n68 ih68 =>
                intro i hi hfu H locs hW hS ls hl
                refine lv_iload hx hb dX6_sheet_68 (lv_at hl 0 rfl) ?_
                refine lv_bipush (v := nI 40) hx hb dX6_sheet_70 (by decide) ?_
                refine lv_icmp_ge (tgt := 91) hx hb dX6_sheet_72 (by decide) (fun c72_10 => ?_) (fun c72_10 => ?_)
                · replace c72_10 : 40 ≤ i := (nI_leI (show 40 < 2147483648 by omega) (show i < 2147483648 by omega)).mp c72_10
                  refine lv_iconst (v := nI 1) hx hb dX6_sheet_91 (by decide) ?_
                  rw [hQ]
                  exact g_iret (wd := wM G ad) hx hb hr rfl hlocks hW hS (by have e4 : i = 40 := (by omega); subst e4; skip; have hA : ¬ (¬ so < 0 ∧ nI 40 < n0) := (fun q9 => by first | exact absurd (by assumption) q9.1 | exact absurd q9.2 (Int32.not_lt.mpr (by assumption))); have hB : ¬ (¬ so < 0 ∧ n0 < 0) := (fun q9 => by first | exact absurd (by assumption) q9.1 | exact absurd q9.2 (Int32.not_lt.mpr (by assumption))); refine ⟨by rw [if_pos (by simp [k_kN, c16_1]), if_neg hA, if_neg hB], ((if_pos (by simp [k_kN, c16_1])).trans ((if_neg hA).trans ((if_neg hB).trans ?_))).symm⟩; simp only [t_kN, shM]) dX6_sheet_92
                · replace c72_10 : ¬ (40 ≤ i) := fun h => c72_10 ((nI_leI (show 40 < 2147483648 by omega) (show i < 2147483648 by omega)).mpr h)
                  refine lv_aload_n hx hb dX6_sheet_75 rfl (lv_at hl 1 rfl) ?_
                  refine r_get hx hb hts hown hK hW 0 (0) 25 (mM (by decide) (by decide)) rfl rfl hinX6 (by decide) hf78 rfl rfl dX6_sheet_76 ?_
                  refine lv_iload_n hx hb dX6_sheet_79 rfl (lv_at hl 2 rfl) ?_
                  refine r_aaldI hx hb hK hW 1 12 (kN) (mM (by decide) (by decide)) rfl (show kN < 4 by omega) (by decide) rfl rfl dX6_sheet_80 ?_
                  refine lv_iload hx hb dX6_sheet_81 (lv_at hl 0 rfl) ?_
                  refine lv_iconst (v := nI 0) hx hb dX6_sheet_83 (by decide) ?_
                  refine rM_iast hx hb hK hI hW hS 19 (kN) (i) (by decide) (by decide) (show kN < 4 by omega) (show i < 40 by omega) rfl dX6_sheet_84 (fun I12 H locs eI12 hW hS => ?_)
                  refine lv_iinc (v := nI (i + 1)) (lv' := [(4, .int (nI (i + 1))), (0, .ref (ad 0 (0))), (1, .int (nI (kN))), (2, .int (so)), (3, .int (n0))]) hx hb dX6_sheet_85 hl (k := 0) rfl (nI_inc i 1) (by decide) rfl (fun ls hl => ?_)
                  refine lv_goto (tgt := 68) hx hb dX6_sheet_88 (by decide) ?_
                  have e9 : I12 = shP (up3 (up3 J 23 0 kN so) 24 0 kN (if so < 0 then nI 0 else n0)) kN (i + 1) := by
                    subst eI12
                    exact shP_s _ _ _
                  have hW9 := hW
                  rw [e9] at hW9
                  exact ih68 (i + 1) (by omega) (by omega) _ _ hW9 hS _ (lv_sub hl [0, 1, 2, 3, 4] rfl)
            have e9 : I10 = shP (up3 (up3 J 23 0 kN so) 24 0 kN (if so < 0 then nI 0 else n0)) kN 0 := by
              subst eI10 eI5
              rw [shP_0, if_pos c56_5]
            have hW9 := hW
            rw [e9] at hW9
            exact K68 (40 + 1) (0) (by omega) (by omega) _ _ hW9 hS _ (lv_sub hl [0, 1, 2, 3, 4] rfl)
        · refine lv_iload_n hx hb dX6_sheet_36 rfl (lv_at hl 3 rfl) ?_
          refine lv_if_ge (tgt := 43) hx hb dX6_sheet_37 (by decide) (fun c37_12 => ?_) (fun c37_12 => ?_)
          · refine lv_aload_n hx hb dX6_sheet_43 rfl (lv_at hl 0 rfl) ?_
            refine r_get hx hb hts hown hK hW 0 (0) 23 (mM (by decide) (by decide)) rfl rfl hinX6 (by decide) hf72 rfl rfl dX6_sheet_44 ?_
            refine lv_iload_n hx hb dX6_sheet_47 rfl (lv_at hl 1 rfl) ?_
            refine lv_iload_n hx hb dX6_sheet_48 rfl (lv_at hl 2 rfl) ?_
            refine rM_iast hx hb hK hI hW hS 23 (0) (kN) (by decide) (by decide) (by decide) (show kN < 4 by omega) rfl dX6_sheet_49 (fun I14 H locs eI14 hW hS => ?_)
            refine lv_aload_n hx hb dX6_sheet_50 rfl (lv_at hl 0 rfl) ?_
            refine r_get hx hb hts hown hK hW 0 (0) 24 (mM (by decide) (by decide)) rfl rfl hinX6 (by decide) hf75 rfl rfl dX6_sheet_51 ?_
            refine lv_iload_n hx hb dX6_sheet_54 rfl (lv_at hl 1 rfl) ?_
            refine lv_iload_n hx hb dX6_sheet_55 rfl (lv_at hl 2 rfl) ?_
            refine lv_if_ge (tgt := 63) hx hb dX6_sheet_56 (by decide) (fun c56_14 => ?_) (fun c56_14 => ?_)
            · refine lv_iload_n hx hb dX6_sheet_63 rfl (lv_at hl 3 rfl) ?_
              refine rM_iast hx hb hK hI hW hS 24 (0) (kN) (by decide) (by decide) (by decide) (show kN < 4 by omega) rfl dX6_sheet_64 (fun I16 H locs eI16 hW hS => ?_)
              refine lv_iconst (v := nI 0) hx hb dX6_sheet_65 (by decide) ?_
              refine lv_istore (lv' := [(4, .int (nI (0))), (0, .ref (ad 0 (0))), (1, .int (nI (kN))), (2, .int (so)), (3, .int (n0))]) hx hb dX6_sheet_66 hl (by decide) rfl (fun ls hl => ?_)
              have K68 : ∀ (n : Nat) (i : Nat), (i ≤ 40) → 40 < i + n → ∀ (H : Heap) (locs : List Loc), va_P D vwCl (wS LM ad (wM G ad (shP (up3 (up3 J 23 0 kN so) 24 0 kN (if so < 0 then nI 0 else n0)) kN i))) H → va_S (wA LM ad) s.heap H locs → ∀ (ls : Array Slot), lv_has ls 5 [(4, .int (nI (i))), (0, .ref (ad 0 (0))), (1, .int (nI (kN))), (2, .int (so)), (3, .int (n0))] → W p l e ({ frames := 2, cells := 0, slots := 0, locals := 45 } : Room) s m args below meth c H locs 0 0 Q (F0 m 68 ls []) := by
                intro n68
                induction n68 with
                | zero => intro i hi hfu; exact absurd hfu (by omega)
                | succ n68 ih68 =>
                  intro i hi hfu H locs hW hS ls hl
                  refine lv_iload hx hb dX6_sheet_68 (lv_at hl 0 rfl) ?_
                  refine lv_bipush (v := nI 40) hx hb dX6_sheet_70 (by decide) ?_
                  refine lv_icmp_ge (tgt := 91) hx hb dX6_sheet_72 (by decide) (fun c72_16 => ?_) (fun c72_16 => ?_)
                  · replace c72_16 : 40 ≤ i := (nI_leI (show 40 < 2147483648 by omega) (show i < 2147483648 by omega)).mp c72_16
                    refine lv_iconst (v := nI 1) hx hb dX6_sheet_91 (by decide) ?_
                    rw [hQ]
                    exact g_iret (wd := wM G ad) hx hb hr rfl hlocks hW hS (by have e4 : i = 40 := (by omega); subst e4; skip; have hA : ¬ (¬ so < 0 ∧ nI 40 < n0) := (fun q9 => by first | exact absurd (by assumption) q9.1 | exact absurd q9.2 (Int32.not_lt.mpr (by assumption))); have hB : ¬ (¬ so < 0 ∧ n0 < 0) := (fun q9 => by first | exact absurd (by assumption) q9.1 | exact absurd q9.2 (Int32.not_lt.mpr (by assumption))); refine ⟨by rw [if_pos (by simp [k_kN, c16_1]), if_neg hA, if_neg hB], ((if_pos (by simp [k_kN, c16_1])).trans ((if_neg hA).trans ((if_neg hB).trans ?_))).symm⟩; simp only [t_kN, shM]) dX6_sheet_92
                  · replace c72_16 : ¬ (40 ≤ i) := fun h => c72_16 ((nI_leI (show 40 < 2147483648 by omega) (show i < 2147483648 by omega)).mpr h)
                    refine lv_aload_n hx hb dX6_sheet_75 rfl (lv_at hl 1 rfl) ?_
                    refine r_get hx hb hts hown hK hW 0 (0) 25 (mM (by decide) (by decide)) rfl rfl hinX6 (by decide) hf78 rfl rfl dX6_sheet_76 ?_
                    refine lv_iload_n hx hb dX6_sheet_79 rfl (lv_at hl 2 rfl) ?_
                    refine r_aaldI hx hb hK hW 1 12 (kN) (mM (by decide) (by decide)) rfl (show kN < 4 by omega) (by decide) rfl rfl dX6_sheet_80 ?_
                    refine lv_iload hx hb dX6_sheet_81 (lv_at hl 0 rfl) ?_
                    refine lv_iconst (v := nI 0) hx hb dX6_sheet_83 (by decide) ?_
                    refine rM_iast hx hb hK hI hW hS 19 (kN) (i) (by decide) (by decide) (show kN < 4 by omega) (show i < 40 by omega) rfl dX6_sheet_84 (fun I18 H locs eI18 hW hS => ?_)
                    refine lv_iinc (v := nI (i + 1)) (lv' := [(4, .int (nI (i + 1))), (0, .ref (ad 0 (0))), (1, .int (nI (kN))), (2, .int (so)), (3, .int (n0))]) hx hb dX6_sheet_85 hl (k := 0) rfl (nI_inc i 1) (by decide) rfl (fun ls hl => ?_)
                    refine lv_goto (tgt := 68) hx hb dX6_sheet_88 (by decide) ?_
                    have e9 : I18 = shP (up3 (up3 J 23 0 kN so) 24 0 kN (if so < 0 then nI 0 else n0)) kN (i + 1) := by
                      subst eI18
                      exact shP_s _ _ _
                    have hW9 := hW
                    rw [e9] at hW9
                    exact ih68 (i + 1) (by omega) (by omega) _ _ hW9 hS _ (lv_sub hl [0, 1, 2, 3, 4] rfl)
              have e9 : I16 = shP (up3 (up3 J 23 0 kN so) 24 0 kN (if so < 0 then nI 0 else n0)) kN 0 := by
                subst eI16 eI14
                rw [shP_0, if_neg (Int32.not_lt.mpr c56_14)]
              have hW9 := hW
              rw [e9] at hW9
              exact K68 (40 + 1) (0) (by omega) (by omega) _ _ hW9 hS _ (lv_sub hl [0, 1, 2, 3, 4] rfl)
            · replace c56_14 := Int32.not_le.mp c56_14
              refine lv_iconst (v := nI 0) hx hb dX6_sheet_59 (by decide) ?_
              refine lv_goto (tgt := 64) hx hb dX6_sheet_60 (by decide) ?_
              refine rM_iast hx hb hK hI hW hS 24 (0) (kN) (by decide) (by decide) (by decide) (show kN < 4 by omega) rfl dX6_sheet_64 (fun I19 H locs eI19 hW hS => ?_)
              refine lv_iconst (v := nI 0) hx hb dX6_sheet_65 (by decide) ?_
              refine lv_istore (lv' := [(4, .int (nI (0))), (0, .ref (ad 0 (0))), (1, .int (nI (kN))), (2, .int (so)), (3, .int (n0))]) hx hb dX6_sheet_66 hl (by decide) rfl (fun ls hl => ?_)
              have K68 : ∀ (n : Nat) (i : Nat), (i ≤ 40) → 40 < i + n → ∀ (H : Heap) (locs : List Loc), va_P D vwCl (wS LM ad (wM G ad (shP (up3 (up3 J 23 0 kN so) 24 0 kN (if so < 0 then nI 0 else n0)) kN i))) H → va_S (wA LM ad) s.heap H locs → ∀ (ls : Array Slot), lv_has ls 5 [(4, .int (nI (i))), (0, .ref (ad 0 (0))), (1, .int (nI (kN))), (2, .int (so)), (3, .int (n0))] → W p l e ({ frames := 2, cells := 0, slots := 0, locals := 45 } : Room) s m args below meth c H locs 0 0 Q (F0 m 68 ls []) := by
                intro n68
                induction n68 with
                | zero => intro i hi hfu; exact absurd hfu (by omega)
                | succ n68 ih68 =>
                  intro i hi hfu H locs hW hS ls hl
                  refine lv_iload hx hb dX6_sheet_68 (lv_at hl 0 rfl) ?_
                  refine lv_bipush (v := nI 40) hx hb dX6_sheet_70 (by decide) ?_
                  refine lv_icmp_ge (tgt := 91) hx hb dX6_sheet_72 (by decide) (fun c72_19 => ?_) (fun c72_19 => ?_)
                  · replace c72_19 : 40 ≤ i := (nI_leI (show 40 < 2147483648 by omega) (show i < 2147483648 by omega)).mp c72_19
                    refine lv_iconst (v := nI 1) hx hb dX6_sheet_91 (by decide) ?_
                    rw [hQ]
                    exact g_iret (wd := wM G ad) hx hb hr rfl hlocks hW hS (by have e4 : i = 40 := (by omega); subst e4; skip; have hA : ¬ (¬ so < 0 ∧ nI 40 < n0) := (fun q9 => by first | exact absurd (by assumption) q9.1 | exact absurd q9.2 (Int32.not_lt.mpr (by assumption))); have hB : ¬ (¬ so < 0 ∧ n0 < 0) := (fun q9 => by first | exact absurd (by assumption) q9.1 | exact absurd q9.2 (Int32.not_lt.mpr (by assumption))); refine ⟨by rw [if_pos (by simp [k_kN, c16_1]), if_neg hA, if_neg hB], ((if_pos (by simp [k_kN, c16_1])).trans ((if_neg hA).trans ((if_neg hB).trans ?_))).symm⟩; simp only [t_kN, shM]) dX6_sheet_92
                  · replace c72_19 : ¬ (40 ≤ i) := fun h => c72_19 ((nI_leI (show 40 < 2147483648 by omega) (show i < 2147483648 by omega)).mpr h)
                    refine lv_aload_n hx hb dX6_sheet_75 rfl (lv_at hl 1 rfl) ?_
                    refine r_get hx hb hts hown hK hW 0 (0) 25 (mM (by decide) (by decide)) rfl rfl hinX6 (by decide) hf78 rfl rfl dX6_sheet_76 ?_
                    refine lv_iload_n hx hb dX6_sheet_79 rfl (lv_at hl 2 rfl) ?_
                    refine r_aaldI hx hb hK hW 1 12 (kN) (mM (by decide) (by decide)) rfl (show kN < 4 by omega) (by decide) rfl rfl dX6_sheet_80 ?_
                    refine lv_iload hx hb dX6_sheet_81 (lv_at hl 0 rfl) ?_
                    refine lv_iconst (v := nI 0) hx hb dX6_sheet_83 (by decide) ?_
                    refine rM_iast hx hb hK hI hW hS 19 (kN) (i) (by decide) (by decide) (show kN < 4 by omega) (show i < 40 by omega) rfl dX6_sheet_84 (fun I21 H locs eI21 hW hS => ?_)
                    refine lv_iinc (v := nI (i + 1)) (lv' := [(4, .int (nI (i + 1))), (0, .ref (ad 0 (0))), (1, .int (nI (kN))), (2, .int (so)), (3, .int (n0))]) hx hb dX6_sheet_85 hl (k := 0) rfl (nI_inc i 1) (by decide) rfl (fun ls hl => ?_)
                    refine lv_goto (tgt := 68) hx hb dX6_sheet_88 (by decide) ?_
                    have e9 : I21 = shP (up3 (up3 J 23 0 kN so) 24 0 kN (if so < 0 then nI 0 else n0)) kN (i + 1) := by
                      subst eI21
                      exact shP_s _ _ _
                    have hW9 := hW
                    rw [e9] at hW9
                    exact ih68 (i + 1) (by omega) (by omega) _ _ hW9 hS _ (lv_sub hl [0, 1, 2, 3, 4] rfl)
              have e9 : I19 = shP (up3 (up3 J 23 0 kN so) 24 0 kN (if so < 0 then nI 0 else n0)) kN 0 := by
                subst eI19 eI14
                rw [shP_0, if_pos c56_14]
              have hW9 := hW
              rw [e9] at hW9
              exact K68 (40 + 1) (0) (by omega) (by omega) _ _ hW9 hS _ (lv_sub hl [0, 1, 2, 3, 4] rfl)
          · refine lv_bipush (v := (-14)) hx hb dX6_sheet_40 (by decide) ?_
            rw [hQ]
            exact g_iret (wd := wM G ad) hx hb hr rfl hlocks hW hS (by skip; have hA : ¬ (¬ so < 0 ∧ nI 40 < n0) := (fun q9 => by first | exact absurd (by assumption) q9.1 | exact absurd q9.2 (Int32.not_lt.mpr (by assumption))); refine ⟨?_, ?_⟩ <;> rw [if_pos (by simp [k_kN, c16_1]), if_neg hA, if_pos ⟨by assumption, Int32.not_le.mp (by assumption)⟩]) dX6_sheet_42
      · refine lv_iload_n hx hb dX6_sheet_23 rfl (lv_at hl 3 rfl) ?_
        refine lv_bipush (v := nI 40) hx hb dX6_sheet_24 (by decide) ?_
        refine lv_icmp_le (tgt := 32) hx hb dX6_sheet_26 (by decide) (fun c26_21 => ?_) (fun c26_21 => ?_)
        · refine lv_iload_n hx hb dX6_sheet_32 rfl (lv_at hl 2 rfl) ?_
          refine lv_if_lt (tgt := 43) hx hb dX6_sheet_33 (by decide) (fun c33_22 => ?_) (fun c33_22 => ?_)
          · refine lv_aload_n hx hb dX6_sheet_43 rfl (lv_at hl 0 rfl) ?_
            refine r_get hx hb hts hown hK hW 0 (0) 23 (mM (by decide) (by decide)) rfl rfl hinX6 (by decide) hf72 rfl rfl dX6_sheet_44 ?_
            refine lv_iload_n hx hb dX6_sheet_47 rfl (lv_at hl 1 rfl) ?_
            refine lv_iload_n hx hb dX6_sheet_48 rfl (lv_at hl 2 rfl) ?_
            refine rM_iast hx hb hK hI hW hS 23 (0) (kN) (by decide) (by decide) (by decide) (show kN < 4 by omega) rfl dX6_sheet_49 (fun I24 H locs eI24 hW hS => ?_)
            refine lv_aload_n hx hb dX6_sheet_50 rfl (lv_at hl 0 rfl) ?_
            refine r_get hx hb hts hown hK hW 0 (0) 24 (mM (by decide) (by decide)) rfl rfl hinX6 (by decide) hf75 rfl rfl dX6_sheet_51 ?_
            refine lv_iload_n hx hb dX6_sheet_54 rfl (lv_at hl 1 rfl) ?_
            refine lv_iload_n hx hb dX6_sheet_55 rfl (lv_at hl 2 rfl) ?_
            refine lv_if_ge (tgt := 63) hx hb dX6_sheet_56 (by decide) (fun c56_24 => ?_) (fun c56_24 => ?_)
            · refine lv_iload_n hx hb dX6_sheet_63 rfl (lv_at hl 3 rfl) ?_
              refine rM_iast hx hb hK hI hW hS 24 (0) (kN) (by decide) (by decide) (by decide) (show kN < 4 by omega) rfl dX6_sheet_64 (fun I26 H locs eI26 hW hS => ?_)
              refine lv_iconst (v := nI 0) hx hb dX6_sheet_65 (by decide) ?_
              refine lv_istore (lv' := [(4, .int (nI (0))), (0, .ref (ad 0 (0))), (1, .int (nI (kN))), (2, .int (so)), (3, .int (n0))]) hx hb dX6_sheet_66 hl (by decide) rfl (fun ls hl => ?_)
              have K68 : ∀ (n : Nat) (i : Nat), (i ≤ 40) → 40 < i + n → ∀ (H : Heap) (locs : List Loc), va_P D vwCl (wS LM ad (wM G ad (shP (up3 (up3 J 23 0 kN so) 24 0 kN (if so < 0 then nI 0 else n0)) kN i))) H → va_S (wA LM ad) s.heap H locs → ∀ (ls : Array Slot), lv_has ls 5 [(4, .int (nI (i))), (0, .ref (ad 0 (0))), (1, .int (nI (kN))), (2, .int (so)), (3, .int (n0))] → W p l e ({ frames := 2, cells := 0, slots := 0, locals := 45 } : Room) s m args below meth c H locs 0 0 Q (F0 m 68 ls []) := by
                intro n68
                induction n68 with
                | zero => intro i hi hfu; exact absurd hfu (by omega)
                | succ n68 ih68 =>
                  intro i hi hfu H locs hW hS ls hl
                  refine lv_iload hx hb dX6_sheet_68 (lv_at hl 0 rfl) ?_
                  refine lv_bipush (v := nI 40) hx hb dX6_sheet_70 (by decide) ?_
                  refine lv_icmp_ge (tgt := 91) hx hb dX6_sheet_72 (by decide) (fun c72_26 => ?_) (fun c72_26 => ?_)
                  · replace c72_26 : 40 ≤ i := (nI_leI (show 40 < 2147483648 by omega) (show i < 2147483648 by omega)).mp c72_26
                    refine lv_iconst (v := nI 1) hx hb dX6_sheet_91 (by decide) ?_
                    rw [hQ]
                    exact g_iret (wd := wM G ad) hx hb hr rfl hlocks hW hS (by have e4 : i = 40 := (by omega); subst e4; skip; have hA : ¬ (¬ so < 0 ∧ nI 40 < n0) := (fun q9 => by first | exact absurd (by assumption) q9.1 | exact absurd q9.2 (Int32.not_lt.mpr (by assumption))); have hB : ¬ (¬ so < 0 ∧ n0 < 0) := (fun q9 => by first | exact absurd (by assumption) q9.1 | exact absurd q9.2 (Int32.not_lt.mpr (by assumption))); refine ⟨by rw [if_pos (by simp [k_kN, c16_1]), if_neg hA, if_neg hB], ((if_pos (by simp [k_kN, c16_1])).trans ((if_neg hA).trans ((if_neg hB).trans ?_))).symm⟩; simp only [t_kN, shM]) dX6_sheet_92
                  · replace c72_26 : ¬ (40 ≤ i) := fun h => c72_26 ((nI_leI (show 40 < 2147483648 by omega) (show i < 2147483648 by omega)).mpr h)
                    refine lv_aload_n hx hb dX6_sheet_75 rfl (lv_at hl 1 rfl) ?_
                    refine r_get hx hb hts hown hK hW 0 (0) 25 (mM (by decide) (by decide)) rfl rfl hinX6 (by decide) hf78 rfl rfl dX6_sheet_76 ?_
                    refine lv_iload_n hx hb dX6_sheet_79 rfl (lv_at hl 2 rfl) ?_
                    refine r_aaldI hx hb hK hW 1 12 (kN) (mM (by decide) (by decide)) rfl (show kN < 4 by omega) (by decide) rfl rfl dX6_sheet_80 ?_
                    refine lv_iload hx hb dX6_sheet_81 (lv_at hl 0 rfl) ?_
                    refine lv_iconst (v := nI 0) hx hb dX6_sheet_83 (by decide) ?_
                    refine rM_iast hx hb hK hI hW hS 19 (kN) (i) (by decide) (by decide) (show kN < 4 by omega) (show i < 40 by omega) rfl dX6_sheet_84 (fun I28 H locs eI28 hW hS => ?_)
                    refine lv_iinc (v := nI (i + 1)) (lv' := [(4, .int (nI (i + 1))), (0, .ref (ad 0 (0))), (1, .int (nI (kN))), (2, .int (so)), (3, .int (n0))]) hx hb dX6_sheet_85 hl (k := 0) rfl (nI_inc i 1) (by decide) rfl (fun ls hl => ?_)
                    refine lv_goto (tgt := 68) hx hb dX6_sheet_88 (by decide) ?_
                    have e9 : I28 = shP (up3 (up3 J 23 0 kN so) 24 0 kN (if so < 0 then nI 0 else n0)) kN (i + 1) := by
                      subst eI28
                      exact shP_s _ _ _
                    have hW9 := hW
                    rw [e9] at hW9
                    exact ih68 (i + 1) (by omega) (by omega) _ _ hW9 hS _ (lv_sub hl [0, 1, 2, 3, 4] rfl)
              have e9 : I26 = shP (up3 (up3 J 23 0 kN so) 24 0 kN (if so < 0 then nI 0 else n0)) kN 0 := by
                subst eI26 eI24
                rw [shP_0, if_neg (Int32.not_lt.mpr c56_24)]
              have hW9 := hW
              rw [e9] at hW9
              exact K68 (40 + 1) (0) (by omega) (by omega) _ _ hW9 hS _ (lv_sub hl [0, 1, 2, 3, 4] rfl)
            · replace c56_24 := Int32.not_le.mp c56_24
              refine lv_iconst (v := nI 0) hx hb dX6_sheet_59 (by decide) ?_
              refine lv_goto (tgt := 64) hx hb dX6_sheet_60 (by decide) ?_
              refine rM_iast hx hb hK hI hW hS 24 (0) (kN) (by decide) (by decide) (by decide) (show kN < 4 by omega) rfl dX6_sheet_64 (fun I29 H locs eI29 hW hS => ?_)
              refine lv_iconst (v := nI 0) hx hb dX6_sheet_65 (by decide) ?_
              refine lv_istore (lv' := [(4, .int (nI (0))), (0, .ref (ad 0 (0))), (1, .int (nI (kN))), (2, .int (so)), (3, .int (n0))]) hx hb dX6_sheet_66 hl (by decide) rfl (fun ls hl => ?_)
              have K68 : ∀ (n : Nat) (i : Nat), (i ≤ 40) → 40 < i + n → ∀ (H : Heap) (locs : List Loc), va_P D vwCl (wS LM ad (wM G ad (shP (up3 (up3 J 23 0 kN so) 24 0 kN (if so < 0 then nI 0 else n0)) kN i))) H → va_S (wA LM ad) s.heap H locs → ∀ (ls : Array Slot), lv_has ls 5 [(4, .int (nI (i))), (0, .ref (ad 0 (0))), (1, .int (nI (kN))), (2, .int (so)), (3, .int (n0))] → W p l e ({ frames := 2, cells := 0, slots := 0, locals := 45 } : Room) s m args below meth c H locs 0 0 Q (F0 m 68 ls []) := by
                intro n68
                induction n68 with
                | zero => intro i hi hfu; exact absurd hfu (by omega)
                | succ n68 ih68 =>
                  intro i hi hfu H locs hW hS ls hl
                  refine lv_iload hx hb dX6_sheet_68 (lv_at hl 0 rfl) ?_
                  refine lv_bipush (v := nI 40) hx hb dX6_sheet_70 (by decide) ?_
                  refine lv_icmp_ge (tgt := 91) hx hb dX6_sheet_72 (by decide) (fun c72_29 => ?_) (fun c72_29 => ?_)
                  · replace c72_29 : 40 ≤ i := (nI_leI (show 40 < 2147483648 by omega) (show i < 2147483648 by omega)).mp c72_29
                    refine lv_iconst (v := nI 1) hx hb dX6_sheet_91 (by decide) ?_
                    rw [hQ]
                    exact g_iret (wd := wM G ad) hx hb hr rfl hlocks hW hS (by have e4 : i = 40 := (by omega); subst e4; skip; have hA : ¬ (¬ so < 0 ∧ nI 40 < n0) := (fun q9 => by first | exact absurd (by assumption) q9.1 | exact absurd q9.2 (Int32.not_lt.mpr (by assumption))); have hB : ¬ (¬ so < 0 ∧ n0 < 0) := (fun q9 => by first | exact absurd (by assumption) q9.1 | exact absurd q9.2 (Int32.not_lt.mpr (by assumption))); refine ⟨by rw [if_pos (by simp [k_kN, c16_1]), if_neg hA, if_neg hB], ((if_pos (by simp [k_kN, c16_1])).trans ((if_neg hA).trans ((if_neg hB).trans ?_))).symm⟩; simp only [t_kN, shM]) dX6_sheet_92
                  · replace c72_29 : ¬ (40 ≤ i) := fun h => c72_29 ((nI_leI (show 40 < 2147483648 by omega) (show i < 2147483648 by omega)).mpr h)
                    refine lv_aload_n hx hb dX6_sheet_75 rfl (lv_at hl 1 rfl) ?_
                    refine r_get hx hb hts hown hK hW 0 (0) 25 (mM (by decide) (by decide)) rfl rfl hinX6 (by decide) hf78 rfl rfl dX6_sheet_76 ?_
                    refine lv_iload_n hx hb dX6_sheet_79 rfl (lv_at hl 2 rfl) ?_
                    refine r_aaldI hx hb hK hW 1 12 (kN) (mM (by decide) (by decide)) rfl (show kN < 4 by omega) (by decide) rfl rfl dX6_sheet_80 ?_
                    refine lv_iload hx hb dX6_sheet_81 (lv_at hl 0 rfl) ?_
                    refine lv_iconst (v := nI 0) hx hb dX6_sheet_83 (by decide) ?_
                    refine rM_iast hx hb hK hI hW hS 19 (kN) (i) (by decide) (by decide) (show kN < 4 by omega) (show i < 40 by omega) rfl dX6_sheet_84 (fun I31 H locs eI31 hW hS => ?_)
                    refine lv_iinc (v := nI (i + 1)) (lv' := [(4, .int (nI (i + 1))), (0, .ref (ad 0 (0))), (1, .int (nI (kN))), (2, .int (so)), (3, .int (n0))]) hx hb dX6_sheet_85 hl (k := 0) rfl (nI_inc i 1) (by decide) rfl (fun ls hl => ?_)
                    refine lv_goto (tgt := 68) hx hb dX6_sheet_88 (by decide) ?_
                    have e9 : I31 = shP (up3 (up3 J 23 0 kN so) 24 0 kN (if so < 0 then nI 0 else n0)) kN (i + 1) := by
                      subst eI31
                      exact shP_s _ _ _
                    have hW9 := hW
                    rw [e9] at hW9
                    exact ih68 (i + 1) (by omega) (by omega) _ _ hW9 hS _ (lv_sub hl [0, 1, 2, 3, 4] rfl)
              have e9 : I29 = shP (up3 (up3 J 23 0 kN so) 24 0 kN (if so < 0 then nI 0 else n0)) kN 0 := by
                subst eI29 eI24
                rw [shP_0, if_pos c56_24]
              have hW9 := hW
              rw [e9] at hW9
              exact K68 (40 + 1) (0) (by omega) (by omega) _ _ hW9 hS _ (lv_sub hl [0, 1, 2, 3, 4] rfl)
          · refine lv_iload_n hx hb dX6_sheet_36 rfl (lv_at hl 3 rfl) ?_
            refine lv_if_ge (tgt := 43) hx hb dX6_sheet_37 (by decide) (fun c37_31 => ?_) (fun c37_31 => ?_)
            · refine lv_aload_n hx hb dX6_sheet_43 rfl (lv_at hl 0 rfl) ?_
              refine r_get hx hb hts hown hK hW 0 (0) 23 (mM (by decide) (by decide)) rfl rfl hinX6 (by decide) hf72 rfl rfl dX6_sheet_44 ?_
              refine lv_iload_n hx hb dX6_sheet_47 rfl (lv_at hl 1 rfl) ?_
              refine lv_iload_n hx hb dX6_sheet_48 rfl (lv_at hl 2 rfl) ?_
              refine rM_iast hx hb hK hI hW hS 23 (0) (kN) (by decide) (by decide) (by decide) (show kN < 4 by omega) rfl dX6_sheet_49 (fun I33 H locs eI33 hW hS => ?_)
              refine lv_aload_n hx hb dX6_sheet_50 rfl (lv_at hl 0 rfl) ?_
              refine r_get hx hb hts hown hK hW 0 (0) 24 (mM (by decide) (by decide)) rfl rfl hinX6 (by decide) hf75 rfl rfl dX6_sheet_51 ?_
              refine lv_iload_n hx hb dX6_sheet_54 rfl (lv_at hl 1 rfl) ?_
              refine lv_iload_n hx hb dX6_sheet_55 rfl (lv_at hl 2 rfl) ?_
              refine lv_if_ge (tgt := 63) hx hb dX6_sheet_56 (by decide) (fun c56_33 => ?_) (fun c56_33 => ?_)
              · refine lv_iload_n hx hb dX6_sheet_63 rfl (lv_at hl 3 rfl) ?_
                refine rM_iast hx hb hK hI hW hS 24 (0) (kN) (by decide) (by decide) (by decide) (show kN < 4 by omega) rfl dX6_sheet_64 (fun I35 H locs eI35 hW hS => ?_)
                refine lv_iconst (v := nI 0) hx hb dX6_sheet_65 (by decide) ?_
                refine lv_istore (lv' := [(4, .int (nI (0))), (0, .ref (ad 0 (0))), (1, .int (nI (kN))), (2, .int (so)), (3, .int (n0))]) hx hb dX6_sheet_66 hl (by decide) rfl (fun ls hl => ?_)
                have K68 : ∀ (n : Nat) (i : Nat), (i ≤ 40) → 40 < i + n → ∀ (H : Heap) (locs : List Loc), va_P D vwCl (wS LM ad (wM G ad (shP (up3 (up3 J 23 0 kN so) 24 0 kN (if so < 0 then nI 0 else n0)) kN i))) H → va_S (wA LM ad) s.heap H locs → ∀ (ls : Array Slot), lv_has ls 5 [(4, .int (nI (i))), (0, .ref (ad 0 (0))), (1, .int (nI (kN))), (2, .int (so)), (3, .int (n0))] → W p l e ({ frames := 2, cells := 0, slots := 0, locals := 45 } : Room) s m args below meth c H locs 0 0 Q (F0 m 68 ls []) := by
                  intro n68
                  induction n68 with
                  | zero => intro i hi hfu; exact absurd hfu (by omega)
                  | succ n68 ih68 =>
                    intro i hi hfu H locs hW hS ls hl
                    refine lv_iload hx hb dX6_sheet_68 (lv_at hl 0 rfl) ?_
                    refine lv_bipush (v := nI 40) hx hb dX6_sheet_70 (by decide) ?_
                    refine lv_icmp_ge (tgt := 91) hx hb dX6_sheet_72 (by decide) (fun c72_35 => ?_) (fun c72_35 => ?_)
                    · replace c72_35 : 40 ≤ i := (nI_leI (show 40 < 2147483648 by omega) (show i < 2147483648 by omega)).mp c72_35
                      refine lv_iconst (v := nI 1) hx hb dX6_sheet_91 (by decide) ?_
                      rw [hQ]
                      exact g_iret (wd := wM G ad) hx hb hr rfl hlocks hW hS (by have e4 : i = 40 := (by omega); subst e4; skip; have hA : ¬ (¬ so < 0 ∧ nI 40 < n0) := (fun q9 => by first | exact absurd (by assumption) q9.1 | exact absurd q9.2 (Int32.not_lt.mpr (by assumption))); have hB : ¬ (¬ so < 0 ∧ n0 < 0) := (fun q9 => by first | exact absurd (by assumption) q9.1 | exact absurd q9.2 (Int32.not_lt.mpr (by assumption))); refine ⟨by rw [if_pos (by simp [k_kN, c16_1]), if_neg hA, if_neg hB], ((if_pos (by simp [k_kN, c16_1])).trans ((if_neg hA).trans ((if_neg hB).trans ?_))).symm⟩; simp only [t_kN, shM]) dX6_sheet_92
                    · replace c72_35 : ¬ (40 ≤ i) := fun h => c72_35 ((nI_leI (show 40 < 2147483648 by omega) (show i < 2147483648 by omega)).mpr h)
                      refine lv_aload_n hx hb dX6_sheet_75 rfl (lv_at hl 1 rfl) ?_
                      refine r_get hx hb hts hown hK hW 0 (0) 25 (mM (by decide) (by decide)) rfl rfl hinX6 (by decide) hf78 rfl rfl dX6_sheet_76 ?_
                      refine lv_iload_n hx hb dX6_sheet_79 rfl (lv_at hl 2 rfl) ?_
                      refine r_aaldI hx hb hK hW 1 12 (kN) (mM (by decide) (by decide)) rfl (show kN < 4 by omega) (by decide) rfl rfl dX6_sheet_80 ?_
                      refine lv_iload hx hb dX6_sheet_81 (lv_at hl 0 rfl) ?_
                      refine lv_iconst (v := nI 0) hx hb dX6_sheet_83 (by decide) ?_
                      refine rM_iast hx hb hK hI hW hS 19 (kN) (i) (by decide) (by decide) (show kN < 4 by omega) (show i < 40 by omega) rfl dX6_sheet_84 (fun I37 H locs eI37 hW hS => ?_)
                      refine lv_iinc (v := nI (i + 1)) (lv' := [(4, .int (nI (i + 1))), (0, .ref (ad 0 (0))), (1, .int (nI (kN))), (2, .int (so)), (3, .int (n0))]) hx hb dX6_sheet_85 hl (k := 0) rfl (nI_inc i 1) (by decide) rfl (fun ls hl => ?_)
                      refine lv_goto (tgt := 68) hx hb dX6_sheet_88 (by decide) ?_
                      have e9 : I37 = shP (up3 (up3 J 23 0 kN so) 24 0 kN (if so < 0 then nI 0 else n0)) kN (i + 1) := by
                        subst eI37
                        exact shP_s _ _ _
                      have hW9 := hW
                      rw [e9] at hW9
                      exact ih68 (i + 1) (by omega) (by omega) _ _ hW9 hS _ (lv_sub hl [0, 1, 2, 3, 4] rfl)
                have e9 : I35 = shP (up3 (up3 J 23 0 kN so) 24 0 kN (if so < 0 then nI 0 else n0)) kN 0 := by
                  subst eI35 eI33
                  rw [shP_0, if_neg (Int32.not_lt.mpr c56_33)]
                have hW9 := hW
                rw [e9] at hW9
                exact K68 (40 + 1) (0) (by omega) (by omega) _ _ hW9 hS _ (lv_sub hl [0, 1, 2, 3, 4] rfl)
              · replace c56_33 := Int32.not_le.mp c56_33
                refine lv_iconst (v := nI 0) hx hb dX6_sheet_59 (by decide) ?_
                refine lv_goto (tgt := 64) hx hb dX6_sheet_60 (by decide) ?_
                refine rM_iast hx hb hK hI hW hS 24 (0) (kN) (by decide) (by decide) (by decide) (show kN < 4 by omega) rfl dX6_sheet_64 (fun I38 H locs eI38 hW hS => ?_)
                refine lv_iconst (v := nI 0) hx hb dX6_sheet_65 (by decide) ?_
                refine lv_istore (lv' := [(4, .int (nI (0))), (0, .ref (ad 0 (0))), (1, .int (nI (kN))), (2, .int (so)), (3, .int (n0))]) hx hb dX6_sheet_66 hl (by decide) rfl (fun ls hl => ?_)
                have K68 : ∀ (n : Nat) (i : Nat), (i ≤ 40) → 40 < i + n → ∀ (H : Heap) (locs : List Loc), va_P D vwCl (wS LM ad (wM G ad (shP (up3 (up3 J 23 0 kN so) 24 0 kN (if so < 0 then nI 0 else n0)) kN i))) H → va_S (wA LM ad) s.heap H locs → ∀ (ls : Array Slot), lv_has ls 5 [(4, .int (nI (i))), (0, .ref (ad 0 (0))), (1, .int (nI (kN))), (2, .int (so)), (3, .int (n0))] → W p l e ({ frames := 2, cells := 0, slots := 0, locals := 45 } : Room) s m args below meth c H locs 0 0 Q (F0 m 68 ls []) := by
                  intro n68
                  induction n68 with
                  | zero => intro i hi hfu; exact absurd hfu (by omega)
                  | succ n68 ih68 =>
                    intro i hi hfu H locs hW hS ls hl
                    refine lv_iload hx hb dX6_sheet_68 (lv_at hl 0 rfl) ?_
                    refine lv_bipush (v := nI 40) hx hb dX6_sheet_70 (by decide) ?_
                    refine lv_icmp_ge (tgt := 91) hx hb dX6_sheet_72 (by decide) (fun c72_38 => ?_) (fun c72_38 => ?_)
                    · replace c72_38 : 40 ≤ i := (nI_leI (show 40 < 2147483648 by omega) (show i < 2147483648 by omega)).mp c72_38
                      refine lv_iconst (v := nI 1) hx hb dX6_sheet_91 (by decide) ?_
                      rw [hQ]
                      exact g_iret (wd := wM G ad) hx hb hr rfl hlocks hW hS (by have e4 : i = 40 := (by omega); subst e4; skip; have hA : ¬ (¬ so < 0 ∧ nI 40 < n0) := (fun q9 => by first | exact absurd (by assumption) q9.1 | exact absurd q9.2 (Int32.not_lt.mpr (by assumption))); have hB : ¬ (¬ so < 0 ∧ n0 < 0) := (fun q9 => by first | exact absurd (by assumption) q9.1 | exact absurd q9.2 (Int32.not_lt.mpr (by assumption))); refine ⟨by rw [if_pos (by simp [k_kN, c16_1]), if_neg hA, if_neg hB], ((if_pos (by simp [k_kN, c16_1])).trans ((if_neg hA).trans ((if_neg hB).trans ?_))).symm⟩; simp only [t_kN, shM]) dX6_sheet_92
                    · replace c72_38 : ¬ (40 ≤ i) := fun h => c72_38 ((nI_leI (show 40 < 2147483648 by omega) (show i < 2147483648 by omega)).mpr h)
                      refine lv_aload_n hx hb dX6_sheet_75 rfl (lv_at hl 1 rfl) ?_
                      refine r_get hx hb hts hown hK hW 0 (0) 25 (mM (by decide) (by decide)) rfl rfl hinX6 (by decide) hf78 rfl rfl dX6_sheet_76 ?_
                      refine lv_iload_n hx hb dX6_sheet_79 rfl (lv_at hl 2 rfl) ?_
                      refine r_aaldI hx hb hK hW 1 12 (kN) (mM (by decide) (by decide)) rfl (show kN < 4 by omega) (by decide) rfl rfl dX6_sheet_80 ?_
                      refine lv_iload hx hb dX6_sheet_81 (lv_at hl 0 rfl) ?_
                      refine lv_iconst (v := nI 0) hx hb dX6_sheet_83 (by decide) ?_
                      refine rM_iast hx hb hK hI hW hS 19 (kN) (i) (by decide) (by decide) (show kN < 4 by omega) (show i < 40 by omega) rfl dX6_sheet_84 (fun I40 H locs eI40 hW hS => ?_)
                      refine lv_iinc (v := nI (i + 1)) (lv' := [(4, .int (nI (i + 1))), (0, .ref (ad 0 (0))), (1, .int (nI (kN))), (2, .int (so)), (3, .int (n0))]) hx hb dX6_sheet_85 hl (k := 0) rfl (nI_inc i 1) (by decide) rfl (fun ls hl => ?_)
                      refine lv_goto (tgt := 68) hx hb dX6_sheet_88 (by decide) ?_
                      have e9 : I40 = shP (up3 (up3 J 23 0 kN so) 24 0 kN (if so < 0 then nI 0 else n0)) kN (i + 1) := by
                        subst eI40
                        exact shP_s _ _ _
                      have hW9 := hW
                      rw [e9] at hW9
                      exact ih68 (i + 1) (by omega) (by omega) _ _ hW9 hS _ (lv_sub hl [0, 1, 2, 3, 4] rfl)
                have e9 : I38 = shP (up3 (up3 J 23 0 kN so) 24 0 kN (if so < 0 then nI 0 else n0)) kN 0 := by
                  subst eI38 eI33
                  rw [shP_0, if_pos c56_33]
                have hW9 := hW
                rw [e9] at hW9
                exact K68 (40 + 1) (0) (by omega) (by omega) _ _ hW9 hS _ (lv_sub hl [0, 1, 2, 3, 4] rfl)
            · refine lv_bipush (v := (-14)) hx hb dX6_sheet_40 (by decide) ?_
              rw [hQ]
              exact g_iret (wd := wM G ad) hx hb hr rfl hlocks hW hS (by skip; have hA : ¬ (¬ so < 0 ∧ nI 40 < n0) := (fun q9 => by first | exact absurd (by assumption) q9.1 | exact absurd q9.2 (Int32.not_lt.mpr (by assumption))); refine ⟨?_, ?_⟩ <;> rw [if_pos (by simp [k_kN, c16_1]), if_neg hA, if_pos ⟨by assumption, Int32.not_le.mp (by assumption)⟩]) dX6_sheet_42
        · refine lv_bipush (v := (-2)) hx hb dX6_sheet_29 (by decide) ?_
          rw [hQ]
          exact g_iret (wd := wM G ad) hx hb hr rfl hlocks hW hS (by skip; refine ⟨?_, ?_⟩ <;> rw [if_pos (by simp [k_kN, c16_1]), if_pos ⟨by assumption, Int32.not_le.mp (by assumption)⟩]) dX6_sheet_31

set_option maxHeartbeats 4000000 in
set_option maxRecDepth 100000 in
theorem c_X6_refusal (l : Launch) (D : va_G) (G : Nat → ClassId) (ad : Nat → Nat → Nat) (hI : wI LM ad) (J : St) (a b : Int32) (hSh : okS (V J)) : Met l yX6_refusal wsX6_refusal ({ frames := 2, cells := 0, slots := 0, locals := 45 } : Room) (gPre D G LM ad [.ref (ad 0 (0)), .int (a), .int (b)] (wM G ad J)) (gQi D LM ad (wM G ad) (fun r9 u => r9 = rfM J a b ∧ u = J)) 0 0 (wA LM ad) := by
  refine g_entry (C := RX6) (cc := cX6_refusal) (maxL := 3) (ret := (some .int)) rfl (by decide) rfl (Nat.le_of_ble_eq_true rfl) (fun p e s m args below meth c Q ls hQ hx hb hr hts hown hlocks hml hW hK hl => ?_)
  have hl : lv_has ls 3 [(0, .ref (ad 0 (0))), (1, .int (a)), (2, .int (b))] := hl
  have hS := va_S.rf (A := wA LM ad) (H0 := s.heap)
  have hinX6 : ∀ w ∈ wsX60, w ∈ wsX6_refusal := by decide +kernel
  have hf72 := hts (.fieldLink RX6 72 "JoinedStoresModel" "sorts" "[I") (by decide +kernel)
  have hf75 := hts (.fieldLink RX6 75 "JoinedStoresModel" "lengths" "[I") (by decide +kernel)
  refine lv_iload_n hx hb dX6_refusal_0 rfl (lv_at hl 1 rfl) ?_
  refine g_pi (va_runS (As := [.int (a)]) (rest := []) ⟨hx, hb, hml, hown, hts⟩ (c_X6_isSheet l a) (va_cwS 1 hts gX6_refusal_X6_isSheet rfl rfl rfl (by decide +kernel) ⟨Nat.le_of_ble_eq_true rfl, Nat.le_of_ble_eq_true rfl⟩) p_preS rfl rfl hl.1 rfl (lv_room (Nat.le_of_ble_eq_true rfl)) dX6_refusal_1 ⟨Nat.le_refl _, Nat.le_refl _⟩) hW hS (fun H locs hW hS => ?_)
  refine lv_if_ne (tgt := 10) hx hb dX6_refusal_4 (by decide) (fun c4_0 => ?_) (fun c4_0 => ?_)
  · replace c4_0 := bI_1.mp c4_0
    obtain ⟨aN, haN, eaN⟩ := okN_nI (k := 4) (by decide) c4_0
    subst eaN
    have t_aN : tn (nI aN) = aN := tn_nI (by omega)
    have k_aN : okN (nI 4) (nI aN) = true := okN_of (by decide) haN
    refine lv_aload_n hx hb dX6_refusal_10 rfl (lv_at hl 0 rfl) ?_
    refine r_get hx hb hts hown hK hW 0 (0) 23 (mM (by decide) (by decide)) rfl rfl hinX6 (by decide) hf72 rfl rfl dX6_refusal_11 ?_
    refine lv_iload_n hx hb dX6_refusal_14 rfl (lv_at hl 1 rfl) ?_
    refine rM_iald hx hb hK hW 23 (0) (aN) (by decide) (by decide) (by decide) (show aN < 4 by omega) rfl dX6_refusal_15 (fun x2 ex2 => ?_)
    refine lv_if_ge (tgt := 22) hx hb dX6_refusal_16 (by decide) (fun c16_2 => ?_) (fun c16_2 => ?_)
    · refine lv_iload_n hx hb dX6_refusal_22 rfl (lv_at hl 2 rfl) ?_
      refine lv_i2l hx hb dX6_refusal_23 rfl ?_
      refine lv_lconst (v := lN 0) hx hb dX6_refusal_24 (by decide) ?_
      refine lv_aload_n hx hb dX6_refusal_25 rfl (lv_at hl 0 rfl) ?_
      refine r_get hx hb hts hown hK hW 0 (0) 24 (mM (by decide) (by decide)) rfl rfl hinX6 (by decide) hf75 rfl rfl dX6_refusal_26 ?_
      refine lv_iload_n hx hb dX6_refusal_29 rfl (lv_at hl 1 rfl) ?_
      refine rM_iald hx hb hK hW 24 (0) (aN) (by decide) (by decide) (by decide) (show aN < 4 by omega) rfl dX6_refusal_30 (fun x4 ex4 => ?_)
      have hs40 := (hSh aN (by omega)).2
      refine r_top (show x4 = nI (sl (V J) aN) from (ex4.trans (hSh aN (by omega)).1)) ?_
      refine lv_iconst (v := nI 1) hx hb dX6_refusal_31 (by decide) ?_
      refine lv_isub hx hb dX6_refusal_32 (lv_topi (fun x5 ex5 => ?_))
      refine lv_i2l hx hb dX6_refusal_33 rfl ?_
      refine g_pi (va_runS (As := [.long (b.toInt64), .long (lN 0), .long (x5.toInt64)]) (rest := []) ⟨hx, hb, hml, hown, hts⟩ (c_X6_inB l b.toInt64 (lN 0) x5.toInt64 (okN (nI (sl (V J) aN)) b) (inL_N (k := sl (V J) aN) (by omega) (by rw [ex5]; exact dec_toInt64 (by omega)) _)) (va_cwS 3 hts gX6_refusal_X6_in rfl rfl rfl (by decide +kernel) ⟨Nat.le_of_ble_eq_true rfl, Nat.le_of_ble_eq_true rfl⟩) p_preS rfl rfl hl.1 rfl (lv_room (Nat.le_of_ble_eq_true rfl)) dX6_refusal_34 ⟨Nat.le_refl _, Nat.le_refl _⟩) hW hS (fun H locs hW hS => ?_)
      refine lv_if_eq (tgt := 44) hx hb dX6_refusal_37 (by decide) (fun c37_5 => ?_) (fun c37_5 => ?_)
      · replace c37_5 := bI_0.mp c37_5
        try simp only [decide_eq_true_eq, decide_eq_false_iff_not] at c37_5
        refine lv_bipush (v := (-12)) hx hb dX6_refusal_44 (by decide) ?_
        rw [hQ]
        exact g_iret (wd := wM G ad) hx hb hr rfl hlocks hW hS (by subst ex5 ex4 ex2; refine ⟨?_, rfl⟩; rw [rfM]; rw [if_pos (by simp [k_aN, c37_5])]; simp only [t_aN]; rw [if_neg (Int32.not_lt.mpr (by assumption)), show J 24 0 aN = nI (sl (V J) aN) from (hSh aN (by omega)).1]; simp [k_aN, c37_5, nI_0]) dX6_refusal_46
      · replace c37_5 := bI_1.mp c37_5
        try simp only [decide_eq_true_eq, decide_eq_false_iff_not] at c37_5
        refine lv_iconst (v := nI 0) hx hb dX6_refusal_40 (by decide) ?_
        refine lv_goto (tgt := 46) hx hb dX6_refusal_41 (by decide) ?_
        rw [hQ]
        exact g_iret (wd := wM G ad) hx hb hr rfl hlocks hW hS (by subst ex5 ex4 ex2; refine ⟨?_, rfl⟩; rw [rfM]; rw [if_pos (by simp [k_aN, c37_5])]; simp only [t_aN]; rw [if_neg (Int32.not_lt.mpr (by assumption)), show J 24 0 aN = nI (sl (V J) aN) from (hSh aN (by omega)).1]; simp [k_aN, c37_5, nI_0]) dX6_refusal_46
    · refine lv_bipush (v := (-11)) hx hb dX6_refusal_19 (by decide) ?_
      rw [hQ]
      exact g_iret (wd := wM G ad) hx hb hr rfl hlocks hW hS (by subst ex2; refine ⟨?_, rfl⟩; rw [rfM]; rw [if_pos (by simp [k_aN])]; simp only [t_aN]; rw [if_pos (Int32.not_le.mp (by assumption))]) dX6_refusal_21
  · replace c4_0 := bI_0.mp c4_0
    try simp only [decide_eq_true_eq, decide_eq_false_iff_not] at c4_0
    refine lv_bipush (v := (-2)) hx hb dX6_refusal_7 (by decide) ?_
    rw [hQ]
    exact g_iret (wd := wM G ad) hx hb hr rfl hlocks hW hS (by skip; refine ⟨?_, rfl⟩; rw [rfM]; rw [if_neg (by simp [c4_0])]) dX6_refusal_9

set_option maxHeartbeats 4000000 in
set_option maxRecDepth 100000 in
theorem c_X6_put (l : Launch) (D : va_G) (G : Nat → ClassId) (ad : Nat → Nat → Nat) (hI : wI LM ad) (J : St) (k j v : Int32) (hSh : okS (V J)) : Met l yX6_put wsX6_put ({ frames := 3, cells := 0, slots := 0, locals := 80 } : Room) (gPre D G LM ad [.ref (ad 0 (0)), .int (k), .int (j), .int (v)] (wM G ad J)) (gQi D LM ad (wM G ad) (fun r9 u => r9 = (if rfM J k j = 0 then nI 1 else rfM J k j) ∧ u = (if rfM J k j = 0 then up3 J 19 (tn k) (tn j) (ptM J (tn k) v) else J))) 0 0 (wA LM ad) := by
  refine g_entry (C := RX6) (cc := cX6_put) (maxL := 5) (ret := (some .int)) rfl (by decide) rfl (Nat.le_of_ble_eq_true rfl) (fun p e s m args below meth c Q ls hQ hx hb hr hts hown hlocks hml hW hK hl => ?_)
  have hl : lv_has ls 5 [(0, .ref (ad 0 (0))), (1, .int (k)), (2, .int (j)), (3, .int (v))] := hl
  have hS := va_S.rf (A := wA LM ad) (H0 := s.heap)
  have hinX6 : ∀ w ∈ wsX60, w ∈ wsX6_put := by decide +kernel
  have hf72 := hts (.fieldLink RX6 72 "JoinedStoresModel" "sorts" "[I") (by decide +kernel)
  have hf78 := hts (.fieldLink RX6 78 "JoinedStoresModel" "items" "[[I") (by decide +kernel)
  refine lv_aload_n hx hb dX6_put_0 rfl (lv_at hl 0 rfl) ?_
  refine lv_iload_n hx hb dX6_put_1 rfl (lv_at hl 1 rfl) ?_
  refine lv_iload_n hx hb dX6_put_2 rfl (lv_at hl 2 rfl) ?_
  refine g_ci (va_runV (As := [.int (k), .int (j)]) (rest := []) ⟨hx, hb, hml, hown, hts⟩ (c_X6_refusal l D G ad hI J k j hSh) (cwV 2 hts gX6_put_X6_refusal rfl rfl rfl (by decide +kernel) ⟨Nat.le_of_ble_eq_true rfl, Nat.le_of_ble_eq_true rfl⟩) (g_preV hK hW 0 (0) (mM (by decide) (by decide)) rfl rfl) rfl rfl hl.1 rfl (lv_room (Nat.le_of_ble_eq_true rfl)) dX6_put_3 ⟨Nat.le_refl _, Nat.le_refl _⟩) hS (fun x1 I1 H locs hp hW hS => ?_)
  obtain ⟨ex1, eI1⟩ := hp
  rw [eI1] at hW
  clear eI1
  refine lv_istore (lv' := [(4, .int (x1)), (0, .ref (ad 0 (0))), (1, .int (k)), (2, .int (j)), (3, .int (v))]) hx hb dX6_put_6 hl (by decide) rfl (fun ls hl => ?_)
  refine lv_iload hx hb dX6_put_8 (lv_at hl 0 rfl) ?_
  refine lv_if_eq (tgt := 16) hx hb dX6_put_10 (by decide) (fun c10_1 => ?_) (fun c10_1 => ?_)
  · obtain ⟨kN, jN, hkN, ek, hns, ej, hjl, hl40⟩ := rfM_0 hSh (ex1.symm.trans c10_1)
    subst ek
    subst ej
    have t_kN : tn (nI kN) = kN := tn_nI (by omega)
    have t_jN : tn (nI jN) = jN := tn_nI (by omega)
    refine lv_aload_n hx hb dX6_put_16 rfl (lv_at hl 1 rfl) ?_
    refine r_get hx hb hts hown hK hW 0 (0) 25 (mM (by decide) (by decide)) rfl rfl hinX6 (by decide) hf78 rfl rfl dX6_put_17 ?_
    refine lv_iload_n hx hb dX6_put_20 rfl (lv_at hl 2 rfl) ?_
    refine r_aaldI hx hb hK hW 1 12 (kN) (mM (by decide) (by decide)) rfl (show kN < 4 by omega) (by decide) rfl rfl dX6_put_21 ?_
    refine lv_iload_n hx hb dX6_put_22 rfl (lv_at hl 3 rfl) ?_
    refine lv_aload_n hx hb dX6_put_23 rfl (lv_at hl 1 rfl) ?_
    refine r_get hx hb hts hown hK hW 0 (0) 23 (mM (by decide) (by decide)) rfl rfl hinX6 (by decide) hf72 rfl rfl dX6_put_24 ?_
    refine lv_iload_n hx hb dX6_put_27 rfl (lv_at hl 2 rfl) ?_
    refine rM_iald hx hb hK hW 23 (0) (kN) (by decide) (by decide) (by decide) (show kN < 4 by omega) rfl dX6_put_28 (fun x3 ex3 => ?_)
    refine lv_if_ne (tgt := 36) hx hb dX6_put_29 (by decide) (fun c29_3 => ?_) (fun c29_3 => ?_)
    · refine lv_iload_n hx hb dX6_put_36 rfl (lv_at hl 4 rfl) ?_
      refine lv_i2f hx hb dX6_put_37 ?_
      refine lv_ldcf (v := (1090519040)) hx hb hown (hts (.constantFloat RX6 251 (1090519040)) (by decide +kernel)) dX6_put_38 ?_
      refine lv_fdiv hx hb dX6_put_40 (okF_nn (okF_d8 v)) ?_
      refine g_pi (va_runS (As := [.float (FP.fdiv (FP.i2f v) 1090519040)]) (rest := [.int (nI (jN)), .ref (ad 19 (kN))]) ⟨hx, hb, hml, hown, hts⟩ (c_Jxf58ca_floatToIntBits_5c35a l (FP.fdiv (FP.i2f v) 1090519040) (okF_d8 v)) (va_cwS 1 hts gX6_put_Jxf58ca_floatToIntBits_5c35a rfl rfl rfl (by decide +kernel) ⟨Nat.le_of_ble_eq_true rfl, Nat.le_of_ble_eq_true rfl⟩) p_preS rfl rfl hl.1 rfl (lv_room (Nat.le_of_ble_eq_true rfl)) dX6_put_41 ⟨Nat.le_refl _, Nat.le_refl _⟩) hW hS (fun H locs hW hS => ?_)
      refine rM_iast hx hb hK hI hW hS 19 (kN) (jN) (by decide) (by decide) (show kN < 4 by omega) (show jN < 40 by omega) rfl dX6_put_44 (fun I5 H locs eI5 hW hS => ?_)
      refine lv_iconst (v := nI 1) hx hb dX6_put_45 (by decide) ?_
      rw [hQ]
      exact g_iret (wd := wM G ad) hx hb hr rfl hlocks hW hS (by subst eI5 ex3 ex1; refine ⟨?_, ?_⟩ <;> rw [if_pos (by assumption)]; simp only [t_kN, t_jN, ptM]; first | rw [if_pos (by assumption)] | rw [if_neg (by assumption)]) dX6_put_46
    · refine lv_iload_n hx hb dX6_put_32 rfl (lv_at hl 4 rfl) ?_
      refine lv_goto (tgt := 44) hx hb dX6_put_33 (by decide) ?_
      refine rM_iast hx hb hK hI hW hS 19 (kN) (jN) (by decide) (by decide) (show kN < 4 by omega) (show jN < 40 by omega) rfl dX6_put_44 (fun I6 H locs eI6 hW hS => ?_)
      refine lv_iconst (v := nI 1) hx hb dX6_put_45 (by decide) ?_
      rw [hQ]
      exact g_iret (wd := wM G ad) hx hb hr rfl hlocks hW hS (by subst eI6 ex3 ex1; refine ⟨?_, ?_⟩ <;> rw [if_pos (by assumption)]; simp only [t_kN, t_jN, ptM]; first | rw [if_pos (by assumption)] | rw [if_neg (by assumption)]) dX6_put_46
  · refine lv_iload hx hb dX6_put_13 (lv_at hl 0 rfl) ?_
    rw [hQ]
    exact g_iret (wd := wM G ad) hx hb hr rfl hlocks hW hS (by subst ex1; refine ⟨?_, ?_⟩ <;> rw [if_neg (by assumption)]) dX6_put_15

set_option maxHeartbeats 4000000 in
set_option maxRecDepth 100000 in
theorem c_X6_item (l : Launch) (D : va_G) (G : Nat → ClassId) (ad : Nat → Nat → Nat) (hI : wI LM ad) (J : St) (k j : Int32) (hSh : okS (V J)) : Met l yX6_item wsX6_item ({ frames := 3, cells := 0, slots := 0, locals := 67 } : Room) (gPre D G LM ad [.ref (ad 0 (0)), .int (k), .int (j)] (wM G ad J)) (gQl D LM ad (wM G ad) (fun r9 u => r9 = (if rfM J k j = 0 then (J 19 (tn k) (tn j)).toInt64 else (rfM J k j).toInt64 - 1000000000000) ∧ u = J)) 0 0 (wA LM ad) := by
  refine g_entry (C := RX6) (cc := cX6_item) (maxL := 4) (ret := (some .long)) rfl (by decide) rfl (Nat.le_of_ble_eq_true rfl) (fun p e s m args below meth c Q ls hQ hx hb hr hts hown hlocks hml hW hK hl => ?_)
  have hl : lv_has ls 4 [(0, .ref (ad 0 (0))), (1, .int (k)), (2, .int (j))] := hl
  have hS := va_S.rf (A := wA LM ad) (H0 := s.heap)
  have hinX6 : ∀ w ∈ wsX60, w ∈ wsX6_item := by decide +kernel
  have hf78 := hts (.fieldLink RX6 78 "JoinedStoresModel" "items" "[[I") (by decide +kernel)
  refine lv_aload_n hx hb dX6_item_0 rfl (lv_at hl 0 rfl) ?_
  refine lv_iload_n hx hb dX6_item_1 rfl (lv_at hl 1 rfl) ?_
  refine lv_iload_n hx hb dX6_item_2 rfl (lv_at hl 2 rfl) ?_
  refine g_ci (va_runV (As := [.int (k), .int (j)]) (rest := []) ⟨hx, hb, hml, hown, hts⟩ (c_X6_refusal l D G ad hI J k j hSh) (cwV 2 hts gX6_item_X6_refusal rfl rfl rfl (by decide +kernel) ⟨Nat.le_of_ble_eq_true rfl, Nat.le_of_ble_eq_true rfl⟩) (g_preV hK hW 0 (0) (mM (by decide) (by decide)) rfl rfl) rfl rfl hl.1 rfl (lv_room (Nat.le_of_ble_eq_true rfl)) dX6_item_3 ⟨Nat.le_refl _, Nat.le_refl _⟩) hS (fun x1 I1 H locs hp hW hS => ?_)
  obtain ⟨ex1, eI1⟩ := hp
  rw [eI1] at hW
  clear eI1
  refine lv_istore_n (lv' := [(3, .int (x1)), (0, .ref (ad 0 (0))), (1, .int (k)), (2, .int (j))]) hx hb dX6_item_6 rfl hl (by decide) rfl (fun ls hl => ?_)
  refine lv_iload_n hx hb dX6_item_7 rfl (lv_at hl 0 rfl) ?_
  refine lv_if_eq (tgt := 18) hx hb dX6_item_8 (by decide) (fun c8_1 => ?_) (fun c8_1 => ?_)
  · obtain ⟨kN, jN, hkN, ek, hns, ej, hjl, hl40⟩ := rfM_0 hSh (ex1.symm.trans c8_1)
    subst ek
    subst ej
    have t_kN : tn (nI kN) = kN := tn_nI (by omega)
    have t_jN : tn (nI jN) = jN := tn_nI (by omega)
    refine lv_aload_n hx hb dX6_item_18 rfl (lv_at hl 1 rfl) ?_
    refine r_get hx hb hts hown hK hW 0 (0) 25 (mM (by decide) (by decide)) rfl rfl hinX6 (by decide) hf78 rfl rfl dX6_item_19 ?_
    refine lv_iload_n hx hb dX6_item_22 rfl (lv_at hl 2 rfl) ?_
    refine r_aaldI hx hb hK hW 1 12 (kN) (mM (by decide) (by decide)) rfl (show kN < 4 by omega) (by decide) rfl rfl dX6_item_23 ?_
    refine lv_iload_n hx hb dX6_item_24 rfl (lv_at hl 3 rfl) ?_
    refine rM_iald hx hb hK hW 19 (kN) (jN) (by decide) (by decide) (show kN < 4 by omega) (show jN < 40 by omega) rfl dX6_item_25 (fun x3 ex3 => ?_)
    refine lv_i2l hx hb dX6_item_26 rfl ?_
    rw [hQ]
    exact g_lret (wd := wM G ad) hx hb hr hlocks hW hS (by subst ex3 ex1; refine ⟨?_, rfl⟩; rw [if_pos (by assumption)]; simp only [t_kN, t_jN]) dX6_item_27
  · refine lv_iload_n hx hb dX6_item_11 rfl (lv_at hl 0 rfl) ?_
    refine g_pl (va_runS (As := [.int (x1)]) (rest := []) ⟨hx, hb, hml, hown, hts⟩ (c_X6_asLong l x1) (va_cwS 1 hts gX6_item_X6_asLong rfl rfl rfl (by decide +kernel) ⟨Nat.le_of_ble_eq_true rfl, Nat.le_of_ble_eq_true rfl⟩) p_preS rfl rfl hl.1 rfl (lv_room (Nat.le_of_ble_eq_true rfl)) dX6_item_12 ⟨Nat.le_refl _, Nat.le_refl _⟩) hW hS (fun H locs hW hS => ?_)
    refine lv_goto (tgt := 27) hx hb dX6_item_15 (by decide) ?_
    rw [hQ]
    exact g_lret (wd := wM G ad) hx hb hr hlocks hW hS (by subst ex1; refine ⟨?_, rfl⟩; rw [if_neg (by assumption)]) dX6_item_27

set_option maxHeartbeats 4000000 in
set_option maxRecDepth 100000 in
theorem c_X6_copy (l : Launch) (D : va_G) (G : Nat → ClassId) (ad : Nat → Nat → Nat) (hI : wI LM ad) (J : St) (k i o j n0 : Int32) (hSh : okS (V J)) : Met l yX6_copy wsX6_copy ({ frames := 2, cells := 0, slots := 0, locals := 64 } : Room) (gPre D G LM ad [.ref (ad 0 (0)), .int (k), .int (i), .int (o), .int (j), .int (n0)] (wM G ad J)) (gQi D LM ad (wM G ad) (fun r9 u => r9 = (if (okN (nI 4) k && okN (nI 4) o) = true then cprM J (tn k) i (tn o) j n0 else -2) ∧ u = (if (okN (nI 4) k && okN (nI 4) o) = true then cpsM J (tn k) i (tn o) j n0 else J))) 0 0 (wA LM ad) := by
  refine g_entry (C := RX6) (cc := cX6_copy) (maxL := 6) (ret := (some .int)) rfl (by decide) rfl (Nat.le_of_ble_eq_true rfl) (fun p e s m args below meth c Q ls hQ hx hb hr hts hown hlocks hml hW hK hl => ?_)
  have hl : lv_has ls 6 [(0, .ref (ad 0 (0))), (1, .int (k)), (2, .int (i)), (3, .int (o)), (4, .int (j)), (5, .int (n0))] := hl
  have hS := va_S.rf (A := wA LM ad) (H0 := s.heap)
  have hinX6 : ∀ w ∈ wsX60, w ∈ wsX6_copy := by decide +kernel
  have hf72 := hts (.fieldLink RX6 72 "JoinedStoresModel" "sorts" "[I") (by decide +kernel)
  have hf75 := hts (.fieldLink RX6 75 "JoinedStoresModel" "lengths" "[I") (by decide +kernel)
  have hf78 := hts (.fieldLink RX6 78 "JoinedStoresModel" "items" "[[I") (by decide +kernel)
  have hf81 := hts (.fieldLink RX6 81 "JoinedStoresModel" "passed" "[I") (by decide +kernel)
  refine lv_iload_n hx hb dX6_copy_0 rfl (lv_at hl 1 rfl) ?_
  refine g_pi (va_runS (As := [.int (k)]) (rest := []) ⟨hx, hb, hml, hown, hts⟩ (c_X6_isSheet l k) (va_cwS 1 hts gX6_copy_X6_isSheet rfl rfl rfl (by decide +kernel) ⟨Nat.le_of_ble_eq_true rfl, Nat.le_of_ble_eq_true rfl⟩) p_preS rfl rfl hl.1 rfl (lv_room (Nat.le_of_ble_eq_true rfl)) dX6_copy_1 ⟨Nat.le_refl _, Nat.le_refl _⟩) hW hS (fun H locs hW hS => ?_)
  refine lv_if_eq (tgt := 14) hx hb dX6_copy_4 (by decide) (fun c4_0 => ?_) (fun c4_0 => ?_)
  · replace c4_0 := bI_0.mp c4_0
    try simp only [decide_eq_true_eq, decide_eq_false_iff_not] at c4_0
    refine lv_bipush (v := (-2)) hx hb dX6_copy_14 (by decide) ?_
    rw [hQ]
    exact g_iret (wd := wM G ad) hx hb hr rfl hlocks hW hS (by refine ⟨?_, ?_⟩ <;> simp [c4_0]) dX6_copy_16
  · replace c4_0 := bI_1.mp c4_0
    obtain ⟨kN, hkN, ekN⟩ := okN_nI (k := 4) (by decide) c4_0
    subst ekN
    have t_kN : tn (nI kN) = kN := tn_nI (by omega)
    have k_kN : okN (nI 4) (nI kN) = true := okN_of (by decide) hkN
    refine lv_iload_n hx hb dX6_copy_7 rfl (lv_at hl 3 rfl) ?_
    refine g_pi (va_runS (As := [.int (o)]) (rest := []) ⟨hx, hb, hml, hown, hts⟩ (c_X6_isSheet l o) (va_cwS 1 hts gX6_copy_X6_isSheet rfl rfl rfl (by decide +kernel) ⟨Nat.le_of_ble_eq_true rfl, Nat.le_of_ble_eq_true rfl⟩) p_preS rfl rfl hl.1 rfl (lv_room (Nat.le_of_ble_eq_true rfl)) dX6_copy_8 ⟨Nat.le_refl _, Nat.le_refl _⟩) hW hS (fun H locs hW hS => ?_)
    refine lv_if_ne (tgt := 17) hx hb dX6_copy_11 (by decide) (fun c11_1 => ?_) (fun c11_1 => ?_)
    · replace c11_1 := bI_1.mp c11_1
      obtain ⟨oN, hoN, eoN⟩ := okN_nI (k := 4) (by decide) c11_1
      subst eoN
      have t_oN : tn (nI oN) = oN := tn_nI (by omega)
      have k_oN : okN (nI 4) (nI oN) = true := okN_of (by decide) hoN
      refine lv_aload_n hx hb dX6_copy_17 rfl (lv_at hl 0 rfl) ?_
      refine r_get hx hb hts hown hK hW 0 (0) 23 (mM (by decide) (by decide)) rfl rfl hinX6 (by decide) hf72 rfl rfl dX6_copy_18 ?_
      refine lv_iload_n hx hb dX6_copy_21 rfl (lv_at hl 1 rfl) ?_
      refine rM_iald hx hb hK hW 23 (0) (kN) (by decide) (by decide) (by decide) (show kN < 4 by omega) rfl dX6_copy_22 (fun x3 ex3 => ?_)
      refine lv_if_lt (tgt := 35) hx hb dX6_copy_23 (by decide) (fun c23_3 => ?_) (fun c23_3 => ?_)
      · refine lv_bipush (v := (-11)) hx hb dX6_copy_35 (by decide) ?_
        rw [hQ]
        exact g_iret (wd := wM G ad) hx hb hr rfl hlocks hW hS (by subst ex3; refine ⟨?_, ?_⟩ <;> rw [if_pos (by simp [k_kN, k_oN])] <;> simp only [t_kN, t_oN, cprM, cpsM] <;> rw [if_pos (by first | (left; assumption) | (right; exact Int32.not_le.mp (by assumption)))]) dX6_copy_37
      · refine lv_aload_n hx hb dX6_copy_26 rfl (lv_at hl 0 rfl) ?_
        refine r_get hx hb hts hown hK hW 0 (0) 23 (mM (by decide) (by decide)) rfl rfl hinX6 (by decide) hf72 rfl rfl dX6_copy_27 ?_
        refine lv_iload_n hx hb dX6_copy_30 rfl (lv_at hl 3 rfl) ?_
        refine rM_iald hx hb hK hW 23 (0) (oN) (by decide) (by decide) (by decide) (show oN < 4 by omega) rfl dX6_copy_31 (fun x5 ex5 => ?_)
        refine lv_if_ge (tgt := 38) hx hb dX6_copy_32 (by decide) (fun c32_5 => ?_) (fun c32_5 => ?_)
        · refine lv_aload_n hx hb dX6_copy_38 rfl (lv_at hl 0 rfl) ?_
          refine r_get hx hb hts hown hK hW 0 (0) 23 (mM (by decide) (by decide)) rfl rfl hinX6 (by decide) hf72 rfl rfl dX6_copy_39 ?_
          refine lv_iload_n hx hb dX6_copy_42 rfl (lv_at hl 1 rfl) ?_
          refine rM_iald hx hb hK hW 23 (0) (kN) (by decide) (by decide) (by decide) (show kN < 4 by omega) rfl dX6_copy_43 (fun x7 ex7 => ?_)
          refine lv_aload_n hx hb dX6_copy_44 rfl (lv_at hl 0 rfl) ?_
          refine r_get hx hb hts hown hK hW 0 (0) 23 (mM (by decide) (by decide)) rfl rfl hinX6 (by decide) hf72 rfl rfl dX6_copy_45 ?_
          refine lv_iload_n hx hb dX6_copy_48 rfl (lv_at hl 3 rfl) ?_
          refine rM_iald hx hb hK hW 23 (0) (oN) (by decide) (by decide) (by decide) (show oN < 4 by omega) rfl dX6_copy_49 (fun x8 ex8 => ?_)
          refine lv_icmp_eq (tgt := 56) hx hb dX6_copy_50 (by decide) (fun c50_8 => ?_) (fun c50_8 => ?_)
          · refine lv_iload hx hb dX6_copy_56 (lv_at hl 5 rfl) ?_
            refine lv_if_lt (tgt := 97) hx hb dX6_copy_58 (by decide) (fun c58_9 => ?_) (fun c58_9 => ?_)
            · refine lv_bipush (v := (-12)) hx hb dX6_copy_97 (by decide) ?_
              rw [hQ]
              exact g_iret (wd := wM G ad) hx hb hr rfl hlocks hW hS (by subst ex8 ex7 ex5 ex3; refine ⟨?_, ?_⟩ <;> rw [if_pos (by simp [k_kN, k_oN])] <;> simp only [t_kN, t_oN, cprM, cpsM] <;> rw [if_neg (by simp [c23_3, c32_5]), if_neg (fun q9 => q9 (by assumption)), if_pos (by simp [c23_3, c32_5, c50_8, c58_9])]) dX6_copy_99
            · refine lv_iload_n hx hb dX6_copy_61 rfl (lv_at hl 2 rfl) ?_
              refine lv_if_lt (tgt := 97) hx hb dX6_copy_62 (by decide) (fun c62_10 => ?_) (fun c62_10 => ?_)
              · refine lv_bipush (v := (-12)) hx hb dX6_copy_97 (by decide) ?_
                rw [hQ]
                exact g_iret (wd := wM G ad) hx hb hr rfl hlocks hW hS (by subst ex8 ex7 ex5 ex3; refine ⟨?_, ?_⟩ <;> rw [if_pos (by simp [k_kN, k_oN])] <;> simp only [t_kN, t_oN, cprM, cpsM] <;> rw [if_neg (by simp [c23_3, c32_5]), if_neg (fun q9 => q9 (by assumption)), if_pos (by simp [c23_3, c32_5, c50_8, c58_9, c62_10])]) dX6_copy_99
              · refine lv_iload hx hb dX6_copy_65 (lv_at hl 4 rfl) ?_
                refine lv_if_lt (tgt := 97) hx hb dX6_copy_67 (by decide) (fun c67_11 => ?_) (fun c67_11 => ?_)
                · refine lv_bipush (v := (-12)) hx hb dX6_copy_97 (by decide) ?_
                  rw [hQ]
                  exact g_iret (wd := wM G ad) hx hb hr rfl hlocks hW hS (by subst ex8 ex7 ex5 ex3; refine ⟨?_, ?_⟩ <;> rw [if_pos (by simp [k_kN, k_oN])] <;> simp only [t_kN, t_oN, cprM, cpsM] <;> rw [if_neg (by simp [c23_3, c32_5]), if_neg (fun q9 => q9 (by assumption)), if_pos (by simp [c23_3, c32_5, c50_8, c58_9, c62_10, c67_11])]) dX6_copy_99
                · refine lv_iload_n hx hb dX6_copy_70 rfl (lv_at hl 2 rfl) ?_
                  refine lv_aload_n hx hb dX6_copy_71 rfl (lv_at hl 0 rfl) ?_
                  refine r_get hx hb hts hown hK hW 0 (0) 24 (mM (by decide) (by decide)) rfl rfl hinX6 (by decide) hf75 rfl rfl dX6_copy_72 ?_
                  refine lv_iload_n hx hb dX6_copy_75 rfl (lv_at hl 1 rfl) ?_
                  refine rM_iald hx hb hK hW 24 (0) (kN) (by decide) (by decide) (by decide) (show kN < 4 by omega) rfl dX6_copy_76 (fun x13 ex13 => ?_)
                  refine lv_iload hx hb dX6_copy_77 (lv_at hl 5 rfl) ?_
                  refine lv_isub hx hb dX6_copy_79 (lv_topi (fun x14 ex14 => ?_))
                  have hd1_14 := (ex14.trans (congrArg (fun q9 => q9 - n0) ex13))
                  refine lv_icmp_gt (tgt := 97) hx hb dX6_copy_80 (by decide) (fun c80_15 => ?_) (fun c80_15 => ?_)
                  · refine lv_bipush (v := (-12)) hx hb dX6_copy_97 (by decide) ?_
                    rw [hQ]
                    exact g_iret (wd := wM G ad) hx hb hr rfl hlocks hW hS (by subst ex14 ex13 ex8 ex7 ex5 ex3; refine ⟨?_, ?_⟩ <;> rw [if_pos (by simp [k_kN, k_oN])] <;> simp only [t_kN, t_oN, cprM, cpsM] <;> rw [if_neg (by simp [c23_3, c32_5]), if_neg (fun q9 => q9 (by assumption)), if_pos (by simp [c23_3, c32_5, c50_8, c58_9, c62_10, c67_11, c80_15])]) dX6_copy_99
                  · refine lv_iload hx hb dX6_copy_83 (lv_at hl 4 rfl) ?_
                    refine lv_aload_n hx hb dX6_copy_85 rfl (lv_at hl 0 rfl) ?_
                    refine r_get hx hb hts hown hK hW 0 (0) 24 (mM (by decide) (by decide)) rfl rfl hinX6 (by decide) hf75 rfl rfl dX6_copy_86 ?_
                    refine lv_iload_n hx hb dX6_copy_89 rfl (lv_at hl 3 rfl) ?_
                    refine rM_iald hx hb hK hW 24 (0) (oN) (by decide) (by decide) (by decide) (show oN < 4 by omega) rfl dX6_copy_90 (fun x17 ex17 => ?_)
                    refine lv_iload hx hb dX6_copy_91 (lv_at hl 5 rfl) ?_
                    refine lv_isub hx hb dX6_copy_93 (lv_topi (fun x18 ex18 => ?_))
                    have hd2_18 := (ex18.trans (congrArg (fun q9 => q9 - n0) ex17))
                    refine lv_icmp_le (tgt := 100) hx hb dX6_copy_94 (by decide) (fun c94_19 => ?_) (fun c94_19 => ?_)
                    · have hcs := hd1_14
                      have hct := hd2_18
                      obtain ⟨i9, j9, n9, ei, ej, en, hi9, hj9, hi8, hj8⟩ := hld_2 (I := V J) (hSh kN (by omega)) (hSh oN (by omega)) (hl_V (hSh kN (by omega)) c62_10 c58_9 (fun q9 => (Int32.not_lt.mpr (Int32.not_lt.mp c80_15)) (by rw [hcs]; exact q9))) (hl_V (hSh oN (by omega)) c67_11 c58_9 (fun q9 => (Int32.not_lt.mpr c94_19) (by rw [hct]; exact q9)))
                      subst ei
                      have t_i9 : tn (nI i9) = i9 := tn_nI (by omega)
                      subst ej
                      have t_j9 : tn (nI j9) = j9 := tn_nI (by omega)
                      subst en
                      have t_n9 : tn (nI n9) = n9 := tn_nI (by omega)
                      refine lv_aload_n hx hb dX6_copy_100 rfl (lv_at hl 0 rfl) ?_
                      refine r_get hx hb hts hown hK hW 0 (0) 25 (mM (by decide) (by decide)) rfl rfl hinX6 (by decide) hf78 rfl rfl dX6_copy_101 ?_
                      refine lv_iload_n hx hb dX6_copy_104 rfl (lv_at hl 1 rfl) ?_
                      refine r_aaldI hx hb hK hW 1 12 (kN) (mM (by decide) (by decide)) rfl (show kN < 4 by omega) (by decide) rfl rfl dX6_copy_105 ?_
                      refine lv_iload_n hx hb dX6_copy_106 rfl (lv_at hl 2 rfl) ?_
                      refine lv_aload_n hx hb dX6_copy_107 rfl (lv_at hl 0 rfl) ?_
                      refine r_get hx hb hts hown hK hW 0 (0) 26 (mM (by decide) (by decide)) rfl rfl hinX6 (by decide) hf81 rfl rfl dX6_copy_108 ?_
                      refine lv_iconst (v := nI 0) hx hb dX6_copy_111 (by decide) ?_
                      refine lv_iload hx hb dX6_copy_112 (lv_at hl 5 rfl) ?_
                      refine rM_copy hx hb (hml.trans hl.1.symm) hown (hts (.methodLink RX6 98 arraycopyName) (by decide +kernel)) (hts (.native arraycopyName) (by decide +kernel)) (hts (.static arraycopyName) (by decide +kernel)) (hts (.initialized "java/lang/System") (by decide +kernel)) hK hI hW hS 19 (kN) 25 (0) (i9) (0) (n9) (by decide) (by decide) (show kN < 4 by omega) (by decide) (by decide) (by decide) (show i9 + n9 ≤ 40 by omega) (show 0 + n9 ≤ 40 by omega) rfl rfl rfl (by decide) (by decide) dX6_copy_114 (fun I21 H locs eI21 hW hS => ?_)
                      refine lv_aload_n hx hb dX6_copy_117 rfl (lv_at hl 0 rfl) ?_
                      refine r_get hx hb hts hown hK hW 0 (0) 26 (mM (by decide) (by decide)) rfl rfl hinX6 (by decide) hf81 rfl rfl dX6_copy_118 ?_
                      refine lv_iconst (v := nI 0) hx hb dX6_copy_121 (by decide) ?_
                      refine lv_aload_n hx hb dX6_copy_122 rfl (lv_at hl 0 rfl) ?_
                      refine r_get hx hb hts hown hK hW 0 (0) 25 (mM (by decide) (by decide)) rfl rfl hinX6 (by decide) hf78 rfl rfl dX6_copy_123 ?_
                      refine lv_iload_n hx hb dX6_copy_126 rfl (lv_at hl 3 rfl) ?_
                      refine r_aaldI hx hb hK hW 1 12 (oN) (mM (by decide) (by decide)) rfl (show oN < 4 by omega) (by decide) rfl rfl dX6_copy_127 ?_
                      refine lv_iload hx hb dX6_copy_128 (lv_at hl 4 rfl) ?_
                      refine lv_iload hx hb dX6_copy_130 (lv_at hl 5 rfl) ?_
                      refine rM_copy hx hb (hml.trans hl.1.symm) hown (hts (.methodLink RX6 98 arraycopyName) (by decide +kernel)) (hts (.native arraycopyName) (by decide +kernel)) (hts (.static arraycopyName) (by decide +kernel)) (hts (.initialized "java/lang/System") (by decide +kernel)) hK hI hW hS 25 (0) 19 (oN) (0) (j9) (n9) (by decide) (by decide) (by decide) (by decide) (by decide) (show oN < 4 by omega) (show 0 + n9 ≤ 40 by omega) (show j9 + n9 ≤ 40 by omega) rfl rfl rfl (by decide) (by decide) dX6_copy_132 (fun I22 H locs eI22 hW hS => ?_)
                      refine lv_iload hx hb dX6_copy_135 (lv_at hl 5 rfl) ?_
                      rw [hQ]
                      exact g_iret (wd := wM G ad) hx hb hr rfl hlocks hW hS (by subst eI22 eI21 ex18 ex17 ex14 ex13 ex8 ex7 ex5 ex3; refine ⟨?_, ?_⟩ <;> rw [if_pos (by simp [k_kN, k_oN])] <;> simp only [t_kN, t_oN, t_i9, t_j9, t_n9, cprM, cpsM] <;> rw [if_neg (by simp [c23_3, c32_5]), if_neg (fun q9 => q9 (by assumption)), if_neg (by simp [c58_9, c62_10, c67_11, c80_15, c94_19])] <;> (try simp only [t_kN, t_oN, t_i9, t_j9, t_n9])) dX6_copy_137
                    · replace c94_19 := Int32.not_le.mp c94_19
                      refine lv_bipush (v := (-12)) hx hb dX6_copy_97 (by decide) ?_
                      rw [hQ]
                      exact g_iret (wd := wM G ad) hx hb hr rfl hlocks hW hS (by subst ex18 ex17 ex14 ex13 ex8 ex7 ex5 ex3; refine ⟨?_, ?_⟩ <;> rw [if_pos (by simp [k_kN, k_oN])] <;> simp only [t_kN, t_oN, cprM, cpsM] <;> rw [if_neg (by simp [c23_3, c32_5]), if_neg (fun q9 => q9 (by assumption)), if_pos (by simp [c23_3, c32_5, c50_8, c58_9, c62_10, c67_11, c80_15, c94_19])]) dX6_copy_99
          · refine lv_bipush (v := (-13)) hx hb dX6_copy_53 (by decide) ?_
            rw [hQ]
            exact g_iret (wd := wM G ad) hx hb hr rfl hlocks hW hS (by subst ex8 ex7 ex5 ex3; refine ⟨?_, ?_⟩ <;> rw [if_pos (by simp [k_kN, k_oN])] <;> simp only [t_kN, t_oN, cprM, cpsM] <;> rw [if_neg (by simp [c23_3, c32_5]), if_pos (by assumption)]) dX6_copy_55
        · refine lv_bipush (v := (-11)) hx hb dX6_copy_35 (by decide) ?_
          rw [hQ]
          exact g_iret (wd := wM G ad) hx hb hr rfl hlocks hW hS (by subst ex5 ex3; refine ⟨?_, ?_⟩ <;> rw [if_pos (by simp [k_kN, k_oN])] <;> simp only [t_kN, t_oN, cprM, cpsM] <;> rw [if_pos (by first | (left; assumption) | (right; exact Int32.not_le.mp (by assumption)))]) dX6_copy_37
    · replace c11_1 := bI_0.mp c11_1
      try simp only [decide_eq_true_eq, decide_eq_false_iff_not] at c11_1
      refine lv_bipush (v := (-2)) hx hb dX6_copy_14 (by decide) ?_
      rw [hQ]
      exact g_iret (wd := wM G ad) hx hb hr rfl hlocks hW hS (by refine ⟨?_, ?_⟩ <;> simp [k_kN, c11_1]) dX6_copy_16
