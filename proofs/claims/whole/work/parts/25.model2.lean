/-! ===== the model, two ===== -/
set_option maxHeartbeats 4000000 in
set_option maxRecDepth 100000 in
theorem c_X6_goes (l : Launch) (D : va_G) (G : Nat → ClassId) (ad : Nat → Nat → Nat) (hI : wI LM ad) (J : St) (a rm : Nat) (ob act v : Int32) (ha : a < 33) (ha27 : a ≠ 27) (hM : okM J) : Met l yX6_goes wsX6_goes ({ frames := 1, cells := 0, slots := 0, locals := 23 } : Room) (gPre D G LM ad [.ref (ad 0 (0)), .int (nI (a)), .int (nI (rm)), .int (ob), .int (act), .int (v)] (wM G ad J)) (gQi D LM ad (wM G ad) (fun r9 u => r9 = goN J a rm ob act v ∧ u = goA J a rm ob act v)) 0 0 (wA LM ad) := by
  refine g_entry (C := RX6) (cc := cX6_goes) (maxL := 10) (ret := (some .int)) rfl (by decide) rfl (Nat.le_of_ble_eq_true rfl) (fun p e s m args below meth c Q ls hQ hx hb hr hts hown hlocks hml hW hK hl => ?_)
  have hl : lv_has ls 10 [(0, .ref (ad 0 (0))), (1, .int (nI (a))), (2, .int (nI (rm))), (3, .int (ob)), (4, .int (act)), (5, .int (v))] := hl
  have hS := va_S.rf (A := wA LM ad) (H0 := s.heap)
  have hinX6 : ∀ w ∈ wsX60, w ∈ wsX6_goes := by decide +kernel
  have hf9 := hts (.fieldLink RX6 9 "JoinedStoresModel" "made" "[I") (by decide +kernel)
  have hf15 := hts (.fieldLink RX6 15 "JoinedStoresModel" "values" "[[I") (by decide +kernel)
  have hf21 := hts (.fieldLink RX6 21 "JoinedStoresModel" "objects" "[[I") (by decide +kernel)
  have hf27 := hts (.fieldLink RX6 27 "JoinedStoresModel" "heard" "[[I") (by decide +kernel)
  have hf30 := hts (.fieldLink RX6 30 "JoinedStoresModel" "alive" "[[I") (by decide +kernel)
  refine lv_iconst (v := nI 0) hx hb dX6_goes_0 (by decide) ?_
  refine lv_istore (lv' := [(6, .int (nI (0))), (0, .ref (ad 0 (0))), (1, .int (nI (a))), (2, .int (nI (rm))), (3, .int (ob)), (4, .int (act)), (5, .int (v))]) hx hb dX6_goes_1 hl (by decide) rfl (fun ls hl => ?_)
  refine lv_aload_n hx hb dX6_goes_3 rfl (lv_at hl 1 rfl) ?_
  refine lv_bipush (v := nI 27) hx hb dX6_goes_4 (by decide) ?_
  refine g_cv (va_runV (As := [.int (nI (27))]) (rest := []) ⟨hx, hb, hml, hown, hts⟩ (c_X6_clear l D G ad hI J 27 (by decide)) (cwV 1 hts gX6_goes_X6_clear rfl rfl rfl (by decide +kernel) ⟨Nat.le_of_ble_eq_true rfl, Nat.le_of_ble_eq_true rfl⟩) (g_preV hK hW 0 (0) (mM (by decide) (by decide)) rfl rfl) rfl rfl hl.1 rfl (lv_room (Nat.le_of_ble_eq_true rfl)) dX6_goes_6 ⟨Nat.le_refl _, Nat.le_refl _⟩) hS (fun I1 H locs hp hW hS => ?_)
  have eI1 : I1 = clr J 27 := hp
  refine lv_iconst (v := nI 0) hx hb dX6_goes_9 (by decide) ?_
  refine lv_istore (lv' := [(7, .int (nI (0))), (6, .int (nI (0))), (0, .ref (ad 0 (0))), (1, .int (nI (a))), (2, .int (nI (rm))), (3, .int (ob)), (4, .int (act)), (5, .int (v))]) hx hb dX6_goes_10 hl (by decide) rfl (fun ls hl => ?_)
  have K12 : ∀ (n : Nat) (r : Nat) (z : Nat), (r ≤ 4) → (z = (goL J a rm ob act v (als J r)).length) → 4 < r + n → ∀ (H : Heap) (locs : List Loc), va_P D vwCl (wS LM ad (wM G ad (goS J a rm ob act v (als J r)))) H → va_S (wA LM ad) s.heap H locs → ∀ (ls : Array Slot), lv_has ls 10 [(7, .int (nI (r))), (6, .int (nI (z))), (0, .ref (ad 0 (0))), (1, .int (nI (a))), (2, .int (nI (rm))), (3, .int (ob)), (4, .int (act)), (5, .int (v))] → W p l e ({ frames := 1, cells := 0, slots := 0, locals := 23 } : Room) s m args below meth c H locs 0 0 Q (F0 m 12 ls []) := by
    intro n12
    induction n12 with
    | zero => intro r z hr4 hz hfu; exact absurd hfu (by omega)
    | succ n12 ih12 =>
      intro r z hr4 hz hfu H locs hW hS ls hl
      refine lv_iload hx hb dX6_goes_12 (lv_at hl 0 rfl) ?_
      refine lv_iconst (v := nI 4) hx hb dX6_goes_14 (by decide) ?_
      refine lv_icmp_ge (tgt := 160) hx hb dX6_goes_15 (by decide) (fun c15_1 => ?_) (fun c15_1 => ?_)
      · replace c15_1 : 4 ≤ r := (nI_leI (show 4 < 2147483648 by omega) (show r < 2147483648 by omega)).mp c15_1
        refine lv_iload hx hb dX6_goes_160 (lv_at hl 1 rfl) ?_
        rw [hQ]
        exact g_iret (wd := wM G ad) hx hb hr rfl hlocks hW hS (by have e4 : r = 4 := (by omega); subst e4; skip; exact ⟨congrArg nI hz, rfl⟩) dX6_goes_162
      · replace c15_1 : ¬ (4 ≤ r) := fun h => c15_1 ((nI_leI (show 4 < 2147483648 by omega) (show r < 2147483648 by omega)).mpr h)
        refine lv_iconst (v := nI 0) hx hb dX6_goes_18 (by decide) ?_
        refine lv_istore (lv' := [(8, .int (nI (0))), (7, .int (nI (r))), (6, .int (nI (z))), (0, .ref (ad 0 (0))), (1, .int (nI (a))), (2, .int (nI (rm))), (3, .int (ob)), (4, .int (act)), (5, .int (v))]) hx hb dX6_goes_19 hl (by decide) rfl (fun ls hl => ?_)
        have K21 : ∀ (n : Nat) (k : Nat) (q : Nat), (k ≤ mk J r) → (q = (goL J a rm ob act v (als J r ++ rowl k r)).length) → (mk J r) < k + n → ∀ (H : Heap) (locs : List Loc), va_P D vwCl (wS LM ad (wM G ad (goS J a rm ob act v (als J r ++ rowl k r)))) H → va_S (wA LM ad) s.heap H locs → ∀ (ls : Array Slot), lv_has ls 10 [(8, .int (nI (k))), (7, .int (nI (r))), (6, .int (nI (q))), (0, .ref (ad 0 (0))), (1, .int (nI (a))), (2, .int (nI (rm))), (3, .int (ob)), (4, .int (act)), (5, .int (v))] → W p l e ({ frames := 1, cells := 0, slots := 0, locals := 23 } : Room) s m args below meth c H locs 0 0 Q (F0 m 21 ls []) := by
          intro n21
          induction n21 with
          | zero => intro k q hk hq hfu; exact absurd hfu (by omega)
          | succ n21 ih21 =>
            intro k q hk hq hfu H locs hW hS ls hl
            refine lv_iload hx hb dX6_goes_21 (lv_at hl 0 rfl) ?_
            refine lv_aload_n hx hb dX6_goes_23 rfl (lv_at hl 3 rfl) ?_
            refine r_get hx hb hts hown hK hW 0 (0) 0 (mM (by decide) (by decide)) rfl rfl hinX6 (by decide) hf9 rfl rfl dX6_goes_24 ?_
            refine lv_iload hx hb dX6_goes_27 (lv_at hl 1 rfl) ?_
            refine rM_iald hx hb hK hW 12 (0) (r) (by decide) (by decide) (by decide) (show r < 4 by omega) rfl dX6_goes_29 (fun x3 ex3 => ?_)
            have hm_r := (hM r (by omega)).2
            refine r_top (show x3 = nI (mk J r) from (ex3.trans ((goS_n (by decide) (by decide)).trans (hM r (by omega)).1))) ?_
            refine lv_icmp_ge (tgt := 154) hx hb dX6_goes_30 (by decide) (fun c30_3 => ?_) (fun c30_3 => ?_)
            · replace c30_3 : mk J r ≤ k := (nI_leI (show mk J r < 2147483648 by omega) (show k < 2147483648 by omega)).mp c30_3
              refine lv_iinc (v := nI (r + 1)) (lv' := [(7, .int (nI (r + 1))), (8, .int (nI (k))), (6, .int (nI (q))), (0, .ref (ad 0 (0))), (1, .int (nI (a))), (2, .int (nI (rm))), (3, .int (ob)), (4, .int (act)), (5, .int (v))]) hx hb dX6_goes_154 hl (k := 1) rfl (nI_inc r 1) (by decide) rfl (fun ls hl => ?_)
              refine lv_goto (tgt := 12) hx hb dX6_goes_157 (by decide) ?_
              have e9 : goS J a rm ob act v (als J r ++ rowl k r) = goS J a rm ob act v (als J (r + 1)) := by
                have e9 : k = mk J r := (by omega)
                subst e9
                subst ex3
                rfl
              have hW9 := hW
              rw [e9] at hW9
              exact ih12 (r + 1) (q) (by omega) (by have e9 : k = mk J r := (by omega); subst e9; exact hq) (by omega) _ _ hW9 hS _ (lv_sub hl [0, 2, 3, 4, 5, 6, 7, 8] rfl)
            · replace c30_3 : ¬ (mk J r ≤ k) := fun h => c30_3 ((nI_leI (show mk J r < 2147483648 by omega) (show k < 2147483648 by omega)).mpr h)
              have hd1 : (r * 31 + k) / 31 = r := by omega
              have hd2 : (r * 31 + k) % 31 = k := by omega
              refine lv_iload_n hx hb dX6_goes_33 rfl (lv_at hl 6 rfl) ?_
              refine lv_if_ge (tgt := 61) hx hb dX6_goes_34 (by decide) (fun c34_4 => ?_) (fun c34_4 => ?_)
              · refine lv_aload_n hx hb dX6_goes_61 rfl (lv_at hl 3 rfl) ?_
                refine r_get hx hb hts hown hK hW 0 (0) 3 (mM (by decide) (by decide)) rfl rfl hinX6 (by decide) hf21 rfl rfl dX6_goes_62 ?_
                refine lv_iload hx hb dX6_goes_65 (lv_at hl 1 rfl) ?_
                refine r_aaldI hx hb hK hW 1 2 (r) (mM (by decide) (by decide)) rfl (show r < 4 by omega) (by decide) rfl rfl dX6_goes_67 ?_
                refine lv_iload hx hb dX6_goes_68 (lv_at hl 0 rfl) ?_
                refine rM_iald hx hb hK hW 15 (r) (k) (by decide) (by decide) (show r < 4 by omega) (show k < 31 by omega) rfl dX6_goes_70 (fun x6 ex6 => ?_)
                refine lv_iload_n hx hb dX6_goes_71 rfl (lv_at hl 6 rfl) ?_
                refine lv_icmp_ne (tgt := 79) hx hb dX6_goes_72 (by decide) (fun c72_6 => ?_) (fun c72_6 => ?_)
                · refine lv_iconst (v := nI 0) hx hb dX6_goes_79 (by decide) ?_
                  refine lv_istore (lv' := [(9, .int (nI (0))), (8, .int (nI (k))), (7, .int (nI (r))), (6, .int (nI (q))), (0, .ref (ad 0 (0))), (1, .int (nI (a))), (2, .int (nI (rm))), (3, .int (ob)), (4, .int (act)), (5, .int (v))]) hx hb dX6_goes_80 hl (by decide) rfl (fun ls hl => ?_)
                  refine lv_aload_n hx hb dX6_goes_82 rfl (lv_at hl 4 rfl) ?_
                  refine r_get hx hb hts hown hK hW 0 (0) 6 (mM (by decide) (by decide)) rfl rfl hinX6 (by decide) hf30 rfl rfl dX6_goes_83 ?_
                  refine lv_iload_n hx hb dX6_goes_86 rfl (lv_at hl 5 rfl) ?_
                  refine r_aaldI hx hb hK hW 1 4 (a) (mM (by decide) (by decide)) rfl (show a < 33 by omega) (by decide) rfl rfl dX6_goes_87 ?_
                  refine lv_iload hx hb dX6_goes_88 (lv_at hl 2 rfl) ?_
                  refine rM_iald hx hb hK hW 11 (a) (r) (by decide) (by decide) (show a < 33 by omega) (show r < 4 by omega) rfl dX6_goes_90 (fun x8 ex8 => ?_)
                  refine lv_iload hx hb dX6_goes_91 (lv_at hl 1 rfl) ?_
                  refine lv_ishr hx hb dX6_goes_93 (lv_topi (fun x9 ex9 => ?_))
                  refine lv_iconst (v := nI 1) hx hb dX6_goes_94 (by decide) ?_
                  refine lv_iand hx hb dX6_goes_95 (lv_topi (fun x10 ex10 => ?_))
                  refine lv_if_eq (tgt := 148) hx hb dX6_goes_96 (by decide) (fun c96_10 => ?_) (fun c96_10 => ?_)
                  · refine lv_iinc (v := nI (k + 1)) (lv' := [(8, .int (nI (k + 1))), (9, .int (nI (0))), (7, .int (nI (r))), (6, .int (nI (q))), (0, .ref (ad 0 (0))), (1, .int (nI (a))), (2, .int (nI (rm))), (3, .int (ob)), (4, .int (act)), (5, .int (v))]) hx hb dX6_goes_148 hl (k := 1) rfl (nI_inc k 1) (by decide) rfl (fun ls hl => ?_)
                    have hG9 : gop J a rm ob act v (r * 31 + k) = false := by
                      simp only [gop, ofO, hd1, hd2]
                      rw [if_neg (Int32.not_lt.mpr c34_4)]
                      clear c34_4
                      subst ex10 ex9 ex8 ex6 ex3
                      simp only [goS_n (show (12 : Nat) ≠ 10 by decide) (show (12 : Nat) ≠ 11 by decide), goS_n (show (13 : Nat) ≠ 10 by decide) (show (13 : Nat) ≠ 11 by decide), goS_n (show (15 : Nat) ≠ 10 by decide) (show (15 : Nat) ≠ 11 by decide), goS_i (show a ≠ 27 by omega), sb_0, b01] at *
                      simp_all
                    have hN9 : rowl (k + 1) r = rowl k r ++ [r * 31 + k] := rowl_s k r
                    refine lv_goto (tgt := 21) hx hb dX6_goes_151 (by decide) ?_
                    have e9 : goS J a rm ob act v (als J r ++ rowl k r) = goS J a rm ob act v (als J r ++ rowl (k + 1) r) := by
                      rw [rowl_s, ← List.append_assoc, goS_x hG9]
                    have hW9 := hW
                    rw [e9] at hW9
                    exact ih21 (k + 1) (q) (by omega) (by rw [rowl_s, ← List.append_assoc, goL_x hG9]; exact hq) (by omega) _ _ hW9 hS _ (lv_sub hl [0, 2, 3, 4, 5, 6, 7, 8, 9] rfl)
                  · refine lv_iload hx hb dX6_goes_99 (lv_at hl 0 rfl) ?_
                    refine lv_if_eq (tgt := 148) hx hb dX6_goes_101 (by decide) (fun _ => ?_) (fun h => absurd (by decide) h)
                    refine lv_iinc (v := nI (k + 1)) (lv' := [(8, .int (nI (k + 1))), (9, .int (nI (0))), (7, .int (nI (r))), (6, .int (nI (q))), (0, .ref (ad 0 (0))), (1, .int (nI (a))), (2, .int (nI (rm))), (3, .int (ob)), (4, .int (act)), (5, .int (v))]) hx hb dX6_goes_148 hl (k := 1) rfl (nI_inc k 1) (by decide) rfl (fun ls hl => ?_)
                    have hG9 : gop J a rm ob act v (r * 31 + k) = false := by
                      simp only [gop, ofO, hd1, hd2]
                      rw [if_neg (Int32.not_lt.mpr c34_4)]
                      clear c34_4
                      subst ex10 ex9 ex8 ex6 ex3
                      simp only [goS_n (show (12 : Nat) ≠ 10 by decide) (show (12 : Nat) ≠ 11 by decide), goS_n (show (13 : Nat) ≠ 10 by decide) (show (13 : Nat) ≠ 11 by decide), goS_n (show (15 : Nat) ≠ 10 by decide) (show (15 : Nat) ≠ 11 by decide), goS_i (show a ≠ 27 by omega), sb_0, b01] at *
                      simp_all
                    have hN9 : rowl (k + 1) r = rowl k r ++ [r * 31 + k] := rowl_s k r
                    refine lv_goto (tgt := 21) hx hb dX6_goes_151 (by decide) ?_
                    have e9 : goS J a rm ob act v (als J r ++ rowl k r) = goS J a rm ob act v (als J r ++ rowl (k + 1) r) := by
                      rw [rowl_s, ← List.append_assoc, goS_x hG9]
                    have hW9 := hW
                    rw [e9] at hW9
                    exact ih21 (k + 1) (q) (by omega) (by rw [rowl_s, ← List.append_assoc, goL_x hG9]; exact hq) (by omega) _ _ hW9 hS _ (lv_sub hl [0, 2, 3, 4, 5, 6, 7, 8, 9] rfl)
                · refine lv_iconst (v := nI 1) hx hb dX6_goes_75 (by decide) ?_
                  refine lv_goto (tgt := 80) hx hb dX6_goes_76 (by decide) ?_
                  refine lv_istore (lv' := [(9, .int (nI (1))), (8, .int (nI (k))), (7, .int (nI (r))), (6, .int (nI (q))), (0, .ref (ad 0 (0))), (1, .int (nI (a))), (2, .int (nI (rm))), (3, .int (ob)), (4, .int (act)), (5, .int (v))]) hx hb dX6_goes_80 hl (by decide) rfl (fun ls hl => ?_)
                  refine lv_aload_n hx hb dX6_goes_82 rfl (lv_at hl 4 rfl) ?_
                  refine r_get hx hb hts hown hK hW 0 (0) 6 (mM (by decide) (by decide)) rfl rfl hinX6 (by decide) hf30 rfl rfl dX6_goes_83 ?_
                  refine lv_iload_n hx hb dX6_goes_86 rfl (lv_at hl 5 rfl) ?_
                  refine r_aaldI hx hb hK hW 1 4 (a) (mM (by decide) (by decide)) rfl (show a < 33 by omega) (by decide) rfl rfl dX6_goes_87 ?_
                  refine lv_iload hx hb dX6_goes_88 (lv_at hl 2 rfl) ?_
                  refine rM_iald hx hb hK hW 11 (a) (r) (by decide) (by decide) (show a < 33 by omega) (show r < 4 by omega) rfl dX6_goes_90 (fun x13 ex13 => ?_)
                  refine lv_iload hx hb dX6_goes_91 (lv_at hl 1 rfl) ?_
                  refine lv_ishr hx hb dX6_goes_93 (lv_topi (fun x14 ex14 => ?_))
                  refine lv_iconst (v := nI 1) hx hb dX6_goes_94 (by decide) ?_
                  refine lv_iand hx hb dX6_goes_95 (lv_topi (fun x15 ex15 => ?_))
                  refine lv_if_eq (tgt := 148) hx hb dX6_goes_96 (by decide) (fun c96_15 => ?_) (fun c96_15 => ?_)
                  · refine lv_iinc (v := nI (k + 1)) (lv' := [(8, .int (nI (k + 1))), (9, .int (nI (1))), (7, .int (nI (r))), (6, .int (nI (q))), (0, .ref (ad 0 (0))), (1, .int (nI (a))), (2, .int (nI (rm))), (3, .int (ob)), (4, .int (act)), (5, .int (v))]) hx hb dX6_goes_148 hl (k := 1) rfl (nI_inc k 1) (by decide) rfl (fun ls hl => ?_)
                    have hG9 : gop J a rm ob act v (r * 31 + k) = false := by
                      simp only [gop, ofO, hd1, hd2]
                      rw [if_neg (Int32.not_lt.mpr c34_4)]
                      clear c34_4
                      subst ex15 ex14 ex13 ex6 ex3
                      simp only [goS_n (show (12 : Nat) ≠ 10 by decide) (show (12 : Nat) ≠ 11 by decide), goS_n (show (13 : Nat) ≠ 10 by decide) (show (13 : Nat) ≠ 11 by decide), goS_n (show (15 : Nat) ≠ 10 by decide) (show (15 : Nat) ≠ 11 by decide), goS_i (show a ≠ 27 by omega), sb_0, b01] at *
                      simp_all
                    have hN9 : rowl (k + 1) r = rowl k r ++ [r * 31 + k] := rowl_s k r
                    refine lv_goto (tgt := 21) hx hb dX6_goes_151 (by decide) ?_
                    have e9 : goS J a rm ob act v (als J r ++ rowl k r) = goS J a rm ob act v (als J r ++ rowl (k + 1) r) := by
                      rw [rowl_s, ← List.append_assoc, goS_x hG9]
                    have hW9 := hW
                    rw [e9] at hW9
                    exact ih21 (k + 1) (q) (by omega) (by rw [rowl_s, ← List.append_assoc, goL_x hG9]; exact hq) (by omega) _ _ hW9 hS _ (lv_sub hl [0, 2, 3, 4, 5, 6, 7, 8, 9] rfl)
                  · refine lv_iload hx hb dX6_goes_99 (lv_at hl 0 rfl) ?_
                    refine lv_if_eq (tgt := 148) hx hb dX6_goes_101 (by decide) (fun h => absurd h (by decide)) (fun _ => ?_)
                    refine lv_aload_n hx hb dX6_goes_104 rfl (lv_at hl 4 rfl) ?_
                    refine lv_iload hx hb dX6_goes_105 (lv_at hl 8 rfl) ?_
                    refine lv_iload hx hb dX6_goes_107 (lv_at hl 9 rfl) ?_
                    refine lv_aload_n hx hb dX6_goes_109 rfl (lv_at hl 4 rfl) ?_
                    refine r_get hx hb hts hown hK hW 0 (0) 1 (mM (by decide) (by decide)) rfl rfl hinX6 (by decide) hf15 rfl rfl dX6_goes_110 ?_
                    refine lv_iload hx hb dX6_goes_113 (lv_at hl 2 rfl) ?_
                    refine r_aaldI hx hb hK hW 1 0 (r) (mM (by decide) (by decide)) rfl (show r < 4 by omega) (by decide) rfl rfl dX6_goes_115 ?_
                    refine lv_iload hx hb dX6_goes_116 (lv_at hl 1 rfl) ?_
                    refine rM_iald hx hb hK hW 13 (r) (k) (by decide) (by decide) (show r < 4 by omega) (show k < 31 by omega) rfl dX6_goes_118 (fun x18 ex18 => ?_)
                    refine g_ci (va_runV (As := [.int (act), .int (v), .int (x18)]) (rest := []) ⟨hx, hb, hml, hown, hts⟩ (c_X6_isGone l D G ad hI (goS J a rm ob act v (als J r ++ rowl k r)) act v x18 ) (cwV 3 hts gX6_goes_X6_isGone rfl rfl rfl (by decide +kernel) ⟨Nat.le_of_ble_eq_true rfl, Nat.le_of_ble_eq_true rfl⟩) (g_preV hK hW 0 (0) (mM (by decide) (by decide)) rfl rfl) rfl rfl hl.1 rfl (lv_room (Nat.le_of_ble_eq_true rfl)) dX6_goes_119 ⟨Nat.le_refl _, Nat.le_refl _⟩) hS (fun x19 I19 H locs hp hW hS => ?_)
                    obtain ⟨ex19, eI19⟩ := hp
                    rw [eI19] at hW
                    clear eI19
                    refine lv_if_ne (tgt := 128) hx hb dX6_goes_122 (by decide) (fun c122_19 => ?_) (fun c122_19 => ?_)
                    · rw [ex19] at c122_19
                      replace c122_19 := bI_1.mp c122_19
                      try simp only [decide_eq_true_eq, decide_eq_false_iff_not] at c122_19
                      refine lv_aload_n hx hb dX6_goes_128 rfl (lv_at hl 4 rfl) ?_
                      refine r_get hx hb hts hown hK hW 0 (0) 5 (mM (by decide) (by decide)) rfl rfl hinX6 (by decide) hf27 rfl rfl dX6_goes_129 ?_
                      refine lv_bipush (v := nI 27) hx hb dX6_goes_132 (by decide) ?_
                      refine r_aaldI hx hb hK hW 1 3 (27) (mM (by decide) (by decide)) rfl (by decide) (by decide) rfl rfl dX6_goes_134 ?_
                      refine lv_iload hx hb dX6_goes_135 (lv_at hl 2 rfl) ?_
                      refine lv_dup2_11 hx hb dX6_goes_137 rfl rfl ?_
                      refine rM_iald hx hb hK hW 10 (27) (r) (by decide) (by decide) (by decide) (show r < 4 by omega) rfl dX6_goes_138 (fun x21 ex21 => ?_)
                      refine lv_iconst (v := nI 1) hx hb dX6_goes_139 (by decide) ?_
                      refine lv_iload hx hb dX6_goes_140 (lv_at hl 1 rfl) ?_
                      refine lv_ishl hx hb dX6_goes_142 (lv_topi (fun x22 ex22 => ?_))
                      replace ex22 : x22 = b1 k := ex22
                      refine lv_ior hx hb dX6_goes_143 (lv_topi (fun x23 ex23 => ?_))
                      refine rM_iast hx hb hK hI hW hS 10 (27) (r) (by decide) (by decide) (by decide) (show r < 4 by omega) rfl dX6_goes_144 (fun I24 H locs eI24 hW hS => ?_)
                      refine lv_iinc (v := nI (q + 1)) (lv' := [(6, .int (nI (q + 1))), (9, .int (nI (1))), (8, .int (nI (k))), (7, .int (nI (r))), (0, .ref (ad 0 (0))), (1, .int (nI (a))), (2, .int (nI (rm))), (3, .int (ob)), (4, .int (act)), (5, .int (v))]) hx hb dX6_goes_145 hl (k := 3) rfl (nI_inc q 1) (by decide) rfl (fun ls hl => ?_)
                      refine lv_iinc (v := nI (k + 1)) (lv' := [(8, .int (nI (k + 1))), (6, .int (nI (q + 1))), (9, .int (nI (1))), (7, .int (nI (r))), (0, .ref (ad 0 (0))), (1, .int (nI (a))), (2, .int (nI (rm))), (3, .int (ob)), (4, .int (act)), (5, .int (v))]) hx hb dX6_goes_148 hl (k := 2) rfl (nI_inc k 1) (by decide) rfl (fun ls hl => ?_)
                      have hG9 : gop J a rm ob act v (r * 31 + k) = true := by
                        simp only [gop, ofO, hd1, hd2]
                        rw [if_neg (Int32.not_lt.mpr c34_4)]
                        clear c34_4
                        subst eI24 ex23 ex22 ex21 ex19 ex18 ex15 ex14 ex13 ex6 ex3
                        simp only [goS_n (show (12 : Nat) ≠ 10 by decide) (show (12 : Nat) ≠ 11 by decide), goS_n (show (13 : Nat) ≠ 10 by decide) (show (13 : Nat) ≠ 11 by decide), goS_n (show (15 : Nat) ≠ 10 by decide) (show (15 : Nat) ≠ 11 by decide), goS_i (show a ≠ 27 by omega), sb_0, b01] at *
                        simp_all
                      have hN9 : rowl (k + 1) r = rowl k r ++ [r * 31 + k] := rowl_s k r
                      refine lv_goto (tgt := 21) hx hb dX6_goes_151 (by decide) ?_
                      have e9 : I24 = goS J a rm ob act v (als J r ++ rowl (k + 1) r) := by
                        rw [rowl_s, ← List.append_assoc, goS_y hG9]
                        subst eI24 ex23 ex22 ex21 ex19 ex18 ex15 ex14 ex13 ex6 ex3
                        simp only [got, hd1, hd2]
                      have hW9 := hW
                      rw [e9] at hW9
                      exact ih21 (k + 1) (q + 1) (by omega) (by rw [rowl_s, ← List.append_assoc, goL_y hG9]; rw [List.length_append, ← hq]; rfl) (by omega) _ _ hW9 hS _ (lv_sub hl [0, 3, 1, 4, 5, 6, 7, 8, 9] rfl)
                    · rw [ex19] at c122_19
                      replace c122_19 := bI_0.mp c122_19
                      try simp only [decide_eq_true_eq, decide_eq_false_iff_not] at c122_19
                      refine lv_goto (tgt := 148) hx hb dX6_goes_125 (by decide) ?_
                      refine lv_iinc (v := nI (k + 1)) (lv' := [(8, .int (nI (k + 1))), (9, .int (nI (1))), (7, .int (nI (r))), (6, .int (nI (q))), (0, .ref (ad 0 (0))), (1, .int (nI (a))), (2, .int (nI (rm))), (3, .int (ob)), (4, .int (act)), (5, .int (v))]) hx hb dX6_goes_148 hl (k := 1) rfl (nI_inc k 1) (by decide) rfl (fun ls hl => ?_)
                      have hG9 : gop J a rm ob act v (r * 31 + k) = false := by
                        simp only [gop, ofO, hd1, hd2]
                        rw [if_neg (Int32.not_lt.mpr c34_4)]
                        clear c34_4
                        subst ex19 ex18 ex15 ex14 ex13 ex6 ex3
                        simp only [goS_n (show (12 : Nat) ≠ 10 by decide) (show (12 : Nat) ≠ 11 by decide), goS_n (show (13 : Nat) ≠ 10 by decide) (show (13 : Nat) ≠ 11 by decide), goS_n (show (15 : Nat) ≠ 10 by decide) (show (15 : Nat) ≠ 11 by decide), goS_i (show a ≠ 27 by omega), sb_0, b01] at *
                        simp_all
                      have hN9 : rowl (k + 1) r = rowl k r ++ [r * 31 + k] := rowl_s k r
                      refine lv_goto (tgt := 21) hx hb dX6_goes_151 (by decide) ?_
                      have e9 : goS J a rm ob act v (als J r ++ rowl k r) = goS J a rm ob act v (als J r ++ rowl (k + 1) r) := by
                        rw [rowl_s, ← List.append_assoc, goS_x hG9]
                      have hW9 := hW
                      rw [e9] at hW9
                      exact ih21 (k + 1) (q) (by omega) (by rw [rowl_s, ← List.append_assoc, goL_x hG9]; exact hq) (by omega) _ _ hW9 hS _ (lv_sub hl [0, 2, 3, 4, 5, 6, 7, 8, 9] rfl)
              · refine lv_aload_n hx hb dX6_goes_37 rfl (lv_at hl 3 rfl) ?_
                refine r_get hx hb hts hown hK hW 0 (0) 3 (mM (by decide) (by decide)) rfl rfl hinX6 (by decide) hf21 rfl rfl dX6_goes_38 ?_
                refine lv_iload hx hb dX6_goes_41 (lv_at hl 1 rfl) ?_
                refine r_aaldI hx hb hK hW 1 2 (r) (mM (by decide) (by decide)) rfl (show r < 4 by omega) (by decide) rfl rfl dX6_goes_43 ?_
                refine lv_iload hx hb dX6_goes_44 (lv_at hl 0 rfl) ?_
                refine rM_iald hx hb hK hW 15 (r) (k) (by decide) (by decide) (show r < 4 by omega) (show k < 31 by omega) rfl dX6_goes_46 (fun x25 ex25 => ?_)
                refine lv_iconst (v := nI 4) hx hb dX6_goes_47 (by decide) ?_
                refine lv_idiv hx hb dX6_goes_48 (by decide) (lv_topi (fun x26 ex26 => ?_))
                refine lv_iload_n hx hb dX6_goes_49 rfl (lv_at hl 5 rfl) ?_
                refine lv_icmp_ne (tgt := 57) hx hb dX6_goes_50 (by decide) (fun c50_26 => ?_) (fun c50_26 => ?_)
                · refine lv_iconst (v := nI 0) hx hb dX6_goes_57 (by decide) ?_
                  refine lv_goto (tgt := 80) hx hb dX6_goes_58 (by decide) ?_
                  refine lv_istore (lv' := [(9, .int (nI (0))), (8, .int (nI (k))), (7, .int (nI (r))), (6, .int (nI (q))), (0, .ref (ad 0 (0))), (1, .int (nI (a))), (2, .int (nI (rm))), (3, .int (ob)), (4, .int (act)), (5, .int (v))]) hx hb dX6_goes_80 hl (by decide) rfl (fun ls hl => ?_)
                  refine lv_aload_n hx hb dX6_goes_82 rfl (lv_at hl 4 rfl) ?_
                  refine r_get hx hb hts hown hK hW 0 (0) 6 (mM (by decide) (by decide)) rfl rfl hinX6 (by decide) hf30 rfl rfl dX6_goes_83 ?_
                  refine lv_iload_n hx hb dX6_goes_86 rfl (lv_at hl 5 rfl) ?_
                  refine r_aaldI hx hb hK hW 1 4 (a) (mM (by decide) (by decide)) rfl (show a < 33 by omega) (by decide) rfl rfl dX6_goes_87 ?_
                  refine lv_iload hx hb dX6_goes_88 (lv_at hl 2 rfl) ?_
                  refine rM_iald hx hb hK hW 11 (a) (r) (by decide) (by decide) (show a < 33 by omega) (show r < 4 by omega) rfl dX6_goes_90 (fun x28 ex28 => ?_)
                  refine lv_iload hx hb dX6_goes_91 (lv_at hl 1 rfl) ?_
                  refine lv_ishr hx hb dX6_goes_93 (lv_topi (fun x29 ex29 => ?_))
                  refine lv_iconst (v := nI 1) hx hb dX6_goes_94 (by decide) ?_
                  refine lv_iand hx hb dX6_goes_95 (lv_topi (fun x30 ex30 => ?_))
                  refine lv_if_eq (tgt := 148) hx hb dX6_goes_96 (by decide) (fun c96_30 => ?_) (fun c96_30 => ?_)
                  · refine lv_iinc (v := nI (k + 1)) (lv' := [(8, .int (nI (k + 1))), (9, .int (nI (0))), (7, .int (nI (r))), (6, .int (nI (q))), (0, .ref (ad 0 (0))), (1, .int (nI (a))), (2, .int (nI (rm))), (3, .int (ob)), (4, .int (act)), (5, .int (v))]) hx hb dX6_goes_148 hl (k := 1) rfl (nI_inc k 1) (by decide) rfl (fun ls hl => ?_)
                    have hG9 : gop J a rm ob act v (r * 31 + k) = false := by
                      simp only [gop, ofO, hd1, hd2]
                      rw [if_pos (Int32.not_le.mp c34_4)]
                      clear c34_4
                      subst ex30 ex29 ex28 ex26 ex25 ex3
                      simp only [goS_n (show (12 : Nat) ≠ 10 by decide) (show (12 : Nat) ≠ 11 by decide), goS_n (show (13 : Nat) ≠ 10 by decide) (show (13 : Nat) ≠ 11 by decide), goS_n (show (15 : Nat) ≠ 10 by decide) (show (15 : Nat) ≠ 11 by decide), goS_i (show a ≠ 27 by omega), sb_0, b01] at *
                      simp_all
                    have hN9 : rowl (k + 1) r = rowl k r ++ [r * 31 + k] := rowl_s k r
                    refine lv_goto (tgt := 21) hx hb dX6_goes_151 (by decide) ?_
                    have e9 : goS J a rm ob act v (als J r ++ rowl k r) = goS J a rm ob act v (als J r ++ rowl (k + 1) r) := by
                      rw [rowl_s, ← List.append_assoc, goS_x hG9]
                    have hW9 := hW
                    rw [e9] at hW9
                    exact ih21 (k + 1) (q) (by omega) (by rw [rowl_s, ← List.append_assoc, goL_x hG9]; exact hq) (by omega) _ _ hW9 hS _ (lv_sub hl [0, 2, 3, 4, 5, 6, 7, 8, 9] rfl)
                  · refine lv_iload hx hb dX6_goes_99 (lv_at hl 0 rfl) ?_
                    refine lv_if_eq (tgt := 148) hx hb dX6_goes_101 (by decide) (fun _ => ?_) (fun h => absurd (by decide) h)
                    refine lv_iinc (v := nI (k + 1)) (lv' := [(8, .int (nI (k + 1))), (9, .int (nI (0))), (7, .int (nI (r))), (6, .int (nI (q))), (0, .ref (ad 0 (0))), (1, .int (nI (a))), (2, .int (nI (rm))), (3, .int (ob)), (4, .int (act)), (5, .int (v))]) hx hb dX6_goes_148 hl (k := 1) rfl (nI_inc k 1) (by decide) rfl (fun ls hl => ?_)
                    have hG9 : gop J a rm ob act v (r * 31 + k) = false := by
                      simp only [gop, ofO, hd1, hd2]
                      rw [if_pos (Int32.not_le.mp c34_4)]
                      clear c34_4
                      subst ex30 ex29 ex28 ex26 ex25 ex3
                      simp only [goS_n (show (12 : Nat) ≠ 10 by decide) (show (12 : Nat) ≠ 11 by decide), goS_n (show (13 : Nat) ≠ 10 by decide) (show (13 : Nat) ≠ 11 by decide), goS_n (show (15 : Nat) ≠ 10 by decide) (show (15 : Nat) ≠ 11 by decide), goS_i (show a ≠ 27 by omega), sb_0, b01] at *
                      simp_all
                    have hN9 : rowl (k + 1) r = rowl k r ++ [r * 31 + k] := rowl_s k r
                    refine lv_goto (tgt := 21) hx hb dX6_goes_151 (by decide) ?_
                    have e9 : goS J a rm ob act v (als J r ++ rowl k r) = goS J a rm ob act v (als J r ++ rowl (k + 1) r) := by
                      rw [rowl_s, ← List.append_assoc, goS_x hG9]
                    have hW9 := hW
                    rw [e9] at hW9
                    exact ih21 (k + 1) (q) (by omega) (by rw [rowl_s, ← List.append_assoc, goL_x hG9]; exact hq) (by omega) _ _ hW9 hS _ (lv_sub hl [0, 2, 3, 4, 5, 6, 7, 8, 9] rfl)
                · refine lv_iconst (v := nI 1) hx hb dX6_goes_53 (by decide) ?_
                  refine lv_goto (tgt := 80) hx hb dX6_goes_54 (by decide) ?_
                  refine lv_istore (lv' := [(9, .int (nI (1))), (8, .int (nI (k))), (7, .int (nI (r))), (6, .int (nI (q))), (0, .ref (ad 0 (0))), (1, .int (nI (a))), (2, .int (nI (rm))), (3, .int (ob)), (4, .int (act)), (5, .int (v))]) hx hb dX6_goes_80 hl (by decide) rfl (fun ls hl => ?_)
                  refine lv_aload_n hx hb dX6_goes_82 rfl (lv_at hl 4 rfl) ?_
                  refine r_get hx hb hts hown hK hW 0 (0) 6 (mM (by decide) (by decide)) rfl rfl hinX6 (by decide) hf30 rfl rfl dX6_goes_83 ?_
                  refine lv_iload_n hx hb dX6_goes_86 rfl (lv_at hl 5 rfl) ?_
                  refine r_aaldI hx hb hK hW 1 4 (a) (mM (by decide) (by decide)) rfl (show a < 33 by omega) (by decide) rfl rfl dX6_goes_87 ?_
                  refine lv_iload hx hb dX6_goes_88 (lv_at hl 2 rfl) ?_
                  refine rM_iald hx hb hK hW 11 (a) (r) (by decide) (by decide) (show a < 33 by omega) (show r < 4 by omega) rfl dX6_goes_90 (fun x33 ex33 => ?_)
                  refine lv_iload hx hb dX6_goes_91 (lv_at hl 1 rfl) ?_
                  refine lv_ishr hx hb dX6_goes_93 (lv_topi (fun x34 ex34 => ?_))
                  refine lv_iconst (v := nI 1) hx hb dX6_goes_94 (by decide) ?_
                  refine lv_iand hx hb dX6_goes_95 (lv_topi (fun x35 ex35 => ?_))
                  refine lv_if_eq (tgt := 148) hx hb dX6_goes_96 (by decide) (fun c96_35 => ?_) (fun c96_35 => ?_)
                  · refine lv_iinc (v := nI (k + 1)) (lv' := [(8, .int (nI (k + 1))), (9, .int (nI (1))), (7, .int (nI (r))), (6, .int (nI (q))), (0, .ref (ad 0 (0))), (1, .int (nI (a))), (2, .int (nI (rm))), (3, .int (ob)), (4, .int (act)), (5, .int (v))]) hx hb dX6_goes_148 hl (k := 1) rfl (nI_inc k 1) (by decide) rfl (fun ls hl => ?_)
                    have hG9 : gop J a rm ob act v (r * 31 + k) = false := by
                      simp only [gop, ofO, hd1, hd2]
                      rw [if_pos (Int32.not_le.mp c34_4)]
                      clear c34_4
                      subst ex35 ex34 ex33 ex26 ex25 ex3
                      simp only [goS_n (show (12 : Nat) ≠ 10 by decide) (show (12 : Nat) ≠ 11 by decide), goS_n (show (13 : Nat) ≠ 10 by decide) (show (13 : Nat) ≠ 11 by decide), goS_n (show (15 : Nat) ≠ 10 by decide) (show (15 : Nat) ≠ 11 by decide), goS_i (show a ≠ 27 by omega), sb_0, b01] at *
                      simp_all
                    have hN9 : rowl (k + 1) r = rowl k r ++ [r * 31 + k] := rowl_s k r
                    refine lv_goto (tgt := 21) hx hb dX6_goes_151 (by decide) ?_
                    have e9 : goS J a rm ob act v (als J r ++ rowl k r) = goS J a rm ob act v (als J r ++ rowl (k + 1) r) := by
                      rw [rowl_s, ← List.append_assoc, goS_x hG9]
                    have hW9 := hW
                    rw [e9] at hW9
                    exact ih21 (k + 1) (q) (by omega) (by rw [rowl_s, ← List.append_assoc, goL_x hG9]; exact hq) (by omega) _ _ hW9 hS _ (lv_sub hl [0, 2, 3, 4, 5, 6, 7, 8, 9] rfl)
                  · refine lv_iload hx hb dX6_goes_99 (lv_at hl 0 rfl) ?_
                    refine lv_if_eq (tgt := 148) hx hb dX6_goes_101 (by decide) (fun h => absurd h (by decide)) (fun _ => ?_)
                    refine lv_aload_n hx hb dX6_goes_104 rfl (lv_at hl 4 rfl) ?_
                    refine lv_iload hx hb dX6_goes_105 (lv_at hl 8 rfl) ?_
                    refine lv_iload hx hb dX6_goes_107 (lv_at hl 9 rfl) ?_
                    refine lv_aload_n hx hb dX6_goes_109 rfl (lv_at hl 4 rfl) ?_
                    refine r_get hx hb hts hown hK hW 0 (0) 1 (mM (by decide) (by decide)) rfl rfl hinX6 (by decide) hf15 rfl rfl dX6_goes_110 ?_
                    refine lv_iload hx hb dX6_goes_113 (lv_at hl 2 rfl) ?_
                    refine r_aaldI hx hb hK hW 1 0 (r) (mM (by decide) (by decide)) rfl (show r < 4 by omega) (by decide) rfl rfl dX6_goes_115 ?_
                    refine lv_iload hx hb dX6_goes_116 (lv_at hl 1 rfl) ?_
                    refine rM_iald hx hb hK hW 13 (r) (k) (by decide) (by decide) (show r < 4 by omega) (show k < 31 by omega) rfl dX6_goes_118 (fun x38 ex38 => ?_)
                    refine g_ci (va_runV (As := [.int (act), .int (v), .int (x38)]) (rest := []) ⟨hx, hb, hml, hown, hts⟩ (c_X6_isGone l D G ad hI (goS J a rm ob act v (als J r ++ rowl k r)) act v x38 ) (cwV 3 hts gX6_goes_X6_isGone rfl rfl rfl (by decide +kernel) ⟨Nat.le_of_ble_eq_true rfl, Nat.le_of_ble_eq_true rfl⟩) (g_preV hK hW 0 (0) (mM (by decide) (by decide)) rfl rfl) rfl rfl hl.1 rfl (lv_room (Nat.le_of_ble_eq_true rfl)) dX6_goes_119 ⟨Nat.le_refl _, Nat.le_refl _⟩) hS (fun x39 I39 H locs hp hW hS => ?_)
                    obtain ⟨ex39, eI39⟩ := hp
                    rw [eI39] at hW
                    clear eI39
                    refine lv_if_ne (tgt := 128) hx hb dX6_goes_122 (by decide) (fun c122_39 => ?_) (fun c122_39 => ?_)
                    · rw [ex39] at c122_39
                      replace c122_39 := bI_1.mp c122_39
                      try simp only [decide_eq_true_eq, decide_eq_false_iff_not] at c122_39
                      refine lv_aload_n hx hb dX6_goes_128 rfl (lv_at hl 4 rfl) ?_
                      refine r_get hx hb hts hown hK hW 0 (0) 5 (mM (by decide) (by decide)) rfl rfl hinX6 (by decide) hf27 rfl rfl dX6_goes_129 ?_
                      refine lv_bipush (v := nI 27) hx hb dX6_goes_132 (by decide) ?_
                      refine r_aaldI hx hb hK hW 1 3 (27) (mM (by decide) (by decide)) rfl (by decide) (by decide) rfl rfl dX6_goes_134 ?_
                      refine lv_iload hx hb dX6_goes_135 (lv_at hl 2 rfl) ?_
                      refine lv_dup2_11 hx hb dX6_goes_137 rfl rfl ?_
                      refine rM_iald hx hb hK hW 10 (27) (r) (by decide) (by decide) (by decide) (show r < 4 by omega) rfl dX6_goes_138 (fun x41 ex41 => ?_)
                      refine lv_iconst (v := nI 1) hx hb dX6_goes_139 (by decide) ?_
                      refine lv_iload hx hb dX6_goes_140 (lv_at hl 1 rfl) ?_
                      refine lv_ishl hx hb dX6_goes_142 (lv_topi (fun x42 ex42 => ?_))
                      replace ex42 : x42 = b1 k := ex42
                      refine lv_ior hx hb dX6_goes_143 (lv_topi (fun x43 ex43 => ?_))
                      refine rM_iast hx hb hK hI hW hS 10 (27) (r) (by decide) (by decide) (by decide) (show r < 4 by omega) rfl dX6_goes_144 (fun I44 H locs eI44 hW hS => ?_)
                      refine lv_iinc (v := nI (q + 1)) (lv' := [(6, .int (nI (q + 1))), (9, .int (nI (1))), (8, .int (nI (k))), (7, .int (nI (r))), (0, .ref (ad 0 (0))), (1, .int (nI (a))), (2, .int (nI (rm))), (3, .int (ob)), (4, .int (act)), (5, .int (v))]) hx hb dX6_goes_145 hl (k := 3) rfl (nI_inc q 1) (by decide) rfl (fun ls hl => ?_)
                      refine lv_iinc (v := nI (k + 1)) (lv' := [(8, .int (nI (k + 1))), (6, .int (nI (q + 1))), (9, .int (nI (1))), (7, .int (nI (r))), (0, .ref (ad 0 (0))), (1, .int (nI (a))), (2, .int (nI (rm))), (3, .int (ob)), (4, .int (act)), (5, .int (v))]) hx hb dX6_goes_148 hl (k := 2) rfl (nI_inc k 1) (by decide) rfl (fun ls hl => ?_)
                      have hG9 : gop J a rm ob act v (r * 31 + k) = true := by
                        simp only [gop, ofO, hd1, hd2]
                        rw [if_pos (Int32.not_le.mp c34_4)]
                        clear c34_4
                        subst eI44 ex43 ex42 ex41 ex39 ex38 ex35 ex34 ex33 ex26 ex25 ex3
                        simp only [goS_n (show (12 : Nat) ≠ 10 by decide) (show (12 : Nat) ≠ 11 by decide), goS_n (show (13 : Nat) ≠ 10 by decide) (show (13 : Nat) ≠ 11 by decide), goS_n (show (15 : Nat) ≠ 10 by decide) (show (15 : Nat) ≠ 11 by decide), goS_i (show a ≠ 27 by omega), sb_0, b01] at *
                        simp_all
                      have hN9 : rowl (k + 1) r = rowl k r ++ [r * 31 + k] := rowl_s k r
                      refine lv_goto (tgt := 21) hx hb dX6_goes_151 (by decide) ?_
                      have e9 : I44 = goS J a rm ob act v (als J r ++ rowl (k + 1) r) := by
                        rw [rowl_s, ← List.append_assoc, goS_y hG9]
                        subst eI44 ex43 ex42 ex41 ex39 ex38 ex35 ex34 ex33 ex26 ex25 ex3
                        simp only [got, hd1, hd2]
                      have hW9 := hW
                      rw [e9] at hW9
                      exact ih21 (k + 1) (q + 1) (by omega) (by rw [rowl_s, ← List.append_assoc, goL_y hG9]; rw [List.length_append, ← hq]; rfl) (by omega) _ _ hW9 hS _ (lv_sub hl [0, 3, 1, 4, 5, 6, 7, 8, 9] rfl)
                    · rw [ex39] at c122_39
                      replace c122_39 := bI_0.mp c122_39
                      try simp only [decide_eq_true_eq, decide_eq_false_iff_not] at c122_39
                      refine lv_goto (tgt := 148) hx hb dX6_goes_125 (by decide) ?_
                      refine lv_iinc (v := nI (k + 1)) (lv' := [(8, .int (nI (k + 1))), (9, .int (nI (1))), (7, .int (nI (r))), (6, .int (nI (q))), (0, .ref (ad 0 (0))), (1, .int (nI (a))), (2, .int (nI (rm))), (3, .int (ob)), (4, .int (act)), (5, .int (v))]) hx hb dX6_goes_148 hl (k := 1) rfl (nI_inc k 1) (by decide) rfl (fun ls hl => ?_)
                      have hG9 : gop J a rm ob act v (r * 31 + k) = false := by
                        simp only [gop, ofO, hd1, hd2]
                        rw [if_pos (Int32.not_le.mp c34_4)]
                        clear c34_4
                        subst ex39 ex38 ex35 ex34 ex33 ex26 ex25 ex3
                        simp only [goS_n (show (12 : Nat) ≠ 10 by decide) (show (12 : Nat) ≠ 11 by decide), goS_n (show (13 : Nat) ≠ 10 by decide) (show (13 : Nat) ≠ 11 by decide), goS_n (show (15 : Nat) ≠ 10 by decide) (show (15 : Nat) ≠ 11 by decide), goS_i (show a ≠ 27 by omega), sb_0, b01] at *
                        simp_all
                      have hN9 : rowl (k + 1) r = rowl k r ++ [r * 31 + k] := rowl_s k r
                      refine lv_goto (tgt := 21) hx hb dX6_goes_151 (by decide) ?_
                      have e9 : goS J a rm ob act v (als J r ++ rowl k r) = goS J a rm ob act v (als J r ++ rowl (k + 1) r) := by
                        rw [rowl_s, ← List.append_assoc, goS_x hG9]
                      have hW9 := hW
                      rw [e9] at hW9
                      exact ih21 (k + 1) (q) (by omega) (by rw [rowl_s, ← List.append_assoc, goL_x hG9]; exact hq) (by omega) _ _ hW9 hS _ (lv_sub hl [0, 2, 3, 4, 5, 6, 7, 8, 9] rfl)
        have e9 : goS J a rm ob act v (als J r) = goS J a rm ob act v (als J r ++ rowl 0 r) := by
          rw [rowl_0, List.append_nil]
        have hW9 := hW
        rw [e9] at hW9
        exact K21 ((mk J r) + 1) (0) (z) (Nat.zero_le _) (by rw [rowl_0, List.append_nil]; exact hz) (by omega) _ _ hW9 hS _ (lv_sub hl [0, 1, 2, 3, 4, 5, 6, 7, 8] rfl)
  have e9 : I1 = goS J a rm ob act v (als J 0) := by
    subst eI1
    rfl
  have hW9 := hW
  rw [e9] at hW9
  exact K12 (4 + 1) (0) (0) (by decide) rfl (by omega) _ _ hW9 hS _ (lv_sub hl [0, 1, 2, 3, 4, 5, 6, 7] rfl)

set_option maxHeartbeats 4000000 in
set_option maxRecDepth 100000 in
theorem c_X6_isNew (l : Launch) (D : va_G) (G : Nat → ClassId) (ad : Nat → Nat → Nat) (hI : wI LM ad) (J : St) (r : Nat) (hr4 : r < 4) : Met l yX6_isNew wsX6_isNew ({ frames := 1, cells := 0, slots := 0, locals := 25 } : Room) (gPre D G LM ad [.ref (ad 0 (0)), .int (nI (r))] (wM G ad J)) (gQv D LM ad (wM G ad) (fun u => u = inS J r)) 0 0 (wA LM ad) := by
  refine g_entry (C := RX6) (cc := cX6_isNew) (maxL := 3) (ret := none) rfl (by decide) rfl (Nat.le_of_ble_eq_true rfl) (fun p e s m args below meth c Q ls hQ hx hb hr hts hown hlocks hml hW hK hl => ?_)
  have hl : lv_has ls 3 [(0, .ref (ad 0 (0))), (1, .int (nI (r)))] := hl
  have hS := va_S.rf (A := wA LM ad) (H0 := s.heap)
  refine lv_aload_n hx hb dX6_isNew_0 rfl (lv_at hl 0 rfl) ?_
  refine lv_iload_n hx hb dX6_isNew_1 rfl (lv_at hl 1 rfl) ?_
  refine lv_bipush (v := nI 27) hx hb dX6_isNew_2 (by decide) ?_
  refine g_cv (va_runV (As := [.int (nI (r)), .int (nI (27))]) (rest := []) ⟨hx, hb, hml, hown, hts⟩ (c_X6_join l D G ad hI J r 27 (show r < 33 by omega) (by decide)) (cwV 2 hts gX6_isNew_X6_join rfl rfl rfl (by decide +kernel) ⟨Nat.le_of_ble_eq_true rfl, Nat.le_of_ble_eq_true rfl⟩) (g_preV hK hW 0 (0) (mM (by decide) (by decide)) rfl rfl) rfl rfl hl.1 rfl (lv_room (Nat.le_of_ble_eq_true rfl)) dX6_isNew_4 ⟨Nat.le_refl _, Nat.le_refl _⟩) hS (fun I1 H locs hp hW hS => ?_)
  have eI1 : I1 = jn J r 27 := hp
  refine lv_iconst (v := nI 0) hx hb dX6_isNew_7 (by decide) ?_
  refine lv_istore_n (lv' := [(2, .int (nI (0))), (0, .ref (ad 0 (0))), (1, .int (nI (r)))]) hx hb dX6_isNew_8 rfl hl (by decide) rfl (fun ls hl => ?_)
  have K9 : ∀ (n : Nat) (i : Nat), (i ≤ 4) → 4 < i + n → ∀ (H : Heap) (locs : List Loc), va_P D vwCl (wS LM ad (wM G ad (inP J r i))) H → va_S (wA LM ad) s.heap H locs → ∀ (ls : Array Slot), lv_has ls 3 [(2, .int (nI (i))), (0, .ref (ad 0 (0))), (1, .int (nI (r)))] → W p l e ({ frames := 1, cells := 0, slots := 0, locals := 25 } : Room) s m args below meth c H locs 0 0 Q (F0 m 9 ls []) := by
    intro n9
    induction n9 with
    | zero => intro i hi hfu; exact absurd hfu (by omega)
    | succ n9 ih9 =>
      intro i hi hfu H locs hW hS ls hl
      refine lv_iload_n hx hb dX6_isNew_9 rfl (lv_at hl 0 rfl) ?_
      refine lv_iconst (v := nI 4) hx hb dX6_isNew_10 (by decide) ?_
      refine lv_icmp_ge (tgt := 38) hx hb dX6_isNew_11 (by decide) (fun c11_1 => ?_) (fun c11_1 => ?_)
      · replace c11_1 : 4 ≤ i := (nI_leI (show 4 < 2147483648 by omega) (show i < 2147483648 by omega)).mp c11_1
        rw [hQ]
        exact g_vret (wd := wM G ad) hx hb hr hlocks hW hS (by have e4 : i = 4 := (by omega); subst e4; rfl) dX6_isNew_38
      · replace c11_1 : ¬ (4 ≤ i) := fun h => c11_1 ((nI_leI (show 4 < 2147483648 by omega) (show i < 2147483648 by omega)).mpr h)
        refine lv_iload_n hx hb dX6_isNew_14 rfl (lv_at hl 0 rfl) ?_
        refine lv_iload_n hx hb dX6_isNew_15 rfl (lv_at hl 2 rfl) ?_
        refine lv_icmp_eq (tgt := 32) hx hb dX6_isNew_16 (by decide) (fun c16_2 => ?_) (fun c16_2 => ?_)
        · replace c16_2 : i = r := (nI_eq (show i < 2147483648 by omega) (show r < 2147483648 by omega)).mp c16_2
          refine lv_iinc (v := nI (i + 1)) (lv' := [(2, .int (nI (i + 1))), (0, .ref (ad 0 (0))), (1, .int (nI (r)))]) hx hb dX6_isNew_32 hl (k := 0) rfl (nI_inc i 1) (by decide) rfl (fun ls hl => ?_)
          refine lv_goto (tgt := 9) hx hb dX6_isNew_35 (by decide) ?_
          have e9 : inP J r i = inP J r (i + 1) := by
            rw [inP, if_pos c16_2]
          have hW9 := hW
          rw [e9] at hW9
          exact ih9 (i + 1) (by omega) (by omega) _ _ hW9 hS _ (lv_sub hl [0, 1, 2] rfl)
        · replace c16_2 : ¬ (i = r) := fun h => c16_2 ((nI_eq (show i < 2147483648 by omega) (show r < 2147483648 by omega)).mpr h)
          refine lv_aload_n hx hb dX6_isNew_19 rfl (lv_at hl 1 rfl) ?_
          refine lv_iconst (v := nI 4) hx hb dX6_isNew_20 (by decide) ?_
          refine lv_iconst (v := nI 4) hx hb dX6_isNew_21 (by decide) ?_
          refine lv_iload_n hx hb dX6_isNew_22 rfl (lv_at hl 2 rfl) ?_
          refine lv_imul hx hb dX6_isNew_23 (r_top (pk_mul _ _) ?_)
          refine lv_iadd hx hb dX6_isNew_24 (r_top (nI_add _ _) ?_)
          refine lv_iload_n hx hb dX6_isNew_25 rfl (lv_at hl 0 rfl) ?_
          refine lv_iadd hx hb dX6_isNew_26 (r_top (nI_add _ _) ?_)
          refine lv_bipush (v := nI 27) hx hb dX6_isNew_27 (by decide) ?_
          refine g_cv (va_runV (As := [.int (nI ((4 + (4 * r)) + i)), .int (nI (27))]) (rest := []) ⟨hx, hb, hml, hown, hts⟩ (c_X6_join l D G ad hI (inP J r i) ((4 + (4 * r)) + i) 27 (show (4 + (4 * r)) + i < 33 by omega) (by decide)) (cwV 2 hts gX6_isNew_X6_join rfl rfl rfl (by decide +kernel) ⟨Nat.le_of_ble_eq_true rfl, Nat.le_of_ble_eq_true rfl⟩) (g_preV hK hW 0 (0) (mM (by decide) (by decide)) rfl rfl) rfl rfl hl.1 rfl (lv_room (Nat.le_of_ble_eq_true rfl)) dX6_isNew_29 ⟨Nat.le_refl _, Nat.le_refl _⟩) hS (fun I4 H locs hp hW hS => ?_)
          have eI4 : I4 = jn (inP J r i) ((4 + (4 * r)) + i) 27 := hp
          refine lv_iinc (v := nI (i + 1)) (lv' := [(2, .int (nI (i + 1))), (0, .ref (ad 0 (0))), (1, .int (nI (r)))]) hx hb dX6_isNew_32 hl (k := 0) rfl (nI_inc i 1) (by decide) rfl (fun ls hl => ?_)
          refine lv_goto (tgt := 9) hx hb dX6_isNew_35 (by decide) ?_
          have e9 : I4 = inP J r (i + 1) := by
            rw [inP, if_neg c16_2]
            subst eI4
            rfl
          have hW9 := hW
          rw [e9] at hW9
          exact ih9 (i + 1) (by omega) (by omega) _ _ hW9 hS _ (lv_sub hl [0, 1, 2] rfl)
  have e9 : I1 = inP J r 0 := by
    subst eI1
    rfl
  have hW9 := hW
  rw [e9] at hW9
  exact K9 (4 + 1) (0) (by omega) (by omega) _ _ hW9 hS _ (lv_sub hl [0, 1, 2] rfl)

set_option maxHeartbeats 4000000 in
set_option maxRecDepth 100000 in
theorem c_X6_stampAbove (l : Launch) (D : va_G) (G : Nat → ClassId) (ad : Nat → Nat → Nat) (hI : wI LM ad) (J : St) (a : Nat) (ha : a < 33) (hM : okM J) : Met l yX6_stampAbove wsX6_stampAbove ({ frames := 1, cells := 0, slots := 0, locals := 32 } : Room) (gPre D G LM ad [.ref (ad 0 (0)), .int (nI (a))] (wM G ad J)) (gQi D LM ad (wM G ad) (fun r9 u => r9 = sar J a 4 + nI 1 ∧ u = J)) 0 0 (wA LM ad) := by
  refine g_entry (C := RX6) (cc := cX6_stampAbove) (maxL := 5) (ret := (some .int)) rfl (by decide) rfl (Nat.le_of_ble_eq_true rfl) (fun p e s m args below meth c Q ls hQ hx hb hr hts hown hlocks hml hW hK hl => ?_)
  have hl : lv_has ls 5 [(0, .ref (ad 0 (0))), (1, .int (nI (a)))] := hl
  have hS := va_S.rf (A := wA LM ad) (H0 := s.heap)
  have hinX6 : ∀ w ∈ wsX60, w ∈ wsX6_stampAbove := by decide +kernel
  have hf9 := hts (.fieldLink RX6 9 "JoinedStoresModel" "made" "[I") (by decide +kernel)
  have hf18 := hts (.fieldLink RX6 18 "JoinedStoresModel" "stamps" "[[I") (by decide +kernel)
  have hf27 := hts (.fieldLink RX6 27 "JoinedStoresModel" "heard" "[[I") (by decide +kernel)
  refine lv_iconst (v := nI 0) hx hb dX6_stampAbove_0 (by decide) ?_
  refine lv_istore_n (lv' := [(2, .int (nI (0))), (0, .ref (ad 0 (0))), (1, .int (nI (a)))]) hx hb dX6_stampAbove_1 rfl hl (by decide) rfl (fun ls hl => ?_)
  refine lv_iconst (v := nI 0) hx hb dX6_stampAbove_2 (by decide) ?_
  refine lv_istore_n (lv' := [(3, .int (nI (0))), (2, .int (nI (0))), (0, .ref (ad 0 (0))), (1, .int (nI (a)))]) hx hb dX6_stampAbove_3 rfl hl (by decide) rfl (fun ls hl => ?_)
  have K4 : ∀ (n : Nat) (r : Nat) (d : Int32), (r ≤ 4) → (d = sar J a r) → 4 < r + n → ∀ (H : Heap) (locs : List Loc), va_P D vwCl (wS LM ad (wM G ad J)) H → va_S (wA LM ad) s.heap H locs → ∀ (ls : Array Slot), lv_has ls 5 [(3, .int (nI (r))), (2, .int (d)), (0, .ref (ad 0 (0))), (1, .int (nI (a)))] → W p l e ({ frames := 1, cells := 0, slots := 0, locals := 32 } : Room) s m args below meth c H locs 0 0 Q (F0 m 4 ls []) := by
    intro n4
    induction n4 with
    | zero => intro r d hr4 hd hfu; exact absurd hfu (by omega)
    | succ n4 ih4 =>
      intro r d hr4 hd hfu H locs hW hS ls hl
      refine lv_iload_n hx hb dX6_stampAbove_4 rfl (lv_at hl 0 rfl) ?_
      refine lv_iconst (v := nI 4) hx hb dX6_stampAbove_5 (by decide) ?_
      refine lv_icmp_ge (tgt := 66) hx hb dX6_stampAbove_6 (by decide) (fun c6_0 => ?_) (fun c6_0 => ?_)
      · replace c6_0 : 4 ≤ r := (nI_leI (show 4 < 2147483648 by omega) (show r < 2147483648 by omega)).mp c6_0
        refine lv_iload_n hx hb dX6_stampAbove_66 rfl (lv_at hl 1 rfl) ?_
        refine lv_iconst (v := nI 1) hx hb dX6_stampAbove_67 (by decide) ?_
        refine lv_iadd hx hb dX6_stampAbove_68 (lv_topi (fun x2 ex2 => ?_))
        rw [hQ]
        exact g_iret (wd := wM G ad) hx hb hr rfl hlocks hW hS (by have e4 : r = 4 := (by omega); subst e4; subst ex2; rw [hd]; exact ⟨rfl, rfl⟩) dX6_stampAbove_69
      · replace c6_0 : ¬ (4 ≤ r) := fun h => c6_0 ((nI_leI (show 4 < 2147483648 by omega) (show r < 2147483648 by omega)).mpr h)
        refine lv_iconst (v := nI 0) hx hb dX6_stampAbove_9 (by decide) ?_
        refine lv_istore (lv' := [(4, .int (nI (0))), (3, .int (nI (r))), (2, .int (d)), (0, .ref (ad 0 (0))), (1, .int (nI (a)))]) hx hb dX6_stampAbove_10 hl (by decide) rfl (fun ls hl => ?_)
        have K12 : ∀ (n : Nat) (k : Nat) (q : Int32), (k ≤ mk J r) → (q = sak J a r d k) → (mk J r) < k + n → ∀ (H : Heap) (locs : List Loc), va_P D vwCl (wS LM ad (wM G ad J)) H → va_S (wA LM ad) s.heap H locs → ∀ (ls : Array Slot), lv_has ls 5 [(4, .int (nI (k))), (3, .int (nI (r))), (2, .int (q)), (0, .ref (ad 0 (0))), (1, .int (nI (a)))] → W p l e ({ frames := 1, cells := 0, slots := 0, locals := 32 } : Room) s m args below meth c H locs 0 0 Q (F0 m 12 ls []) := by
          intro n12
          induction n12 with
          | zero => intro k q hk hq hfu; exact absurd hfu (by omega)
          | succ n12 ih12 =>
            intro k q hk hq hfu H locs hW hS ls hl
            refine lv_iload hx hb dX6_stampAbove_12 (lv_at hl 0 rfl) ?_
            refine lv_aload_n hx hb dX6_stampAbove_14 rfl (lv_at hl 3 rfl) ?_
            refine r_get hx hb hts hown hK hW 0 (0) 0 (mM (by decide) (by decide)) rfl rfl hinX6 (by decide) hf9 rfl rfl dX6_stampAbove_15 ?_
            refine lv_iload_n hx hb dX6_stampAbove_18 rfl (lv_at hl 1 rfl) ?_
            refine rM_iald hx hb hK hW 12 (0) (r) (by decide) (by decide) (by decide) (show r < 4 by omega) rfl dX6_stampAbove_19 (fun x3 ex3 => ?_)
            have hm_r := (hM r (by omega)).2
            refine r_top (show x3 = nI (mk J r) from (ex3.trans ((hM r (by omega)).1))) ?_
            refine lv_icmp_ge (tgt := 60) hx hb dX6_stampAbove_20 (by decide) (fun c20_3 => ?_) (fun c20_3 => ?_)
            · replace c20_3 : mk J r ≤ k := (nI_leI (show mk J r < 2147483648 by omega) (show k < 2147483648 by omega)).mp c20_3
              refine lv_iinc (v := nI (r + 1)) (lv' := [(3, .int (nI (r + 1))), (4, .int (nI (k))), (2, .int (q)), (0, .ref (ad 0 (0))), (1, .int (nI (a)))]) hx hb dX6_stampAbove_60 hl (k := 1) rfl (nI_inc r 1) (by decide) rfl (fun ls hl => ?_)
              refine lv_goto (tgt := 4) hx hb dX6_stampAbove_63 (by decide) ?_
              exact ih4 (r + 1) (q) (by omega) (by rw [hq]; have e9 : k = mk J r := (by omega); subst e9; rw [hd]; rfl) (by omega) _ _ hW hS _ (lv_sub hl [0, 2, 3, 4] rfl)
            · replace c20_3 : ¬ (mk J r ≤ k) := fun h => c20_3 ((nI_leI (show mk J r < 2147483648 by omega) (show k < 2147483648 by omega)).mpr h)
              refine lv_aload_n hx hb dX6_stampAbove_23 rfl (lv_at hl 3 rfl) ?_
              refine r_get hx hb hts hown hK hW 0 (0) 5 (mM (by decide) (by decide)) rfl rfl hinX6 (by decide) hf27 rfl rfl dX6_stampAbove_24 ?_
              refine lv_iload_n hx hb dX6_stampAbove_27 rfl (lv_at hl 4 rfl) ?_
              refine r_aaldI hx hb hK hW 1 3 (a) (mM (by decide) (by decide)) rfl (show a < 33 by omega) (by decide) rfl rfl dX6_stampAbove_28 ?_
              refine lv_iload_n hx hb dX6_stampAbove_29 rfl (lv_at hl 1 rfl) ?_
              refine rM_iald hx hb hK hW 10 (a) (r) (by decide) (by decide) (show a < 33 by omega) (show r < 4 by omega) rfl dX6_stampAbove_30 (fun x5 ex5 => ?_)
              refine lv_iload hx hb dX6_stampAbove_31 (lv_at hl 0 rfl) ?_
              refine lv_ishr hx hb dX6_stampAbove_33 (lv_topi (fun x6 ex6 => ?_))
              refine lv_iconst (v := nI 1) hx hb dX6_stampAbove_34 (by decide) ?_
              refine lv_iand hx hb dX6_stampAbove_35 (lv_topi (fun x7 ex7 => ?_))
              refine lv_iconst (v := nI 1) hx hb dX6_stampAbove_36 (by decide) ?_
              refine lv_icmp_ne (tgt := 54) hx hb dX6_stampAbove_37 (by decide) (fun c37_7 => ?_) (fun c37_7 => ?_)
              · refine lv_iinc (v := nI (k + 1)) (lv' := [(4, .int (nI (k + 1))), (3, .int (nI (r))), (2, .int (q)), (0, .ref (ad 0 (0))), (1, .int (nI (a)))]) hx hb dX6_stampAbove_54 hl (k := 0) rfl (nI_inc k 1) (by decide) rfl (fun ls hl => ?_)
                refine lv_goto (tgt := 12) hx hb dX6_stampAbove_57 (by decide) ?_
                exact ih12 (k + 1) (q) (by omega) (by subst ex7 ex6 ex5 ex3; simp_all [sak, sb, mx]) (by omega) _ _ hW hS _ (lv_sub hl [0, 1, 2, 3, 4] rfl)
              · refine lv_iload_n hx hb dX6_stampAbove_40 rfl (lv_at hl 2 rfl) ?_
                refine lv_aload_n hx hb dX6_stampAbove_41 rfl (lv_at hl 3 rfl) ?_
                refine r_get hx hb hts hown hK hW 0 (0) 2 (mM (by decide) (by decide)) rfl rfl hinX6 (by decide) hf18 rfl rfl dX6_stampAbove_42 ?_
                refine lv_iload_n hx hb dX6_stampAbove_45 rfl (lv_at hl 1 rfl) ?_
                refine r_aaldI hx hb hK hW 1 1 (r) (mM (by decide) (by decide)) rfl (show r < 4 by omega) (by decide) rfl rfl dX6_stampAbove_46 ?_
                refine lv_iload hx hb dX6_stampAbove_47 (lv_at hl 0 rfl) ?_
                refine rM_iald hx hb hK hW 14 (r) (k) (by decide) (by decide) (show r < 4 by omega) (show k < 31 by omega) rfl dX6_stampAbove_49 (fun x9 ex9 => ?_)
                refine va_mmax hx hb (hml.trans hl.1.symm) hown (hts (.methodLink RX6 125 Lib.Math.max.name) (by decide +kernel)) (hts (.static Lib.Math.max.name) (by decide +kernel)) (hts (.initialized "java/lang/Math") (by decide +kernel)) (hts (.code Lib.Math.max.name Lib.Math.max.code 2 (some .int)) (by decide +kernel)) (by decide) (by decide) (Nat.zero_le _) (Nat.zero_le _) dX6_stampAbove_50 (lv_topi (fun x10 ex10 => ?_))
                refine lv_istore_n (lv' := [(2, .int (x10)), (4, .int (nI (k))), (3, .int (nI (r))), (0, .ref (ad 0 (0))), (1, .int (nI (a)))]) hx hb dX6_stampAbove_53 rfl hl (by decide) rfl (fun ls hl => ?_)
                refine lv_iinc (v := nI (k + 1)) (lv' := [(4, .int (nI (k + 1))), (2, .int (x10)), (3, .int (nI (r))), (0, .ref (ad 0 (0))), (1, .int (nI (a)))]) hx hb dX6_stampAbove_54 hl (k := 1) rfl (nI_inc k 1) (by decide) rfl (fun ls hl => ?_)
                refine lv_goto (tgt := 12) hx hb dX6_stampAbove_57 (by decide) ?_
                exact ih12 (k + 1) (x10) (by omega) (by subst ex10 ex9 ex7 ex6 ex5 ex3; simp_all [sak, sb, mx]) (by omega) _ _ hW hS _ (lv_sub hl [0, 2, 1, 3, 4] rfl)
        exact K12 ((mk J r) + 1) (0) (d) (Nat.zero_le _) rfl (by omega) _ _ hW hS _ (lv_sub hl [0, 1, 2, 3, 4] rfl)
  exact K4 (4 + 1) (0) (nI (0)) (by decide) rfl (by omega) _ _ hW hS _ (lv_sub hl [0, 1, 2, 3] rfl)

set_option maxHeartbeats 4000000 in
set_option maxRecDepth 100000 in
theorem c_X6_add (l : Launch) (D : va_G) (G : Nat → ClassId) (ad : Nat → Nat → Nat) (hI : wI LM ad) (J : St) (r a b v : Int32) (hM : okM J) (hKd : okK J) : Met l yX6_add wsX6_add ({ frames := 2, cells := 0, slots := 0, locals := 56 } : Room) (gPre D G LM ad [.ref (ad 0 (0)), .int (r), .int (a), .int (b), .int (v)] (wM G ad J)) (gQi D LM ad (wM G ad) (fun r9 u => r9 = (if (okN (nI 4) r && (okN (nI 3) a && okN (nI 4) b)) = true then (if mk J (tn r) < 31 then nI (mk J (tn r)) else -4) else -2) ∧ u = (if (okN (nI 4) r && (okN (nI 3) a && okN (nI 4) b) && decide (mk J (tn r) < 31)) = true then adM J (tn r) (tn a) (4 * tn a + tn b) v else J))) 0 0 (wA LM ad) := by
  refine g_entry (C := RX6) (cc := cX6_add) (maxL := 9) (ret := (some .int)) rfl (by decide) rfl (Nat.le_of_ble_eq_true rfl) (fun p e s m args below meth c Q ls hQ hx hb hr hts hown hlocks hml hW hK hl => ?_)
  have hl : lv_has ls 9 [(0, .ref (ad 0 (0))), (1, .int (r)), (2, .int (a)), (3, .int (b)), (4, .int (v))] := hl
  have hS := va_S.rf (A := wA LM ad) (H0 := s.heap)
  have hinX6 : ∀ w ∈ wsX60, w ∈ wsX6_add := by decide +kernel
  have hf9 := hts (.fieldLink RX6 9 "JoinedStoresModel" "made" "[I") (by decide +kernel)
  have hf15 := hts (.fieldLink RX6 15 "JoinedStoresModel" "values" "[[I") (by decide +kernel)
  have hf18 := hts (.fieldLink RX6 18 "JoinedStoresModel" "stamps" "[[I") (by decide +kernel)
  have hf21 := hts (.fieldLink RX6 21 "JoinedStoresModel" "objects" "[[I") (by decide +kernel)
  have hf24 := hts (.fieldLink RX6 24 "JoinedStoresModel" "kinds" "[I") (by decide +kernel)
  have hf27 := hts (.fieldLink RX6 27 "JoinedStoresModel" "heard" "[[I") (by decide +kernel)
  have hf30 := hts (.fieldLink RX6 30 "JoinedStoresModel" "alive" "[[I") (by decide +kernel)
  refine lv_iload_n hx hb dX6_add_0 rfl (lv_at hl 1 rfl) ?_
  refine g_pi (va_runS (As := [.int (r)]) (rest := []) ⟨hx, hb, hml, hown, hts⟩ (c_X6_isReplica l r) (va_cwS 1 hts gX6_add_X6_isReplica rfl rfl rfl (by decide +kernel) ⟨Nat.le_of_ble_eq_true rfl, Nat.le_of_ble_eq_true rfl⟩) p_preS rfl rfl hl.1 rfl (lv_room (Nat.le_of_ble_eq_true rfl)) dX6_add_1 ⟨Nat.le_refl _, Nat.le_refl _⟩) hW hS (fun H locs hW hS => ?_)
  refine lv_if_eq (tgt := 15) hx hb dX6_add_4 (by decide) (fun c4_0 => ?_) (fun c4_0 => ?_)
  · replace c4_0 := bI_0.mp c4_0
    try simp only [decide_eq_true_eq, decide_eq_false_iff_not] at c4_0
    refine lv_bipush (v := (-2)) hx hb dX6_add_15 (by decide) ?_
    rw [hQ]
    exact g_iret (wd := wM G ad) hx hb hr rfl hlocks hW hS (by skip; refine ⟨?_, ?_⟩ <;> simp [c4_0]) dX6_add_17
  · replace c4_0 := bI_1.mp c4_0
    obtain ⟨rN, hrN, erN⟩ := okN_nI (k := 4) (by decide) c4_0
    subst erN
    have t_rN : tn (nI rN) = rN := tn_nI (by omega)
    have k_rN : okN (nI 4) (nI rN) = true := okN_of (by decide) hrN
    refine lv_iload_n hx hb dX6_add_7 rfl (lv_at hl 2 rfl) ?_
    refine lv_iload_n hx hb dX6_add_8 rfl (lv_at hl 3 rfl) ?_
    refine g_pi (va_runS (As := [.int (a), .int (b)]) (rest := []) ⟨hx, hb, hml, hown, hts⟩ (c_X6_isObject l a b) (va_cwS 2 hts gX6_add_X6_isObject rfl rfl rfl (by decide +kernel) ⟨Nat.le_of_ble_eq_true rfl, Nat.le_of_ble_eq_true rfl⟩) p_preS rfl rfl hl.1 rfl (lv_room (Nat.le_of_ble_eq_true rfl)) dX6_add_9 ⟨Nat.le_refl _, Nat.le_refl _⟩) hW hS (fun H locs hW hS => ?_)
    refine lv_if_ne (tgt := 18) hx hb dX6_add_12 (by decide) (fun c12_1 => ?_) (fun c12_1 => ?_)
    · replace c12_1 := bI_1.mp c12_1
      obtain ⟨aN, haN, eaN⟩ := okN_nI (k := 3) (by decide) (okAnd c12_1).1
      subst eaN
      have t_aN : tn (nI aN) = aN := tn_nI (by omega)
      have k_aN : okN (nI 3) (nI aN) = true := okN_of (by decide) haN
      obtain ⟨bN, hbN, ebN⟩ := okN_nI (k := 4) (by decide) (okAnd c12_1).2
      subst ebN
      have t_bN : tn (nI bN) = bN := tn_nI (by omega)
      have k_bN : okN (nI 4) (nI bN) = true := okN_of (by decide) hbN
      refine lv_aload_n hx hb dX6_add_18 rfl (lv_at hl 0 rfl) ?_
      refine r_get hx hb hts hown hK hW 0 (0) 0 (mM (by decide) (by decide)) rfl rfl hinX6 (by decide) hf9 rfl rfl dX6_add_19 ?_
      refine lv_iload_n hx hb dX6_add_22 rfl (lv_at hl 1 rfl) ?_
      refine rM_iald hx hb hK hW 12 (0) (rN) (by decide) (by decide) (by decide) (show rN < 4 by omega) rfl dX6_add_23 (fun x3 ex3 => ?_)
      have hm31 := (hM rN (by omega)).2
      refine r_top (show x3 = nI (mk J rN) from (ex3.trans (hM rN (by omega)).1)) ?_
      refine lv_bipush (v := nI 31) hx hb dX6_add_24 (by decide) ?_
      refine lv_icmp_ne (tgt := 32) hx hb dX6_add_26 (by decide) (fun c26_3 => ?_) (fun c26_3 => ?_)
      · replace c26_3 : ¬ mk J rN = 31 := fun h => c26_3 ((nI_eq (show mk J rN < 2147483648 by omega) (show 31 < 2147483648 by omega)).mpr h)
        have hml31 : mk J rN < 31 := by omega
        refine lv_iconst (v := nI 4) hx hb dX6_add_32 (by decide) ?_
        refine lv_iload_n hx hb dX6_add_33 rfl (lv_at hl 2 rfl) ?_
        refine lv_imul hx hb dX6_add_34 (r_top (pk_mul _ _) ?_)
        refine lv_iload_n hx hb dX6_add_35 rfl (lv_at hl 3 rfl) ?_
        refine lv_iadd hx hb dX6_add_36 (r_top (nI_add _ _) ?_)
        refine lv_istore (lv' := [(5, .int (nI ((4 * aN) + bN))), (0, .ref (ad 0 (0))), (1, .int (nI (rN))), (2, .int (nI (aN))), (3, .int (nI (bN))), (4, .int (v))]) hx hb dX6_add_37 hl (by decide) rfl (fun ls hl => ?_)
        refine lv_aload_n hx hb dX6_add_39 rfl (lv_at hl 1 rfl) ?_
        refine r_get hx hb hts hown hK hW 0 (0) 4 (mM (by decide) (by decide)) rfl rfl hinX6 (by decide) hf24 rfl rfl dX6_add_40 ?_
        refine lv_iload hx hb dX6_add_43 (lv_at hl 0 rfl) ?_
        refine rM_iald hx hb hK hW 16 (0) ((4 * aN) + bN) (by decide) (by decide) (by decide) (show (4 * aN) + bN < 12 by omega) rfl dX6_add_45 (fun x5 ex5 => ?_)
        refine lv_istore (lv' := [(6, .int (x5)), (5, .int (nI ((4 * aN) + bN))), (0, .ref (ad 0 (0))), (1, .int (nI (rN))), (2, .int (nI (aN))), (3, .int (nI (bN))), (4, .int (v))]) hx hb dX6_add_46 hl (by decide) rfl (fun ls hl => ?_)
        refine lv_aload_n hx hb dX6_add_48 rfl (lv_at hl 2 rfl) ?_
        refine lv_iload_n hx hb dX6_add_49 rfl (lv_at hl 3 rfl) ?_
        refine lv_iload_n hx hb dX6_add_50 rfl (lv_at hl 4 rfl) ?_
        refine lv_iload hx hb dX6_add_51 (lv_at hl 1 rfl) ?_
        refine lv_iload hx hb dX6_add_53 (lv_at hl 0 rfl) ?_
        refine lv_iconst (v := nI 3) hx hb dX6_add_55 (by decide) ?_
        refine lv_icmp_eq (tgt := 65) hx hb dX6_add_56 (by decide) (fun c56_5 => ?_) (fun c56_5 => ?_)
        · refine lv_iconst (v := nI 1) hx hb dX6_add_65 (by decide) ?_
          refine lv_goto (tgt := 90) hx hb dX6_add_66 (by decide) ?_
          refine lv_iload hx hb dX6_add_90 (lv_at hl 6 rfl) ?_
          refine g_ci (va_runV (As := [.int (nI (rN)), .int (nI (aN)), .int (nI ((4 * aN) + bN)), .int (nI (1)), .int (v)]) (rest := []) ⟨hx, hb, hml, hown, hts⟩ (c_X6_goes l D G ad hI J rN aN (nI ((4 * aN) + bN)) (nI (1)) v (show rN < 33 by omega) (show rN ≠ 27 by omega) hM) (cwV 5 hts gX6_add_X6_goes rfl rfl rfl (by decide +kernel) ⟨Nat.le_of_ble_eq_true rfl, Nat.le_of_ble_eq_true rfl⟩) (g_preV hK hW 0 (0) (mM (by decide) (by decide)) rfl rfl) rfl rfl hl.1 rfl (lv_room (Nat.le_of_ble_eq_true rfl)) dX6_add_92 ⟨Nat.le_refl _, Nat.le_refl _⟩) hS (fun x7 I7 H locs hp hW hS => ?_)
          obtain ⟨ex7, eI7⟩ := hp
          refine lv_istore (lv' := [(7, .int (x7)), (6, .int (x5)), (5, .int (nI ((4 * aN) + bN))), (0, .ref (ad 0 (0))), (1, .int (nI (rN))), (2, .int (nI (aN))), (3, .int (nI (bN))), (4, .int (v))]) hx hb dX6_add_95 hl (by decide) rfl (fun ls hl => ?_)
          refine lv_aload_n hx hb dX6_add_97 rfl (lv_at hl 3 rfl) ?_
          refine r_get hx hb hts hown hK hW 0 (0) 0 (mM (by decide) (by decide)) rfl rfl hinX6 (by decide) hf9 rfl rfl dX6_add_98 ?_
          refine lv_iload_n hx hb dX6_add_101 rfl (lv_at hl 4 rfl) ?_
          refine rM_iald hx hb hK hW 12 (0) (rN) (by decide) (by decide) (by decide) (show rN < 4 by omega) rfl dX6_add_102 (fun x8 ex8 => ?_)
          refine r_top (show x8 = nI (mk J rN) from (ex8.trans ((mk_o (fun r9 => by subst ex8 eI7 ex7 ex5 ex3; simp [clr_n, cpy_n, jn_n, goA_n, inP_n, up3_f, up3_s, mtM_n]) rN).trans (hM rN (by omega)).1))) ?_
          refine lv_istore (lv' := [(8, .int (nI (mk J rN))), (7, .int (x7)), (6, .int (x5)), (5, .int (nI ((4 * aN) + bN))), (0, .ref (ad 0 (0))), (1, .int (nI (rN))), (2, .int (nI (aN))), (3, .int (nI (bN))), (4, .int (v))]) hx hb dX6_add_103 hl (by decide) rfl (fun ls hl => ?_)
          refine lv_aload_n hx hb dX6_add_105 rfl (lv_at hl 4 rfl) ?_
          refine r_get hx hb hts hown hK hW 0 (0) 2 (mM (by decide) (by decide)) rfl rfl hinX6 (by decide) hf18 rfl rfl dX6_add_106 ?_
          refine lv_iload_n hx hb dX6_add_109 rfl (lv_at hl 5 rfl) ?_
          refine r_aaldI hx hb hK hW 1 1 (rN) (mM (by decide) (by decide)) rfl (show rN < 4 by omega) (by decide) rfl rfl dX6_add_110 ?_
          refine lv_iload hx hb dX6_add_111 (lv_at hl 0 rfl) ?_
          refine lv_aload_n hx hb dX6_add_113 rfl (lv_at hl 4 rfl) ?_
          refine lv_iload_n hx hb dX6_add_114 rfl (lv_at hl 5 rfl) ?_
          have hM_8 : okM I7 := okM_e (fun r9 => by subst ex8 eI7 ex7 ex5 ex3; simp [clr_n, cpy_n, jn_n, goA_n, inP_n, up3_f, up3_s, mtM_n]) hM
          refine g_ci (va_runV (As := [.int (nI (rN))]) (rest := [.int (nI (mk J rN)), .ref (ad 14 (rN))]) ⟨hx, hb, hml, hown, hts⟩ (c_X6_stampAbove l D G ad hI I7 rN (show rN < 33 by omega) hM_8) (cwV 1 hts gX6_add_X6_stampAbove rfl rfl rfl (by decide +kernel) ⟨Nat.le_of_ble_eq_true rfl, Nat.le_of_ble_eq_true rfl⟩) (g_preV hK hW 0 (0) (mM (by decide) (by decide)) rfl rfl) rfl rfl hl.1 rfl (lv_room (Nat.le_of_ble_eq_true rfl)) dX6_add_115 ⟨Nat.le_refl _, Nat.le_refl _⟩) hS (fun x10 I10 H locs hp hW hS => ?_)
          obtain ⟨ex10, eI10⟩ := hp
          rw [eI10] at hW
          clear eI10
          refine rM_iast hx hb hK hI hW hS 14 (rN) (mk J rN) (by decide) (by decide) (show rN < 4 by omega) (show mk J rN < 31 by omega) rfl dX6_add_118 (fun I11 H locs eI11 hW hS => ?_)
          refine lv_aload_n hx hb dX6_add_119 rfl (lv_at hl 4 rfl) ?_
          refine r_get hx hb hts hown hK hW 0 (0) 1 (mM (by decide) (by decide)) rfl rfl hinX6 (by decide) hf15 rfl rfl dX6_add_120 ?_
          refine lv_iload_n hx hb dX6_add_123 rfl (lv_at hl 5 rfl) ?_
          refine r_aaldI hx hb hK hW 1 0 (rN) (mM (by decide) (by decide)) rfl (show rN < 4 by omega) (by decide) rfl rfl dX6_add_124 ?_
          refine lv_iload hx hb dX6_add_125 (lv_at hl 0 rfl) ?_
          refine lv_iload hx hb dX6_add_127 (lv_at hl 8 rfl) ?_
          refine rM_iast hx hb hK hI hW hS 13 (rN) (mk J rN) (by decide) (by decide) (show rN < 4 by omega) (show mk J rN < 31 by omega) rfl dX6_add_129 (fun I12 H locs eI12 hW hS => ?_)
          refine lv_aload_n hx hb dX6_add_130 rfl (lv_at hl 4 rfl) ?_
          refine r_get hx hb hts hown hK hW 0 (0) 3 (mM (by decide) (by decide)) rfl rfl hinX6 (by decide) hf21 rfl rfl dX6_add_131 ?_
          refine lv_iload_n hx hb dX6_add_134 rfl (lv_at hl 5 rfl) ?_
          refine r_aaldI hx hb hK hW 1 2 (rN) (mM (by decide) (by decide)) rfl (show rN < 4 by omega) (by decide) rfl rfl dX6_add_135 ?_
          refine lv_iload hx hb dX6_add_136 (lv_at hl 0 rfl) ?_
          refine lv_iload hx hb dX6_add_138 (lv_at hl 3 rfl) ?_
          refine rM_iast hx hb hK hI hW hS 15 (rN) (mk J rN) (by decide) (by decide) (show rN < 4 by omega) (show mk J rN < 31 by omega) rfl dX6_add_140 (fun I13 H locs eI13 hW hS => ?_)
          refine lv_aload_n hx hb dX6_add_141 rfl (lv_at hl 4 rfl) ?_
          refine r_get hx hb hts hown hK hW 0 (0) 0 (mM (by decide) (by decide)) rfl rfl hinX6 (by decide) hf9 rfl rfl dX6_add_142 ?_
          refine lv_iload_n hx hb dX6_add_145 rfl (lv_at hl 5 rfl) ?_
          refine lv_dup2_11 hx hb dX6_add_146 rfl rfl ?_
          refine rM_iald hx hb hK hW 12 (0) (rN) (by decide) (by decide) (by decide) (show rN < 4 by omega) rfl dX6_add_147 (fun x14 ex14 => ?_)
          refine r_top (show x14 = nI (mk J rN) from (ex14.trans ((mk_o (fun r9 => by subst ex14 eI13 eI12 eI11 ex10 ex8 eI7 ex7 ex5 ex3; simp [clr_n, cpy_n, jn_n, goA_n, inP_n, up3_f, up3_s, mtM_n]) rN).trans (hM rN (by omega)).1))) ?_
          refine lv_iconst (v := nI 1) hx hb dX6_add_148 (by decide) ?_
          refine lv_iadd hx hb dX6_add_149 (r_top (nI_add _ _) ?_)
          refine rM_iast hx hb hK hI hW hS 12 (0) (rN) (by decide) (by decide) (by decide) (show rN < 4 by omega) rfl dX6_add_150 (fun I15 H locs eI15 hW hS => ?_)
          refine lv_aload_n hx hb dX6_add_151 rfl (lv_at hl 4 rfl) ?_
          refine r_get hx hb hts hown hK hW 0 (0) 5 (mM (by decide) (by decide)) rfl rfl hinX6 (by decide) hf27 rfl rfl dX6_add_152 ?_
          refine lv_bipush (v := nI 27) hx hb dX6_add_155 (by decide) ?_
          refine r_aaldI hx hb hK hW 1 3 (27) (mM (by decide) (by decide)) rfl (by decide) (by decide) rfl rfl dX6_add_157 ?_
          refine lv_iload_n hx hb dX6_add_158 rfl (lv_at hl 5 rfl) ?_
          refine lv_dup2_11 hx hb dX6_add_159 rfl rfl ?_
          refine rM_iald hx hb hK hW 10 (27) (rN) (by decide) (by decide) (by decide) (show rN < 4 by omega) rfl dX6_add_160 (fun x16 ex16 => ?_)
          refine lv_iconst (v := nI 1) hx hb dX6_add_161 (by decide) ?_
          refine lv_iload hx hb dX6_add_162 (lv_at hl 0 rfl) ?_
          refine lv_ishl hx hb dX6_add_164 (lv_topi (fun x17 ex17 => ?_))
          replace ex17 : x17 = b1 (mk J rN) := ex17
          refine lv_ior hx hb dX6_add_165 (lv_topi (fun x18 ex18 => ?_))
          refine rM_iast hx hb hK hI hW hS 10 (27) (rN) (by decide) (by decide) (by decide) (show rN < 4 by omega) rfl dX6_add_166 (fun I19 H locs eI19 hW hS => ?_)
          refine lv_aload_n hx hb dX6_add_167 rfl (lv_at hl 4 rfl) ?_
          refine r_get hx hb hts hown hK hW 0 (0) 6 (mM (by decide) (by decide)) rfl rfl hinX6 (by decide) hf30 rfl rfl dX6_add_168 ?_
          refine lv_bipush (v := nI 27) hx hb dX6_add_171 (by decide) ?_
          refine r_aaldI hx hb hK hW 1 4 (27) (mM (by decide) (by decide)) rfl (by decide) (by decide) rfl rfl dX6_add_173 ?_
          refine lv_iload_n hx hb dX6_add_174 rfl (lv_at hl 5 rfl) ?_
          refine lv_dup2_11 hx hb dX6_add_175 rfl rfl ?_
          refine rM_iald hx hb hK hW 11 (27) (rN) (by decide) (by decide) (by decide) (show rN < 4 by omega) rfl dX6_add_176 (fun x20 ex20 => ?_)
          refine lv_iconst (v := nI 1) hx hb dX6_add_177 (by decide) ?_
          refine lv_iload hx hb dX6_add_178 (lv_at hl 0 rfl) ?_
          refine lv_ishl hx hb dX6_add_180 (lv_topi (fun x21 ex21 => ?_))
          replace ex21 : x21 = b1 (mk J rN) := ex21
          refine lv_ior hx hb dX6_add_181 (lv_topi (fun x22 ex22 => ?_))
          refine rM_iast hx hb hK hI hW hS 11 (27) (rN) (by decide) (by decide) (by decide) (show rN < 4 by omega) rfl dX6_add_182 (fun I23 H locs eI23 hW hS => ?_)
          refine lv_aload_n hx hb dX6_add_183 rfl (lv_at hl 4 rfl) ?_
          refine lv_iload_n hx hb dX6_add_184 rfl (lv_at hl 5 rfl) ?_
          refine g_cv (va_runV (As := [.int (nI (rN))]) (rest := []) ⟨hx, hb, hml, hown, hts⟩ (c_X6_isNew l D G ad hI I23 rN (show rN < 4 by omega)) (cwV 1 hts gX6_add_X6_isNew rfl rfl rfl (by decide +kernel) ⟨Nat.le_of_ble_eq_true rfl, Nat.le_of_ble_eq_true rfl⟩) (g_preV hK hW 0 (0) (mM (by decide) (by decide)) rfl rfl) rfl rfl hl.1 rfl (lv_room (Nat.le_of_ble_eq_true rfl)) dX6_add_185 ⟨Nat.le_refl _, Nat.le_refl _⟩) hS (fun I24 H locs hp hW hS => ?_)
          have eI24 : I24 = inS I23 rN := hp
          refine lv_iload hx hb dX6_add_188 (lv_at hl 0 rfl) ?_
          rw [hQ]
          exact g_iret (wd := wM G ad) hx hb hr rfl hlocks hW hS (by have hact : acF (J 16 0 (4 * aN + bN)) = nI (1) := (by rw [← ex5]; simp only [acF]; simp [c56_5] <;> decide +kernel); refine ⟨?_, ?_⟩; (rw [if_pos (by simp [k_rN, k_aN, k_bN]), if_pos (by simp only [t_rN, t_aN, t_bN]; omega)]; simp only [t_rN, t_aN, t_bN]); rw [if_pos (by simp [k_rN, k_aN, k_bN, t_rN, t_aN, t_bN]; omega)]; simp only [t_rN, t_aN, t_bN]; rw [adM, hact]; subst eI24 eI23 ex22 ex21 ex20 eI19 ex18 ex17 ex16 eI15 ex14 eI13 eI12 eI11 ex10 ex8 eI7 ex7 ex5 ex3; rfl) dX6_add_190
        · refine lv_iload hx hb dX6_add_59 (lv_at hl 0 rfl) ?_
          refine lv_iconst (v := nI 5) hx hb dX6_add_61 (by decide) ?_
          refine lv_icmp_ne (tgt := 69) hx hb dX6_add_62 (by decide) (fun c62_24 => ?_) (fun c62_24 => ?_)
          · refine lv_iload hx hb dX6_add_69 (lv_at hl 0 rfl) ?_
            refine lv_iconst (v := nI 1) hx hb dX6_add_71 (by decide) ?_
            refine lv_icmp_ne (tgt := 79) hx hb dX6_add_72 (by decide) (fun c72_25 => ?_) (fun c72_25 => ?_)
            · refine lv_iload hx hb dX6_add_79 (lv_at hl 0 rfl) ?_
              refine lv_iconst (v := nI 4) hx hb dX6_add_81 (by decide) ?_
              refine lv_icmp_ne (tgt := 89) hx hb dX6_add_82 (by decide) (fun c82_26 => ?_) (fun c82_26 => ?_)
              · refine lv_iconst (v := nI 0) hx hb dX6_add_89 (by decide) ?_
                refine lv_iload hx hb dX6_add_90 (lv_at hl 6 rfl) ?_
                refine g_ci (va_runV (As := [.int (nI (rN)), .int (nI (aN)), .int (nI ((4 * aN) + bN)), .int (nI (0)), .int (v)]) (rest := []) ⟨hx, hb, hml, hown, hts⟩ (c_X6_goes l D G ad hI J rN aN (nI ((4 * aN) + bN)) (nI (0)) v (show rN < 33 by omega) (show rN ≠ 27 by omega) hM) (cwV 5 hts gX6_add_X6_goes rfl rfl rfl (by decide +kernel) ⟨Nat.le_of_ble_eq_true rfl, Nat.le_of_ble_eq_true rfl⟩) (g_preV hK hW 0 (0) (mM (by decide) (by decide)) rfl rfl) rfl rfl hl.1 rfl (lv_room (Nat.le_of_ble_eq_true rfl)) dX6_add_92 ⟨Nat.le_refl _, Nat.le_refl _⟩) hS (fun x28 I28 H locs hp hW hS => ?_)
                obtain ⟨ex28, eI28⟩ := hp
                refine lv_istore (lv' := [(7, .int (x28)), (6, .int (x5)), (5, .int (nI ((4 * aN) + bN))), (0, .ref (ad 0 (0))), (1, .int (nI (rN))), (2, .int (nI (aN))), (3, .int (nI (bN))), (4, .int (v))]) hx hb dX6_add_95 hl (by decide) rfl (fun ls hl => ?_)
                refine lv_aload_n hx hb dX6_add_97 rfl (lv_at hl 3 rfl) ?_
                refine r_get hx hb hts hown hK hW 0 (0) 0 (mM (by decide) (by decide)) rfl rfl hinX6 (by decide) hf9 rfl rfl dX6_add_98 ?_
                refine lv_iload_n hx hb dX6_add_101 rfl (lv_at hl 4 rfl) ?_
                refine rM_iald hx hb hK hW 12 (0) (rN) (by decide) (by decide) (by decide) (show rN < 4 by omega) rfl dX6_add_102 (fun x29 ex29 => ?_)
                refine r_top (show x29 = nI (mk J rN) from (ex29.trans ((mk_o (fun r9 => by subst ex29 eI28 ex28 ex5 ex3; simp [clr_n, cpy_n, jn_n, goA_n, inP_n, up3_f, up3_s, mtM_n]) rN).trans (hM rN (by omega)).1))) ?_
                refine lv_istore (lv' := [(8, .int (nI (mk J rN))), (7, .int (x28)), (6, .int (x5)), (5, .int (nI ((4 * aN) + bN))), (0, .ref (ad 0 (0))), (1, .int (nI (rN))), (2, .int (nI (aN))), (3, .int (nI (bN))), (4, .int (v))]) hx hb dX6_add_103 hl (by decide) rfl (fun ls hl => ?_)
                refine lv_aload_n hx hb dX6_add_105 rfl (lv_at hl 4 rfl) ?_
                refine r_get hx hb hts hown hK hW 0 (0) 2 (mM (by decide) (by decide)) rfl rfl hinX6 (by decide) hf18 rfl rfl dX6_add_106 ?_
                refine lv_iload_n hx hb dX6_add_109 rfl (lv_at hl 5 rfl) ?_
                refine r_aaldI hx hb hK hW 1 1 (rN) (mM (by decide) (by decide)) rfl (show rN < 4 by omega) (by decide) rfl rfl dX6_add_110 ?_
                refine lv_iload hx hb dX6_add_111 (lv_at hl 0 rfl) ?_
                refine lv_aload_n hx hb dX6_add_113 rfl (lv_at hl 4 rfl) ?_
                refine lv_iload_n hx hb dX6_add_114 rfl (lv_at hl 5 rfl) ?_
                have hM_29 : okM I28 := okM_e (fun r9 => by subst ex29 eI28 ex28 ex5 ex3; simp [clr_n, cpy_n, jn_n, goA_n, inP_n, up3_f, up3_s, mtM_n]) hM
                refine g_ci (va_runV (As := [.int (nI (rN))]) (rest := [.int (nI (mk J rN)), .ref (ad 14 (rN))]) ⟨hx, hb, hml, hown, hts⟩ (c_X6_stampAbove l D G ad hI I28 rN (show rN < 33 by omega) hM_29) (cwV 1 hts gX6_add_X6_stampAbove rfl rfl rfl (by decide +kernel) ⟨Nat.le_of_ble_eq_true rfl, Nat.le_of_ble_eq_true rfl⟩) (g_preV hK hW 0 (0) (mM (by decide) (by decide)) rfl rfl) rfl rfl hl.1 rfl (lv_room (Nat.le_of_ble_eq_true rfl)) dX6_add_115 ⟨Nat.le_refl _, Nat.le_refl _⟩) hS (fun x31 I31 H locs hp hW hS => ?_)
                obtain ⟨ex31, eI31⟩ := hp
                rw [eI31] at hW
                clear eI31
                refine rM_iast hx hb hK hI hW hS 14 (rN) (mk J rN) (by decide) (by decide) (show rN < 4 by omega) (show mk J rN < 31 by omega) rfl dX6_add_118 (fun I32 H locs eI32 hW hS => ?_)
                refine lv_aload_n hx hb dX6_add_119 rfl (lv_at hl 4 rfl) ?_
                refine r_get hx hb hts hown hK hW 0 (0) 1 (mM (by decide) (by decide)) rfl rfl hinX6 (by decide) hf15 rfl rfl dX6_add_120 ?_
                refine lv_iload_n hx hb dX6_add_123 rfl (lv_at hl 5 rfl) ?_
                refine r_aaldI hx hb hK hW 1 0 (rN) (mM (by decide) (by decide)) rfl (show rN < 4 by omega) (by decide) rfl rfl dX6_add_124 ?_
                refine lv_iload hx hb dX6_add_125 (lv_at hl 0 rfl) ?_
                refine lv_iload hx hb dX6_add_127 (lv_at hl 8 rfl) ?_
                refine rM_iast hx hb hK hI hW hS 13 (rN) (mk J rN) (by decide) (by decide) (show rN < 4 by omega) (show mk J rN < 31 by omega) rfl dX6_add_129 (fun I33 H locs eI33 hW hS => ?_)
                refine lv_aload_n hx hb dX6_add_130 rfl (lv_at hl 4 rfl) ?_
                refine r_get hx hb hts hown hK hW 0 (0) 3 (mM (by decide) (by decide)) rfl rfl hinX6 (by decide) hf21 rfl rfl dX6_add_131 ?_
                refine lv_iload_n hx hb dX6_add_134 rfl (lv_at hl 5 rfl) ?_
                refine r_aaldI hx hb hK hW 1 2 (rN) (mM (by decide) (by decide)) rfl (show rN < 4 by omega) (by decide) rfl rfl dX6_add_135 ?_
                refine lv_iload hx hb dX6_add_136 (lv_at hl 0 rfl) ?_
                refine lv_iload hx hb dX6_add_138 (lv_at hl 3 rfl) ?_
                refine rM_iast hx hb hK hI hW hS 15 (rN) (mk J rN) (by decide) (by decide) (show rN < 4 by omega) (show mk J rN < 31 by omega) rfl dX6_add_140 (fun I34 H locs eI34 hW hS => ?_)
                refine lv_aload_n hx hb dX6_add_141 rfl (lv_at hl 4 rfl) ?_
                refine r_get hx hb hts hown hK hW 0 (0) 0 (mM (by decide) (by decide)) rfl rfl hinX6 (by decide) hf9 rfl rfl dX6_add_142 ?_
                refine lv_iload_n hx hb dX6_add_145 rfl (lv_at hl 5 rfl) ?_
                refine lv_dup2_11 hx hb dX6_add_146 rfl rfl ?_
                refine rM_iald hx hb hK hW 12 (0) (rN) (by decide) (by decide) (by decide) (show rN < 4 by omega) rfl dX6_add_147 (fun x35 ex35 => ?_)
                refine r_top (show x35 = nI (mk J rN) from (ex35.trans ((mk_o (fun r9 => by subst ex35 eI34 eI33 eI32 ex31 ex29 eI28 ex28 ex5 ex3; simp [clr_n, cpy_n, jn_n, goA_n, inP_n, up3_f, up3_s, mtM_n]) rN).trans (hM rN (by omega)).1))) ?_
                refine lv_iconst (v := nI 1) hx hb dX6_add_148 (by decide) ?_
                refine lv_iadd hx hb dX6_add_149 (r_top (nI_add _ _) ?_)
                refine rM_iast hx hb hK hI hW hS 12 (0) (rN) (by decide) (by decide) (by decide) (show rN < 4 by omega) rfl dX6_add_150 (fun I36 H locs eI36 hW hS => ?_)
                refine lv_aload_n hx hb dX6_add_151 rfl (lv_at hl 4 rfl) ?_
                refine r_get hx hb hts hown hK hW 0 (0) 5 (mM (by decide) (by decide)) rfl rfl hinX6 (by decide) hf27 rfl rfl dX6_add_152 ?_
                refine lv_bipush (v := nI 27) hx hb dX6_add_155 (by decide) ?_
                refine r_aaldI hx hb hK hW 1 3 (27) (mM (by decide) (by decide)) rfl (by decide) (by decide) rfl rfl dX6_add_157 ?_
                refine lv_iload_n hx hb dX6_add_158 rfl (lv_at hl 5 rfl) ?_
                refine lv_dup2_11 hx hb dX6_add_159 rfl rfl ?_
                refine rM_iald hx hb hK hW 10 (27) (rN) (by decide) (by decide) (by decide) (show rN < 4 by omega) rfl dX6_add_160 (fun x37 ex37 => ?_)
                refine lv_iconst (v := nI 1) hx hb dX6_add_161 (by decide) ?_
                refine lv_iload hx hb dX6_add_162 (lv_at hl 0 rfl) ?_
                refine lv_ishl hx hb dX6_add_164 (lv_topi (fun x38 ex38 => ?_))
                replace ex38 : x38 = b1 (mk J rN) := ex38
                refine lv_ior hx hb dX6_add_165 (lv_topi (fun x39 ex39 => ?_))
                refine rM_iast hx hb hK hI hW hS 10 (27) (rN) (by decide) (by decide) (by decide) (show rN < 4 by omega) rfl dX6_add_166 (fun I40 H locs eI40 hW hS => ?_)
                refine lv_aload_n hx hb dX6_add_167 rfl (lv_at hl 4 rfl) ?_
                refine r_get hx hb hts hown hK hW 0 (0) 6 (mM (by decide) (by decide)) rfl rfl hinX6 (by decide) hf30 rfl rfl dX6_add_168 ?_
                refine lv_bipush (v := nI 27) hx hb dX6_add_171 (by decide) ?_
                refine r_aaldI hx hb hK hW 1 4 (27) (mM (by decide) (by decide)) rfl (by decide) (by decide) rfl rfl dX6_add_173 ?_
                refine lv_iload_n hx hb dX6_add_174 rfl (lv_at hl 5 rfl) ?_
                refine lv_dup2_11 hx hb dX6_add_175 rfl rfl ?_
                refine rM_iald hx hb hK hW 11 (27) (rN) (by decide) (by decide) (by decide) (show rN < 4 by omega) rfl dX6_add_176 (fun x41 ex41 => ?_)
                refine lv_iconst (v := nI 1) hx hb dX6_add_177 (by decide) ?_
                refine lv_iload hx hb dX6_add_178 (lv_at hl 0 rfl) ?_
                refine lv_ishl hx hb dX6_add_180 (lv_topi (fun x42 ex42 => ?_))
                replace ex42 : x42 = b1 (mk J rN) := ex42
                refine lv_ior hx hb dX6_add_181 (lv_topi (fun x43 ex43 => ?_))
                refine rM_iast hx hb hK hI hW hS 11 (27) (rN) (by decide) (by decide) (by decide) (show rN < 4 by omega) rfl dX6_add_182 (fun I44 H locs eI44 hW hS => ?_)
                refine lv_aload_n hx hb dX6_add_183 rfl (lv_at hl 4 rfl) ?_
                refine lv_iload_n hx hb dX6_add_184 rfl (lv_at hl 5 rfl) ?_
                refine g_cv (va_runV (As := [.int (nI (rN))]) (rest := []) ⟨hx, hb, hml, hown, hts⟩ (c_X6_isNew l D G ad hI I44 rN (show rN < 4 by omega)) (cwV 1 hts gX6_add_X6_isNew rfl rfl rfl (by decide +kernel) ⟨Nat.le_of_ble_eq_true rfl, Nat.le_of_ble_eq_true rfl⟩) (g_preV hK hW 0 (0) (mM (by decide) (by decide)) rfl rfl) rfl rfl hl.1 rfl (lv_room (Nat.le_of_ble_eq_true rfl)) dX6_add_185 ⟨Nat.le_refl _, Nat.le_refl _⟩) hS (fun I45 H locs hp hW hS => ?_)
                have eI45 : I45 = inS I44 rN := hp
                refine lv_iload hx hb dX6_add_188 (lv_at hl 0 rfl) ?_
                rw [hQ]
                exact g_iret (wd := wM G ad) hx hb hr rfl hlocks hW hS (by have hact : acF (J 16 0 (4 * aN + bN)) = nI (0) := (by rw [← ex5]; simp only [acF]; simp [c56_5, c62_24, c72_25, c82_26] <;> decide +kernel); refine ⟨?_, ?_⟩; (rw [if_pos (by simp [k_rN, k_aN, k_bN]), if_pos (by simp only [t_rN, t_aN, t_bN]; omega)]; simp only [t_rN, t_aN, t_bN]); rw [if_pos (by simp [k_rN, k_aN, k_bN, t_rN, t_aN, t_bN]; omega)]; simp only [t_rN, t_aN, t_bN]; rw [adM, hact]; subst eI45 eI44 ex43 ex42 ex41 eI40 ex39 ex38 ex37 eI36 ex35 eI34 eI33 eI32 ex31 ex29 eI28 ex28 ex5 ex3; rfl) dX6_add_190
              · refine lv_iconst (v := nI 3) hx hb dX6_add_85 (by decide) ?_
                refine lv_goto (tgt := 90) hx hb dX6_add_86 (by decide) ?_
                refine lv_iload hx hb dX6_add_90 (lv_at hl 6 rfl) ?_
                refine g_ci (va_runV (As := [.int (nI (rN)), .int (nI (aN)), .int (nI ((4 * aN) + bN)), .int (nI (3)), .int (v)]) (rest := []) ⟨hx, hb, hml, hown, hts⟩ (c_X6_goes l D G ad hI J rN aN (nI ((4 * aN) + bN)) (nI (3)) v (show rN < 33 by omega) (show rN ≠ 27 by omega) hM) (cwV 5 hts gX6_add_X6_goes rfl rfl rfl (by decide +kernel) ⟨Nat.le_of_ble_eq_true rfl, Nat.le_of_ble_eq_true rfl⟩) (g_preV hK hW 0 (0) (mM (by decide) (by decide)) rfl rfl) rfl rfl hl.1 rfl (lv_room (Nat.le_of_ble_eq_true rfl)) dX6_add_92 ⟨Nat.le_refl _, Nat.le_refl _⟩) hS (fun x46 I46 H locs hp hW hS => ?_)
                obtain ⟨ex46, eI46⟩ := hp
                refine lv_istore (lv' := [(7, .int (x46)), (6, .int (x5)), (5, .int (nI ((4 * aN) + bN))), (0, .ref (ad 0 (0))), (1, .int (nI (rN))), (2, .int (nI (aN))), (3, .int (nI (bN))), (4, .int (v))]) hx hb dX6_add_95 hl (by decide) rfl (fun ls hl => ?_)
                refine lv_aload_n hx hb dX6_add_97 rfl (lv_at hl 3 rfl) ?_
                refine r_get hx hb hts hown hK hW 0 (0) 0 (mM (by decide) (by decide)) rfl rfl hinX6 (by decide) hf9 rfl rfl dX6_add_98 ?_
                refine lv_iload_n hx hb dX6_add_101 rfl (lv_at hl 4 rfl) ?_
                refine rM_iald hx hb hK hW 12 (0) (rN) (by decide) (by decide) (by decide) (show rN < 4 by omega) rfl dX6_add_102 (fun x47 ex47 => ?_)
                refine r_top (show x47 = nI (mk J rN) from (ex47.trans ((mk_o (fun r9 => by subst ex47 eI46 ex46 ex5 ex3; simp [clr_n, cpy_n, jn_n, goA_n, inP_n, up3_f, up3_s, mtM_n]) rN).trans (hM rN (by omega)).1))) ?_
                refine lv_istore (lv' := [(8, .int (nI (mk J rN))), (7, .int (x46)), (6, .int (x5)), (5, .int (nI ((4 * aN) + bN))), (0, .ref (ad 0 (0))), (1, .int (nI (rN))), (2, .int (nI (aN))), (3, .int (nI (bN))), (4, .int (v))]) hx hb dX6_add_103 hl (by decide) rfl (fun ls hl => ?_)
                refine lv_aload_n hx hb dX6_add_105 rfl (lv_at hl 4 rfl) ?_
                refine r_get hx hb hts hown hK hW 0 (0) 2 (mM (by decide) (by decide)) rfl rfl hinX6 (by decide) hf18 rfl rfl dX6_add_106 ?_
                refine lv_iload_n hx hb dX6_add_109 rfl (lv_at hl 5 rfl) ?_
                refine r_aaldI hx hb hK hW 1 1 (rN) (mM (by decide) (by decide)) rfl (show rN < 4 by omega) (by decide) rfl rfl dX6_add_110 ?_
                refine lv_iload hx hb dX6_add_111 (lv_at hl 0 rfl) ?_
                refine lv_aload_n hx hb dX6_add_113 rfl (lv_at hl 4 rfl) ?_
                refine lv_iload_n hx hb dX6_add_114 rfl (lv_at hl 5 rfl) ?_
                have hM_47 : okM I46 := okM_e (fun r9 => by subst ex47 eI46 ex46 ex5 ex3; simp [clr_n, cpy_n, jn_n, goA_n, inP_n, up3_f, up3_s, mtM_n]) hM
                refine g_ci (va_runV (As := [.int (nI (rN))]) (rest := [.int (nI (mk J rN)), .ref (ad 14 (rN))]) ⟨hx, hb, hml, hown, hts⟩ (c_X6_stampAbove l D G ad hI I46 rN (show rN < 33 by omega) hM_47) (cwV 1 hts gX6_add_X6_stampAbove rfl rfl rfl (by decide +kernel) ⟨Nat.le_of_ble_eq_true rfl, Nat.le_of_ble_eq_true rfl⟩) (g_preV hK hW 0 (0) (mM (by decide) (by decide)) rfl rfl) rfl rfl hl.1 rfl (lv_room (Nat.le_of_ble_eq_true rfl)) dX6_add_115 ⟨Nat.le_refl _, Nat.le_refl _⟩) hS (fun x49 I49 H locs hp hW hS => ?_)
                obtain ⟨ex49, eI49⟩ := hp
                rw [eI49] at hW
                clear eI49
                refine rM_iast hx hb hK hI hW hS 14 (rN) (mk J rN) (by decide) (by decide) (show rN < 4 by omega) (show mk J rN < 31 by omega) rfl dX6_add_118 (fun I50 H locs eI50 hW hS => ?_)
                refine lv_aload_n hx hb dX6_add_119 rfl (lv_at hl 4 rfl) ?_
                refine r_get hx hb hts hown hK hW 0 (0) 1 (mM (by decide) (by decide)) rfl rfl hinX6 (by decide) hf15 rfl rfl dX6_add_120 ?_
                refine lv_iload_n hx hb dX6_add_123 rfl (lv_at hl 5 rfl) ?_
                refine r_aaldI hx hb hK hW 1 0 (rN) (mM (by decide) (by decide)) rfl (show rN < 4 by omega) (by decide) rfl rfl dX6_add_124 ?_
                refine lv_iload hx hb dX6_add_125 (lv_at hl 0 rfl) ?_
                refine lv_iload hx hb dX6_add_127 (lv_at hl 8 rfl) ?_
                refine rM_iast hx hb hK hI hW hS 13 (rN) (mk J rN) (by decide) (by decide) (show rN < 4 by omega) (show mk J rN < 31 by omega) rfl dX6_add_129 (fun I51 H locs eI51 hW hS => ?_)
                refine lv_aload_n hx hb dX6_add_130 rfl (lv_at hl 4 rfl) ?_
                refine r_get hx hb hts hown hK hW 0 (0) 3 (mM (by decide) (by decide)) rfl rfl hinX6 (by decide) hf21 rfl rfl dX6_add_131 ?_
                refine lv_iload_n hx hb dX6_add_134 rfl (lv_at hl 5 rfl) ?_
                refine r_aaldI hx hb hK hW 1 2 (rN) (mM (by decide) (by decide)) rfl (show rN < 4 by omega) (by decide) rfl rfl dX6_add_135 ?_
                refine lv_iload hx hb dX6_add_136 (lv_at hl 0 rfl) ?_
                refine lv_iload hx hb dX6_add_138 (lv_at hl 3 rfl) ?_
                refine rM_iast hx hb hK hI hW hS 15 (rN) (mk J rN) (by decide) (by decide) (show rN < 4 by omega) (show mk J rN < 31 by omega) rfl dX6_add_140 (fun I52 H locs eI52 hW hS => ?_)
                refine lv_aload_n hx hb dX6_add_141 rfl (lv_at hl 4 rfl) ?_
                refine r_get hx hb hts hown hK hW 0 (0) 0 (mM (by decide) (by decide)) rfl rfl hinX6 (by decide) hf9 rfl rfl dX6_add_142 ?_
                refine lv_iload_n hx hb dX6_add_145 rfl (lv_at hl 5 rfl) ?_
                refine lv_dup2_11 hx hb dX6_add_146 rfl rfl ?_
                refine rM_iald hx hb hK hW 12 (0) (rN) (by decide) (by decide) (by decide) (show rN < 4 by omega) rfl dX6_add_147 (fun x53 ex53 => ?_)
                refine r_top (show x53 = nI (mk J rN) from (ex53.trans ((mk_o (fun r9 => by subst ex53 eI52 eI51 eI50 ex49 ex47 eI46 ex46 ex5 ex3; simp [clr_n, cpy_n, jn_n, goA_n, inP_n, up3_f, up3_s, mtM_n]) rN).trans (hM rN (by omega)).1))) ?_
                refine lv_iconst (v := nI 1) hx hb dX6_add_148 (by decide) ?_
                refine lv_iadd hx hb dX6_add_149 (r_top (nI_add _ _) ?_)
                refine rM_iast hx hb hK hI hW hS 12 (0) (rN) (by decide) (by decide) (by decide) (show rN < 4 by omega) rfl dX6_add_150 (fun I54 H locs eI54 hW hS => ?_)
                refine lv_aload_n hx hb dX6_add_151 rfl (lv_at hl 4 rfl) ?_
                refine r_get hx hb hts hown hK hW 0 (0) 5 (mM (by decide) (by decide)) rfl rfl hinX6 (by decide) hf27 rfl rfl dX6_add_152 ?_
                refine lv_bipush (v := nI 27) hx hb dX6_add_155 (by decide) ?_
                refine r_aaldI hx hb hK hW 1 3 (27) (mM (by decide) (by decide)) rfl (by decide) (by decide) rfl rfl dX6_add_157 ?_
                refine lv_iload_n hx hb dX6_add_158 rfl (lv_at hl 5 rfl) ?_
                refine lv_dup2_11 hx hb dX6_add_159 rfl rfl ?_
                refine rM_iald hx hb hK hW 10 (27) (rN) (by decide) (by decide) (by decide) (show rN < 4 by omega) rfl dX6_add_160 (fun x55 ex55 => ?_)
                refine lv_iconst (v := nI 1) hx hb dX6_add_161 (by decide) ?_
                refine lv_iload hx hb dX6_add_162 (lv_at hl 0 rfl) ?_
                refine lv_ishl hx hb dX6_add_164 (lv_topi (fun x56 ex56 => ?_))
                replace ex56 : x56 = b1 (mk J rN) := ex56
                refine lv_ior hx hb dX6_add_165 (lv_topi (fun x57 ex57 => ?_))
                refine rM_iast hx hb hK hI hW hS 10 (27) (rN) (by decide) (by decide) (by decide) (show rN < 4 by omega) rfl dX6_add_166 (fun I58 H locs eI58 hW hS => ?_)
                refine lv_aload_n hx hb dX6_add_167 rfl (lv_at hl 4 rfl) ?_
                refine r_get hx hb hts hown hK hW 0 (0) 6 (mM (by decide) (by decide)) rfl rfl hinX6 (by decide) hf30 rfl rfl dX6_add_168 ?_
                refine lv_bipush (v := nI 27) hx hb dX6_add_171 (by decide) ?_
                refine r_aaldI hx hb hK hW 1 4 (27) (mM (by decide) (by decide)) rfl (by decide) (by decide) rfl rfl dX6_add_173 ?_
                refine lv_iload_n hx hb dX6_add_174 rfl (lv_at hl 5 rfl) ?_
                refine lv_dup2_11 hx hb dX6_add_175 rfl rfl ?_
                refine rM_iald hx hb hK hW 11 (27) (rN) (by decide) (by decide) (by decide) (show rN < 4 by omega) rfl dX6_add_176 (fun x59 ex59 => ?_)
                refine lv_iconst (v := nI 1) hx hb dX6_add_177 (by decide) ?_
                refine lv_iload hx hb dX6_add_178 (lv_at hl 0 rfl) ?_
                refine lv_ishl hx hb dX6_add_180 (lv_topi (fun x60 ex60 => ?_))
                replace ex60 : x60 = b1 (mk J rN) := ex60
                refine lv_ior hx hb dX6_add_181 (lv_topi (fun x61 ex61 => ?_))
                refine rM_iast hx hb hK hI hW hS 11 (27) (rN) (by decide) (by decide) (by decide) (show rN < 4 by omega) rfl dX6_add_182 (fun I62 H locs eI62 hW hS => ?_)
                refine lv_aload_n hx hb dX6_add_183 rfl (lv_at hl 4 rfl) ?_
                refine lv_iload_n hx hb dX6_add_184 rfl (lv_at hl 5 rfl) ?_
                refine g_cv (va_runV (As := [.int (nI (rN))]) (rest := []) ⟨hx, hb, hml, hown, hts⟩ (c_X6_isNew l D G ad hI I62 rN (show rN < 4 by omega)) (cwV 1 hts gX6_add_X6_isNew rfl rfl rfl (by decide +kernel) ⟨Nat.le_of_ble_eq_true rfl, Nat.le_of_ble_eq_true rfl⟩) (g_preV hK hW 0 (0) (mM (by decide) (by decide)) rfl rfl) rfl rfl hl.1 rfl (lv_room (Nat.le_of_ble_eq_true rfl)) dX6_add_185 ⟨Nat.le_refl _, Nat.le_refl _⟩) hS (fun I63 H locs hp hW hS => ?_)
                have eI63 : I63 = inS I62 rN := hp
                refine lv_iload hx hb dX6_add_188 (lv_at hl 0 rfl) ?_
                rw [hQ]
                exact g_iret (wd := wM G ad) hx hb hr rfl hlocks hW hS (by have hact : acF (J 16 0 (4 * aN + bN)) = nI (3) := (by rw [← ex5]; simp only [acF]; simp [c56_5, c62_24, c72_25, c82_26] <;> decide +kernel); refine ⟨?_, ?_⟩; (rw [if_pos (by simp [k_rN, k_aN, k_bN]), if_pos (by simp only [t_rN, t_aN, t_bN]; omega)]; simp only [t_rN, t_aN, t_bN]); rw [if_pos (by simp [k_rN, k_aN, k_bN, t_rN, t_aN, t_bN]; omega)]; simp only [t_rN, t_aN, t_bN]; rw [adM, hact]; subst eI63 eI62 ex61 ex60 ex59 eI58 ex57 ex56 ex55 eI54 ex53 eI52 eI51 eI50 ex49 ex47 eI46 ex46 ex5 ex3; rfl) dX6_add_190
            · refine lv_iconst (v := nI 2) hx hb dX6_add_75 (by decide) ?_
              refine lv_goto (tgt := 90) hx hb dX6_add_76 (by decide) ?_
              refine lv_iload hx hb dX6_add_90 (lv_at hl 6 rfl) ?_
              refine g_ci (va_runV (As := [.int (nI (rN)), .int (nI (aN)), .int (nI ((4 * aN) + bN)), .int (nI (2)), .int (v)]) (rest := []) ⟨hx, hb, hml, hown, hts⟩ (c_X6_goes l D G ad hI J rN aN (nI ((4 * aN) + bN)) (nI (2)) v (show rN < 33 by omega) (show rN ≠ 27 by omega) hM) (cwV 5 hts gX6_add_X6_goes rfl rfl rfl (by decide +kernel) ⟨Nat.le_of_ble_eq_true rfl, Nat.le_of_ble_eq_true rfl⟩) (g_preV hK hW 0 (0) (mM (by decide) (by decide)) rfl rfl) rfl rfl hl.1 rfl (lv_room (Nat.le_of_ble_eq_true rfl)) dX6_add_92 ⟨Nat.le_refl _, Nat.le_refl _⟩) hS (fun x64 I64 H locs hp hW hS => ?_)
              obtain ⟨ex64, eI64⟩ := hp
              refine lv_istore (lv' := [(7, .int (x64)), (6, .int (x5)), (5, .int (nI ((4 * aN) + bN))), (0, .ref (ad 0 (0))), (1, .int (nI (rN))), (2, .int (nI (aN))), (3, .int (nI (bN))), (4, .int (v))]) hx hb dX6_add_95 hl (by decide) rfl (fun ls hl => ?_)
              refine lv_aload_n hx hb dX6_add_97 rfl (lv_at hl 3 rfl) ?_
              refine r_get hx hb hts hown hK hW 0 (0) 0 (mM (by decide) (by decide)) rfl rfl hinX6 (by decide) hf9 rfl rfl dX6_add_98 ?_
              refine lv_iload_n hx hb dX6_add_101 rfl (lv_at hl 4 rfl) ?_
              refine rM_iald hx hb hK hW 12 (0) (rN) (by decide) (by decide) (by decide) (show rN < 4 by omega) rfl dX6_add_102 (fun x65 ex65 => ?_)
              refine r_top (show x65 = nI (mk J rN) from (ex65.trans ((mk_o (fun r9 => by subst ex65 eI64 ex64 ex5 ex3; simp [clr_n, cpy_n, jn_n, goA_n, inP_n, up3_f, up3_s, mtM_n]) rN).trans (hM rN (by omega)).1))) ?_
              refine lv_istore (lv' := [(8, .int (nI (mk J rN))), (7, .int (x64)), (6, .int (x5)), (5, .int (nI ((4 * aN) + bN))), (0, .ref (ad 0 (0))), (1, .int (nI (rN))), (2, .int (nI (aN))), (3, .int (nI (bN))), (4, .int (v))]) hx hb dX6_add_103 hl (by decide) rfl (fun ls hl => ?_)
              refine lv_aload_n hx hb dX6_add_105 rfl (lv_at hl 4 rfl) ?_
              refine r_get hx hb hts hown hK hW 0 (0) 2 (mM (by decide) (by decide)) rfl rfl hinX6 (by decide) hf18 rfl rfl dX6_add_106 ?_
              refine lv_iload_n hx hb dX6_add_109 rfl (lv_at hl 5 rfl) ?_
              refine r_aaldI hx hb hK hW 1 1 (rN) (mM (by decide) (by decide)) rfl (show rN < 4 by omega) (by decide) rfl rfl dX6_add_110 ?_
              refine lv_iload hx hb dX6_add_111 (lv_at hl 0 rfl) ?_
              refine lv_aload_n hx hb dX6_add_113 rfl (lv_at hl 4 rfl) ?_
              refine lv_iload_n hx hb dX6_add_114 rfl (lv_at hl 5 rfl) ?_
              have hM_65 : okM I64 := okM_e (fun r9 => by subst ex65 eI64 ex64 ex5 ex3; simp [clr_n, cpy_n, jn_n, goA_n, inP_n, up3_f, up3_s, mtM_n]) hM
              refine g_ci (va_runV (As := [.int (nI (rN))]) (rest := [.int (nI (mk J rN)), .ref (ad 14 (rN))]) ⟨hx, hb, hml, hown, hts⟩ (c_X6_stampAbove l D G ad hI I64 rN (show rN < 33 by omega) hM_65) (cwV 1 hts gX6_add_X6_stampAbove rfl rfl rfl (by decide +kernel) ⟨Nat.le_of_ble_eq_true rfl, Nat.le_of_ble_eq_true rfl⟩) (g_preV hK hW 0 (0) (mM (by decide) (by decide)) rfl rfl) rfl rfl hl.1 rfl (lv_room (Nat.le_of_ble_eq_true rfl)) dX6_add_115 ⟨Nat.le_refl _, Nat.le_refl _⟩) hS (fun x67 I67 H locs hp hW hS => ?_)
              obtain ⟨ex67, eI67⟩ := hp
              rw [eI67] at hW
              clear eI67
              refine rM_iast hx hb hK hI hW hS 14 (rN) (mk J rN) (by decide) (by decide) (show rN < 4 by omega) (show mk J rN < 31 by omega) rfl dX6_add_118 (fun I68 H locs eI68 hW hS => ?_)
              refine lv_aload_n hx hb dX6_add_119 rfl (lv_at hl 4 rfl) ?_
              refine r_get hx hb hts hown hK hW 0 (0) 1 (mM (by decide) (by decide)) rfl rfl hinX6 (by decide) hf15 rfl rfl dX6_add_120 ?_
              refine lv_iload_n hx hb dX6_add_123 rfl (lv_at hl 5 rfl) ?_
              refine r_aaldI hx hb hK hW 1 0 (rN) (mM (by decide) (by decide)) rfl (show rN < 4 by omega) (by decide) rfl rfl dX6_add_124 ?_
              refine lv_iload hx hb dX6_add_125 (lv_at hl 0 rfl) ?_
              refine lv_iload hx hb dX6_add_127 (lv_at hl 8 rfl) ?_
              refine rM_iast hx hb hK hI hW hS 13 (rN) (mk J rN) (by decide) (by decide) (show rN < 4 by omega) (show mk J rN < 31 by omega) rfl dX6_add_129 (fun I69 H locs eI69 hW hS => ?_)
              refine lv_aload_n hx hb dX6_add_130 rfl (lv_at hl 4 rfl) ?_
              refine r_get hx hb hts hown hK hW 0 (0) 3 (mM (by decide) (by decide)) rfl rfl hinX6 (by decide) hf21 rfl rfl dX6_add_131 ?_
              refine lv_iload_n hx hb dX6_add_134 rfl (lv_at hl 5 rfl) ?_
              refine r_aaldI hx hb hK hW 1 2 (rN) (mM (by decide) (by decide)) rfl (show rN < 4 by omega) (by decide) rfl rfl dX6_add_135 ?_
              refine lv_iload hx hb dX6_add_136 (lv_at hl 0 rfl) ?_
              refine lv_iload hx hb dX6_add_138 (lv_at hl 3 rfl) ?_
              refine rM_iast hx hb hK hI hW hS 15 (rN) (mk J rN) (by decide) (by decide) (show rN < 4 by omega) (show mk J rN < 31 by omega) rfl dX6_add_140 (fun I70 H locs eI70 hW hS => ?_)
              refine lv_aload_n hx hb dX6_add_141 rfl (lv_at hl 4 rfl) ?_
              refine r_get hx hb hts hown hK hW 0 (0) 0 (mM (by decide) (by decide)) rfl rfl hinX6 (by decide) hf9 rfl rfl dX6_add_142 ?_
              refine lv_iload_n hx hb dX6_add_145 rfl (lv_at hl 5 rfl) ?_
              refine lv_dup2_11 hx hb dX6_add_146 rfl rfl ?_
              refine rM_iald hx hb hK hW 12 (0) (rN) (by decide) (by decide) (by decide) (show rN < 4 by omega) rfl dX6_add_147 (fun x71 ex71 => ?_)
              refine r_top (show x71 = nI (mk J rN) from (ex71.trans ((mk_o (fun r9 => by subst ex71 eI70 eI69 eI68 ex67 ex65 eI64 ex64 ex5 ex3; simp [clr_n, cpy_n, jn_n, goA_n, inP_n, up3_f, up3_s, mtM_n]) rN).trans (hM rN (by omega)).1))) ?_
              refine lv_iconst (v := nI 1) hx hb dX6_add_148 (by decide) ?_
              refine lv_iadd hx hb dX6_add_149 (r_top (nI_add _ _) ?_)
              refine rM_iast hx hb hK hI hW hS 12 (0) (rN) (by decide) (by decide) (by decide) (show rN < 4 by omega) rfl dX6_add_150 (fun I72 H locs eI72 hW hS => ?_)
              refine lv_aload_n hx hb dX6_add_151 rfl (lv_at hl 4 rfl) ?_
              refine r_get hx hb hts hown hK hW 0 (0) 5 (mM (by decide) (by decide)) rfl rfl hinX6 (by decide) hf27 rfl rfl dX6_add_152 ?_
              refine lv_bipush (v := nI 27) hx hb dX6_add_155 (by decide) ?_
              refine r_aaldI hx hb hK hW 1 3 (27) (mM (by decide) (by decide)) rfl (by decide) (by decide) rfl rfl dX6_add_157 ?_
              refine lv_iload_n hx hb dX6_add_158 rfl (lv_at hl 5 rfl) ?_
              refine lv_dup2_11 hx hb dX6_add_159 rfl rfl ?_
              refine rM_iald hx hb hK hW 10 (27) (rN) (by decide) (by decide) (by decide) (show rN < 4 by omega) rfl dX6_add_160 (fun x73 ex73 => ?_)
              refine lv_iconst (v := nI 1) hx hb dX6_add_161 (by decide) ?_
              refine lv_iload hx hb dX6_add_162 (lv_at hl 0 rfl) ?_
              refine lv_ishl hx hb dX6_add_164 (lv_topi (fun x74 ex74 => ?_))
              replace ex74 : x74 = b1 (mk J rN) := ex74
              refine lv_ior hx hb dX6_add_165 (lv_topi (fun x75 ex75 => ?_))
              refine rM_iast hx hb hK hI hW hS 10 (27) (rN) (by decide) (by decide) (by decide) (show rN < 4 by omega) rfl dX6_add_166 (fun I76 H locs eI76 hW hS => ?_)
              refine lv_aload_n hx hb dX6_add_167 rfl (lv_at hl 4 rfl) ?_
              refine r_get hx hb hts hown hK hW 0 (0) 6 (mM (by decide) (by decide)) rfl rfl hinX6 (by decide) hf30 rfl rfl dX6_add_168 ?_
              refine lv_bipush (v := nI 27) hx hb dX6_add_171 (by decide) ?_
              refine r_aaldI hx hb hK hW 1 4 (27) (mM (by decide) (by decide)) rfl (by decide) (by decide) rfl rfl dX6_add_173 ?_
              refine lv_iload_n hx hb dX6_add_174 rfl (lv_at hl 5 rfl) ?_
              refine lv_dup2_11 hx hb dX6_add_175 rfl rfl ?_
              refine rM_iald hx hb hK hW 11 (27) (rN) (by decide) (by decide) (by decide) (show rN < 4 by omega) rfl dX6_add_176 (fun x77 ex77 => ?_)
              refine lv_iconst (v := nI 1) hx hb dX6_add_177 (by decide) ?_
              refine lv_iload hx hb dX6_add_178 (lv_at hl 0 rfl) ?_
              refine lv_ishl hx hb dX6_add_180 (lv_topi (fun x78 ex78 => ?_))
              replace ex78 : x78 = b1 (mk J rN) := ex78
              refine lv_ior hx hb dX6_add_181 (lv_topi (fun x79 ex79 => ?_))
              refine rM_iast hx hb hK hI hW hS 11 (27) (rN) (by decide) (by decide) (by decide) (show rN < 4 by omega) rfl dX6_add_182 (fun I80 H locs eI80 hW hS => ?_)
              refine lv_aload_n hx hb dX6_add_183 rfl (lv_at hl 4 rfl) ?_
              refine lv_iload_n hx hb dX6_add_184 rfl (lv_at hl 5 rfl) ?_
              refine g_cv (va_runV (As := [.int (nI (rN))]) (rest := []) ⟨hx, hb, hml, hown, hts⟩ (c_X6_isNew l D G ad hI I80 rN (show rN < 4 by omega)) (cwV 1 hts gX6_add_X6_isNew rfl rfl rfl (by decide +kernel) ⟨Nat.le_of_ble_eq_true rfl, Nat.le_of_ble_eq_true rfl⟩) (g_preV hK hW 0 (0) (mM (by decide) (by decide)) rfl rfl) rfl rfl hl.1 rfl (lv_room (Nat.le_of_ble_eq_true rfl)) dX6_add_185 ⟨Nat.le_refl _, Nat.le_refl _⟩) hS (fun I81 H locs hp hW hS => ?_)
              have eI81 : I81 = inS I80 rN := hp
              refine lv_iload hx hb dX6_add_188 (lv_at hl 0 rfl) ?_
              rw [hQ]
              exact g_iret (wd := wM G ad) hx hb hr rfl hlocks hW hS (by have hact : acF (J 16 0 (4 * aN + bN)) = nI (2) := (by rw [← ex5]; simp only [acF]; simp [c56_5, c62_24, c72_25] <;> decide +kernel); refine ⟨?_, ?_⟩; (rw [if_pos (by simp [k_rN, k_aN, k_bN]), if_pos (by simp only [t_rN, t_aN, t_bN]; omega)]; simp only [t_rN, t_aN, t_bN]); rw [if_pos (by simp [k_rN, k_aN, k_bN, t_rN, t_aN, t_bN]; omega)]; simp only [t_rN, t_aN, t_bN]; rw [adM, hact]; subst eI81 eI80 ex79 ex78 ex77 eI76 ex75 ex74 ex73 eI72 ex71 eI70 eI69 eI68 ex67 ex65 eI64 ex64 ex5 ex3; rfl) dX6_add_190
          · refine lv_iconst (v := nI 1) hx hb dX6_add_65 (by decide) ?_
            refine lv_goto (tgt := 90) hx hb dX6_add_66 (by decide) ?_
            refine lv_iload hx hb dX6_add_90 (lv_at hl 6 rfl) ?_
            refine g_ci (va_runV (As := [.int (nI (rN)), .int (nI (aN)), .int (nI ((4 * aN) + bN)), .int (nI (1)), .int (v)]) (rest := []) ⟨hx, hb, hml, hown, hts⟩ (c_X6_goes l D G ad hI J rN aN (nI ((4 * aN) + bN)) (nI (1)) v (show rN < 33 by omega) (show rN ≠ 27 by omega) hM) (cwV 5 hts gX6_add_X6_goes rfl rfl rfl (by decide +kernel) ⟨Nat.le_of_ble_eq_true rfl, Nat.le_of_ble_eq_true rfl⟩) (g_preV hK hW 0 (0) (mM (by decide) (by decide)) rfl rfl) rfl rfl hl.1 rfl (lv_room (Nat.le_of_ble_eq_true rfl)) dX6_add_92 ⟨Nat.le_refl _, Nat.le_refl _⟩) hS (fun x82 I82 H locs hp hW hS => ?_)
            obtain ⟨ex82, eI82⟩ := hp
            refine lv_istore (lv' := [(7, .int (x82)), (6, .int (x5)), (5, .int (nI ((4 * aN) + bN))), (0, .ref (ad 0 (0))), (1, .int (nI (rN))), (2, .int (nI (aN))), (3, .int (nI (bN))), (4, .int (v))]) hx hb dX6_add_95 hl (by decide) rfl (fun ls hl => ?_)
            refine lv_aload_n hx hb dX6_add_97 rfl (lv_at hl 3 rfl) ?_
            refine r_get hx hb hts hown hK hW 0 (0) 0 (mM (by decide) (by decide)) rfl rfl hinX6 (by decide) hf9 rfl rfl dX6_add_98 ?_
            refine lv_iload_n hx hb dX6_add_101 rfl (lv_at hl 4 rfl) ?_
            refine rM_iald hx hb hK hW 12 (0) (rN) (by decide) (by decide) (by decide) (show rN < 4 by omega) rfl dX6_add_102 (fun x83 ex83 => ?_)
            refine r_top (show x83 = nI (mk J rN) from (ex83.trans ((mk_o (fun r9 => by subst ex83 eI82 ex82 ex5 ex3; simp [clr_n, cpy_n, jn_n, goA_n, inP_n, up3_f, up3_s, mtM_n]) rN).trans (hM rN (by omega)).1))) ?_
            refine lv_istore (lv' := [(8, .int (nI (mk J rN))), (7, .int (x82)), (6, .int (x5)), (5, .int (nI ((4 * aN) + bN))), (0, .ref (ad 0 (0))), (1, .int (nI (rN))), (2, .int (nI (aN))), (3, .int (nI (bN))), (4, .int (v))]) hx hb dX6_add_103 hl (by decide) rfl (fun ls hl => ?_)
            refine lv_aload_n hx hb dX6_add_105 rfl (lv_at hl 4 rfl) ?_
            refine r_get hx hb hts hown hK hW 0 (0) 2 (mM (by decide) (by decide)) rfl rfl hinX6 (by decide) hf18 rfl rfl dX6_add_106 ?_
            refine lv_iload_n hx hb dX6_add_109 rfl (lv_at hl 5 rfl) ?_
            refine r_aaldI hx hb hK hW 1 1 (rN) (mM (by decide) (by decide)) rfl (show rN < 4 by omega) (by decide) rfl rfl dX6_add_110 ?_
            refine lv_iload hx hb dX6_add_111 (lv_at hl 0 rfl) ?_
            refine lv_aload_n hx hb dX6_add_113 rfl (lv_at hl 4 rfl) ?_
            refine lv_iload_n hx hb dX6_add_114 rfl (lv_at hl 5 rfl) ?_
            have hM_83 : okM I82 := okM_e (fun r9 => by subst ex83 eI82 ex82 ex5 ex3; simp [clr_n, cpy_n, jn_n, goA_n, inP_n, up3_f, up3_s, mtM_n]) hM
            refine g_ci (va_runV (As := [.int (nI (rN))]) (rest := [.int (nI (mk J rN)), .ref (ad 14 (rN))]) ⟨hx, hb, hml, hown, hts⟩ (c_X6_stampAbove l D G ad hI I82 rN (show rN < 33 by omega) hM_83) (cwV 1 hts gX6_add_X6_stampAbove rfl rfl rfl (by decide +kernel) ⟨Nat.le_of_ble_eq_true rfl, Nat.le_of_ble_eq_true rfl⟩) (g_preV hK hW 0 (0) (mM (by decide) (by decide)) rfl rfl) rfl rfl hl.1 rfl (lv_room (Nat.le_of_ble_eq_true rfl)) dX6_add_115 ⟨Nat.le_refl _, Nat.le_refl _⟩) hS (fun x85 I85 H locs hp hW hS => ?_)
            obtain ⟨ex85, eI85⟩ := hp
            rw [eI85] at hW
            clear eI85
            refine rM_iast hx hb hK hI hW hS 14 (rN) (mk J rN) (by decide) (by decide) (show rN < 4 by omega) (show mk J rN < 31 by omega) rfl dX6_add_118 (fun I86 H locs eI86 hW hS => ?_)
            refine lv_aload_n hx hb dX6_add_119 rfl (lv_at hl 4 rfl) ?_
            refine r_get hx hb hts hown hK hW 0 (0) 1 (mM (by decide) (by decide)) rfl rfl hinX6 (by decide) hf15 rfl rfl dX6_add_120 ?_
            refine lv_iload_n hx hb dX6_add_123 rfl (lv_at hl 5 rfl) ?_
            refine r_aaldI hx hb hK hW 1 0 (rN) (mM (by decide) (by decide)) rfl (show rN < 4 by omega) (by decide) rfl rfl dX6_add_124 ?_
            refine lv_iload hx hb dX6_add_125 (lv_at hl 0 rfl) ?_
            refine lv_iload hx hb dX6_add_127 (lv_at hl 8 rfl) ?_
            refine rM_iast hx hb hK hI hW hS 13 (rN) (mk J rN) (by decide) (by decide) (show rN < 4 by omega) (show mk J rN < 31 by omega) rfl dX6_add_129 (fun I87 H locs eI87 hW hS => ?_)
            refine lv_aload_n hx hb dX6_add_130 rfl (lv_at hl 4 rfl) ?_
            refine r_get hx hb hts hown hK hW 0 (0) 3 (mM (by decide) (by decide)) rfl rfl hinX6 (by decide) hf21 rfl rfl dX6_add_131 ?_
            refine lv_iload_n hx hb dX6_add_134 rfl (lv_at hl 5 rfl) ?_
            refine r_aaldI hx hb hK hW 1 2 (rN) (mM (by decide) (by decide)) rfl (show rN < 4 by omega) (by decide) rfl rfl dX6_add_135 ?_
            refine lv_iload hx hb dX6_add_136 (lv_at hl 0 rfl) ?_
            refine lv_iload hx hb dX6_add_138 (lv_at hl 3 rfl) ?_
            refine rM_iast hx hb hK hI hW hS 15 (rN) (mk J rN) (by decide) (by decide) (show rN < 4 by omega) (show mk J rN < 31 by omega) rfl dX6_add_140 (fun I88 H locs eI88 hW hS => ?_)
            refine lv_aload_n hx hb dX6_add_141 rfl (lv_at hl 4 rfl) ?_
            refine r_get hx hb hts hown hK hW 0 (0) 0 (mM (by decide) (by decide)) rfl rfl hinX6 (by decide) hf9 rfl rfl dX6_add_142 ?_
            refine lv_iload_n hx hb dX6_add_145 rfl (lv_at hl 5 rfl) ?_
            refine lv_dup2_11 hx hb dX6_add_146 rfl rfl ?_
            refine rM_iald hx hb hK hW 12 (0) (rN) (by decide) (by decide) (by decide) (show rN < 4 by omega) rfl dX6_add_147 (fun x89 ex89 => ?_)
            refine r_top (show x89 = nI (mk J rN) from (ex89.trans ((mk_o (fun r9 => by subst ex89 eI88 eI87 eI86 ex85 ex83 eI82 ex82 ex5 ex3; simp [clr_n, cpy_n, jn_n, goA_n, inP_n, up3_f, up3_s, mtM_n]) rN).trans (hM rN (by omega)).1))) ?_
            refine lv_iconst (v := nI 1) hx hb dX6_add_148 (by decide) ?_
            refine lv_iadd hx hb dX6_add_149 (r_top (nI_add _ _) ?_)
            refine rM_iast hx hb hK hI hW hS 12 (0) (rN) (by decide) (by decide) (by decide) (show rN < 4 by omega) rfl dX6_add_150 (fun I90 H locs eI90 hW hS => ?_)
            refine lv_aload_n hx hb dX6_add_151 rfl (lv_at hl 4 rfl) ?_
            refine r_get hx hb hts hown hK hW 0 (0) 5 (mM (by decide) (by decide)) rfl rfl hinX6 (by decide) hf27 rfl rfl dX6_add_152 ?_
            refine lv_bipush (v := nI 27) hx hb dX6_add_155 (by decide) ?_
            refine r_aaldI hx hb hK hW 1 3 (27) (mM (by decide) (by decide)) rfl (by decide) (by decide) rfl rfl dX6_add_157 ?_
            refine lv_iload_n hx hb dX6_add_158 rfl (lv_at hl 5 rfl) ?_
            refine lv_dup2_11 hx hb dX6_add_159 rfl rfl ?_
            refine rM_iald hx hb hK hW 10 (27) (rN) (by decide) (by decide) (by decide) (show rN < 4 by omega) rfl dX6_add_160 (fun x91 ex91 => ?_)
            refine lv_iconst (v := nI 1) hx hb dX6_add_161 (by decide) ?_
            refine lv_iload hx hb dX6_add_162 (lv_at hl 0 rfl) ?_
            refine lv_ishl hx hb dX6_add_164 (lv_topi (fun x92 ex92 => ?_))
            replace ex92 : x92 = b1 (mk J rN) := ex92
            refine lv_ior hx hb dX6_add_165 (lv_topi (fun x93 ex93 => ?_))
            refine rM_iast hx hb hK hI hW hS 10 (27) (rN) (by decide) (by decide) (by decide) (show rN < 4 by omega) rfl dX6_add_166 (fun I94 H locs eI94 hW hS => ?_)
            refine lv_aload_n hx hb dX6_add_167 rfl (lv_at hl 4 rfl) ?_
            refine r_get hx hb hts hown hK hW 0 (0) 6 (mM (by decide) (by decide)) rfl rfl hinX6 (by decide) hf30 rfl rfl dX6_add_168 ?_
            refine lv_bipush (v := nI 27) hx hb dX6_add_171 (by decide) ?_
            refine r_aaldI hx hb hK hW 1 4 (27) (mM (by decide) (by decide)) rfl (by decide) (by decide) rfl rfl dX6_add_173 ?_
            refine lv_iload_n hx hb dX6_add_174 rfl (lv_at hl 5 rfl) ?_
            refine lv_dup2_11 hx hb dX6_add_175 rfl rfl ?_
            refine rM_iald hx hb hK hW 11 (27) (rN) (by decide) (by decide) (by decide) (show rN < 4 by omega) rfl dX6_add_176 (fun x95 ex95 => ?_)
            refine lv_iconst (v := nI 1) hx hb dX6_add_177 (by decide) ?_
            refine lv_iload hx hb dX6_add_178 (lv_at hl 0 rfl) ?_
            refine lv_ishl hx hb dX6_add_180 (lv_topi (fun x96 ex96 => ?_))
            replace ex96 : x96 = b1 (mk J rN) := ex96
            refine lv_ior hx hb dX6_add_181 (lv_topi (fun x97 ex97 => ?_))
            refine rM_iast hx hb hK hI hW hS 11 (27) (rN) (by decide) (by decide) (by decide) (show rN < 4 by omega) rfl dX6_add_182 (fun I98 H locs eI98 hW hS => ?_)
            refine lv_aload_n hx hb dX6_add_183 rfl (lv_at hl 4 rfl) ?_
            refine lv_iload_n hx hb dX6_add_184 rfl (lv_at hl 5 rfl) ?_
            refine g_cv (va_runV (As := [.int (nI (rN))]) (rest := []) ⟨hx, hb, hml, hown, hts⟩ (c_X6_isNew l D G ad hI I98 rN (show rN < 4 by omega)) (cwV 1 hts gX6_add_X6_isNew rfl rfl rfl (by decide +kernel) ⟨Nat.le_of_ble_eq_true rfl, Nat.le_of_ble_eq_true rfl⟩) (g_preV hK hW 0 (0) (mM (by decide) (by decide)) rfl rfl) rfl rfl hl.1 rfl (lv_room (Nat.le_of_ble_eq_true rfl)) dX6_add_185 ⟨Nat.le_refl _, Nat.le_refl _⟩) hS (fun I99 H locs hp hW hS => ?_)
            have eI99 : I99 = inS I98 rN := hp
            refine lv_iload hx hb dX6_add_188 (lv_at hl 0 rfl) ?_
            rw [hQ]
            exact g_iret (wd := wM G ad) hx hb hr rfl hlocks hW hS (by have hact : acF (J 16 0 (4 * aN + bN)) = nI (1) := (by rw [← ex5]; simp only [acF]; simp [c56_5, c62_24] <;> decide +kernel); refine ⟨?_, ?_⟩; (rw [if_pos (by simp [k_rN, k_aN, k_bN]), if_pos (by simp only [t_rN, t_aN, t_bN]; omega)]; simp only [t_rN, t_aN, t_bN]); rw [if_pos (by simp [k_rN, k_aN, k_bN, t_rN, t_aN, t_bN]; omega)]; simp only [t_rN, t_aN, t_bN]; rw [adM, hact]; subst eI99 eI98 ex97 ex96 ex95 eI94 ex93 ex92 ex91 eI90 ex89 eI88 eI87 eI86 ex85 ex83 eI82 ex82 ex5 ex3; rfl) dX6_add_190
      · replace c26_3 : mk J rN = 31 := (nI_eq (show mk J rN < 2147483648 by omega) (show 31 < 2147483648 by omega)).mp c26_3
        refine lv_bipush (v := (-4)) hx hb dX6_add_29 (by decide) ?_
        rw [hQ]
        exact g_iret (wd := wM G ad) hx hb hr rfl hlocks hW hS (by subst ex3; refine ⟨?_, ?_⟩ <;> simp [k_rN, k_aN, k_bN, t_rN, t_aN, t_bN, c26_3]) dX6_add_31
    · replace c12_1 := bI_0.mp c12_1
      try simp only [decide_eq_true_eq, decide_eq_false_iff_not] at c12_1
      refine lv_bipush (v := (-2)) hx hb dX6_add_15 (by decide) ?_
      rw [hQ]
      exact g_iret (wd := wM G ad) hx hb hr rfl hlocks hW hS (by skip; refine ⟨?_, ?_⟩ <;> simp [k_rN, c12_1]) dX6_add_17
