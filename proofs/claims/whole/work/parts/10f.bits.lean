/-! ===== floats: bits ===== -/
set_option maxHeartbeats 4000000 in
set_option maxRecDepth 100000 in
theorem c_X5_bitsOf_p (l : Launch) (e9 t : Nat) (h1e : 1 ≤ e9) (h2e : e9 < 255) (ht : t < 8388608) : Met l yX5_bitsOf wsX5_bitsOf ({ frames := 0, cells := 0, slots := 0, locals := 0 } : Room) (pPre [.float (fl e9 t)]) (pQi ((fl e9 t).toInt32)) 0 0 (fun _ => False) := by
  refine p_entry (C := RX5) (cc := cX5_bitsOf) (maxL := 4) (ret := (some .int)) rfl (by decide) rfl (Nat.le_of_ble_eq_true rfl) (fun p e s m args below meth c Q ls hQ hx hb hr hts hown hlocks hml hl => ?_)
  have hl : lv_has ls 4 [(0, .float (fl e9 t))] := hl
  have hS := va_S.rf (A := fun _ => False) (H0 := s.heap)
  refine lv_fload_n hx hb dX5_bitsOf_0 rfl (lv_at hl 0 rfl) ?_
  refine lv_fconst0 hx hb dX5_bitsOf_1 ?_
  refine lv_fcmp hx hb dX5_bitsOf_2 ?_
  refine r_top (show Op.cmpValue (FP.fcmp (fl e9 t) FP.fconst0) .l = nI 1 from fl_posv h1e h2e ht) ?_
  refine lv_if_ne (tgt := 8) hx hb dX5_bitsOf_3 (by decide) (fun _ => ?_) (fun h => absurd h (by decide))
  refine lv_fload_n hx hb dX5_bitsOf_8 rfl (lv_at hl 0 rfl) ?_
  refine lv_fconst0 hx hb dX5_bitsOf_9 ?_
  refine lv_fcmp hx hb dX5_bitsOf_10 ?_
  refine r_top (show Op.cmpValue (FP.fcmp (fl e9 t) FP.fconst0) .g = nI 1 from fl_posv h1e h2e ht) ?_
  refine lv_if_ge (tgt := 20) hx hb dX5_bitsOf_11 (by decide) (fun _ => ?_) (fun h => absurd (by decide) h)
  refine lv_iconst (v := nI 0) hx hb dX5_bitsOf_20 (by decide) ?_
  refine lv_istore_n (lv' := [(1, .int (nI (0))), (0, .float (fl e9 t))]) hx hb dX5_bitsOf_21 rfl hl (by decide) rfl (fun ls hl => ?_)
  refine lv_fload_n hx hb dX5_bitsOf_22 rfl (lv_at hl 1 rfl) ?_
  refine lv_fconst0 hx hb dX5_bitsOf_23 ?_
  refine lv_fcmp hx hb dX5_bitsOf_24 ?_
  refine r_top (show Op.cmpValue (FP.fcmp (fl e9 t) FP.fconst0) .g = nI 1 from fl_posv h1e h2e ht) ?_
  refine lv_if_ge (tgt := 33) hx hb dX5_bitsOf_25 (by decide) (fun _ => ?_) (fun h => absurd (by decide) h)
  refine lv_fload_n hx hb dX5_bitsOf_33 rfl (lv_at hl 1 rfl) ?_
  refine lv_fstore_n (lv' := [(2, .float (fl e9 t)), (1, .int (nI (0))), (0, .float (fl e9 t))]) hx hb dX5_bitsOf_34 rfl hl (by decide) rfl (fun ls hl => ?_)
  refine lv_bipush (v := nI 127) hx hb dX5_bitsOf_35 (by decide) ?_
  refine lv_istore_n (lv' := [(3, .int (nI (127))), (2, .float (fl e9 t)), (1, .int (nI (0))), (0, .float (fl e9 t))]) hx hb dX5_bitsOf_37 rfl hl (by decide) rfl (fun ls hl => ?_)
  have K38 : ∀ (n : Nat) (q : Nat) (n1 : Nat), (1 ≤ q) → (q < 255) → (n1 + q = 127 + e9) → 255 < (255 - q) + n → ∀ (H : Heap) (locs : List Loc), va_S (fun _ => False) s.heap H locs → ∀ (ls : Array Slot), lv_has ls 4 [(3, .int (nI (n1))), (2, .float (fl q t)), (1, .int (nI (0))), (0, .float (fl e9 t))] → W p l e ({ frames := 0, cells := 0, slots := 0, locals := 0 } : Room) s m args below meth c H locs 0 0 Q (F0 m 38 ls []) := by
    intro n38
    induction n38 with
    | zero => intro q n1 h1q h2q hnq hfu; exact absurd hfu (by omega)
    | succ n38 ih38 =>
      intro q n1 h1q h2q hnq hfu H locs hS ls hl
      refine lv_fload_n hx hb dX5_bitsOf_38 rfl (lv_at hl 1 rfl) ?_
      refine lv_fconst2 hx hb dX5_bitsOf_39 ?_
      refine lv_fcmp hx hb dX5_bitsOf_40 ?_
      refine lv_if_lt (tgt := 61) hx hb dX5_bitsOf_41 (by decide) (fun c41_3 => ?_) (fun c41_3 => ?_)
      · replace c41_3 := (fl_lt2v h1q h2q ht).mp c41_3
        have K61 : ∀ (n : Nat) (q : Nat) (n1 : Nat), (1 ≤ q) → (q ≤ 127) → (n1 + q = 127 + e9) → 127 < q + n → ∀ (H : Heap) (locs : List Loc), va_S (fun _ => False) s.heap H locs → ∀ (ls : Array Slot), lv_has ls 4 [(3, .int (nI (n1))), (2, .float (fl q t)), (1, .int (nI (0))), (0, .float (fl e9 t))] → W p l e ({ frames := 0, cells := 0, slots := 0, locals := 0 } : Room) s m args below meth c H locs 0 0 Q (F0 m 61 ls []) := by
          intro n61
          induction n61 with
          | zero => intro q n1 h1q h2q hnq hfu; exact absurd hfu (by omega)
          | succ n61 ih61 =>
            intro q n1 h1q h2q hnq hfu H locs hS ls hl
            refine lv_fload_n hx hb dX5_bitsOf_61 rfl (lv_at hl 1 rfl) ?_
            refine lv_fconst1 hx hb dX5_bitsOf_62 ?_
            refine lv_fcmp hx hb dX5_bitsOf_63 ?_
            refine lv_if_ge (tgt := 82) hx hb dX5_bitsOf_64 (by decide) (fun c64_4 => ?_) (fun c64_4 => ?_)
            · replace c64_4 := (fl_ge1v h1q (by omega) ht).mp c64_4
              refine lv_iload_n hx hb dX5_bitsOf_82 rfl (lv_at hl 2 rfl) ?_
              refine lv_iload_n hx hb dX5_bitsOf_83 rfl (lv_at hl 0 rfl) ?_
              refine lv_bipush (v := nI 23) hx hb dX5_bitsOf_84 (by decide) ?_
              refine lv_ishl hx hb dX5_bitsOf_86 (lv_topi (fun x6 ex6 => ?_))
              refine lv_ior hx hb dX5_bitsOf_87 (lv_topi (fun x7 ex7 => ?_))
              refine lv_fload_n hx hb dX5_bitsOf_88 rfl (lv_at hl 1 rfl) ?_
              refine lv_fconst1 hx hb dX5_bitsOf_89 ?_
              have hq9 : q = 127 := by omega
              subst hq9
              refine lv_fsub hx hb dX5_bitsOf_90 (fl_end_nn ht).1 ?_
              refine lv_ldcwf (v := (1258291200)) hx hb hown (hts (.constantFloat RX5 329 (1258291200)) (by decide +kernel)) dX5_bitsOf_91 ?_
              refine lv_fmul hx hb dX5_bitsOf_94 (fl_end_nn ht).2 ?_
              refine lv_f2i hx hb dX5_bitsOf_95 ?_
              refine r_top (fl_end ht) ?_
              refine lv_ior hx hb dX5_bitsOf_96 (lv_topi (fun x8 ex8 => ?_))
              rw [hQ]
              exact p_iret hx hb hr rfl hlocks hS (by have hn9 : n1 = e9 := (by omega); subst hn9; subst ex8 ex7 ex6; exact fl_bits h2e ht) dX5_bitsOf_97
            · replace c64_4 : ¬ 127 ≤ q := fun q9 => c64_4 ((fl_ge1v h1q (by omega) ht).mpr q9)
              refine lv_iload_n hx hb dX5_bitsOf_67 rfl (lv_at hl 0 rfl) ?_
              refine lv_iconst (v := nI 1) hx hb dX5_bitsOf_68 (by decide) ?_
              refine lv_icmp_le (tgt := 82) hx hb dX5_bitsOf_69 (by decide) (fun c69_8 => absurd c69_8 (nI_ge (show 1 < n1 by omega) (by omega))) (fun c69_8 => ?_)
              replace c69_8 : ¬ (n1 ≤ 1) := fun h => c69_8 ((nI_leI (show n1 < 2147483648 by omega) (show 1 < 2147483648 by omega)).mpr h)
              refine lv_fload_n hx hb dX5_bitsOf_72 rfl (lv_at hl 1 rfl) ?_
              refine lv_fconst2 hx hb dX5_bitsOf_73 ?_
              have hd9 : FP.fmul (fl q t) FP.fconst2 = fl (q + 1) t := fl_dbl (by omega) (by omega) ht
              refine lv_fmul hx hb dX5_bitsOf_74 (by rw [hd9]; exact fl_nn (by omega) (by omega) ht) ?_
              rw [hd9]
              refine lv_fstore_n (lv' := [(2, .float (fl (q + 1) t)), (3, .int (nI (n1))), (1, .int (nI (0))), (0, .float (fl e9 t))]) hx hb dX5_bitsOf_75 rfl hl (by decide) rfl (fun ls hl => ?_)
              refine lv_iinc (v := nI (n1 - 1)) (lv' := [(3, .int (nI (n1 - 1))), (2, .float (fl (q + 1) t)), (1, .int (nI (0))), (0, .float (fl e9 t))]) hx hb dX5_bitsOf_76 hl (k := 1) rfl (pk_dec (by omega)) (by decide) rfl (fun ls hl => ?_)
              refine lv_goto (tgt := 61) hx hb dX5_bitsOf_79 (by decide) ?_
              exact ih61 (q + 1) (n1 - 1) (by omega) (by omega) (by omega) (by omega) _ _ hS _ (lv_sub hl [0, 1, 2, 3] rfl)
        exact K61 (127 + 1) (q) (n1) (by omega) (by omega) (by omega) (by omega) _ _ hS _ (lv_sub hl [0, 1, 2, 3] rfl)
      · replace c41_3 : ¬ q < 128 := fun q9 => c41_3 ((fl_lt2v h1q h2q ht).mpr q9)
        refine lv_iload_n hx hb dX5_bitsOf_44 rfl (lv_at hl 0 rfl) ?_
        refine lv_sipush (v := nI 254) hx hb dX5_bitsOf_45 (by decide) ?_
        refine lv_icmp_ge (tgt := 61) hx hb dX5_bitsOf_48 (by decide) (fun c48_9 => absurd c48_9 (nI_ge (show n1 < 254 by omega) (by decide))) (fun c48_9 => ?_)
        replace c48_9 : ¬ (254 ≤ n1) := fun h => c48_9 ((nI_leI (show 254 < 2147483648 by omega) (show n1 < 2147483648 by omega)).mpr h)
        refine lv_fload_n hx hb dX5_bitsOf_51 rfl (lv_at hl 1 rfl) ?_
        refine lv_fconst2 hx hb dX5_bitsOf_52 ?_
        have hd9 : FP.fdiv (fl q t) FP.fconst2 = fl (q - 1) t := fl_half (by omega) (by omega) ht
        refine lv_fdiv hx hb dX5_bitsOf_53 (by rw [hd9]; exact fl_nn (by omega) (by omega) ht) ?_
        rw [hd9]
        refine lv_fstore_n (lv' := [(2, .float (fl (q - 1) t)), (3, .int (nI (n1))), (1, .int (nI (0))), (0, .float (fl e9 t))]) hx hb dX5_bitsOf_54 rfl hl (by decide) rfl (fun ls hl => ?_)
        refine lv_iinc (v := nI (n1 + 1)) (lv' := [(3, .int (nI (n1 + 1))), (2, .float (fl (q - 1) t)), (1, .int (nI (0))), (0, .float (fl e9 t))]) hx hb dX5_bitsOf_55 hl (k := 1) rfl (nI_inc n1 1) (by decide) rfl (fun ls hl => ?_)
        refine lv_goto (tgt := 38) hx hb dX5_bitsOf_58 (by decide) ?_
        exact ih38 (q - 1) (n1 + 1) (by omega) (by omega) (by omega) (by omega) _ _ hS _ (lv_sub hl [0, 1, 2, 3] rfl)
  exact K38 (255 + 1) (e9) (127) (by omega) (by omega) (by omega) (by omega) _ _ hS _ (lv_sub hl [0, 1, 2, 3] rfl)

set_option maxHeartbeats 4000000 in
set_option maxRecDepth 100000 in
theorem c_X5_bitsOf_n (l : Launch) (x : UInt32) (e9 t : Nat) (h1e : 1 ≤ e9) (h2e : e9 < 255) (ht : t < 8388608) (hx31 : x.toNat = 2147483648 + (e9 * 8388608 + t)) (hneg : FP.fneg x = fl e9 t) : Met l yX5_bitsOf wsX5_bitsOf ({ frames := 0, cells := 0, slots := 0, locals := 0 } : Room) (pPre [.float (x)]) (pQi (x.toInt32)) 0 0 (fun _ => False) := by
  refine p_entry (C := RX5) (cc := cX5_bitsOf) (maxL := 4) (ret := (some .int)) rfl (by decide) rfl (Nat.le_of_ble_eq_true rfl) (fun p e s m args below meth c Q ls hQ hx hb hr hts hown hlocks hml hl => ?_)
  have hl : lv_has ls 4 [(0, .float (x))] := hl
  have hS := va_S.rf (A := fun _ => False) (H0 := s.heap)
  refine lv_fload_n hx hb dX5_bitsOf_0 rfl (lv_at hl 0 rfl) ?_
  refine lv_fconst0 hx hb dX5_bitsOf_1 ?_
  refine lv_fcmp hx hb dX5_bitsOf_2 ?_
  refine r_top (show Op.cmpValue (FP.fcmp x FP.fconst0) .l = (-1) from fl_negv h1e h2e ht hx31) ?_
  refine lv_if_ne (tgt := 8) hx hb dX5_bitsOf_3 (by decide) (fun _ => ?_) (fun h => absurd h (by decide))
  refine lv_fload_n hx hb dX5_bitsOf_8 rfl (lv_at hl 0 rfl) ?_
  refine lv_fconst0 hx hb dX5_bitsOf_9 ?_
  refine lv_fcmp hx hb dX5_bitsOf_10 ?_
  refine r_top (show Op.cmpValue (FP.fcmp x FP.fconst0) .g = (-1) from fl_negv h1e h2e ht hx31) ?_
  refine lv_if_ge (tgt := 20) hx hb dX5_bitsOf_11 (by decide) (fun h => absurd h (by decide)) (fun _ => ?_)
  refine lv_ldcw (v := (-2147483648)) hx hb hown (hts (.constant RX5 301 (-2147483648)) (by decide +kernel)) dX5_bitsOf_14 ?_
  refine lv_goto (tgt := 21) hx hb dX5_bitsOf_17 (by decide) ?_
  refine lv_istore_n (lv' := [(1, .int ((-2147483648))), (0, .float (x))]) hx hb dX5_bitsOf_21 rfl hl (by decide) rfl (fun ls hl => ?_)
  refine lv_fload_n hx hb dX5_bitsOf_22 rfl (lv_at hl 1 rfl) ?_
  refine lv_fconst0 hx hb dX5_bitsOf_23 ?_
  refine lv_fcmp hx hb dX5_bitsOf_24 ?_
  refine r_top (show Op.cmpValue (FP.fcmp x FP.fconst0) .g = (-1) from fl_negv h1e h2e ht hx31) ?_
  refine lv_if_ge (tgt := 33) hx hb dX5_bitsOf_25 (by decide) (fun h => absurd h (by decide)) (fun _ => ?_)
  refine lv_fload_n hx hb dX5_bitsOf_28 rfl (lv_at hl 1 rfl) ?_
  refine lv_fneg hx hb dX5_bitsOf_29 ?_
  rw [hneg]
  refine lv_goto (tgt := 34) hx hb dX5_bitsOf_30 (by decide) ?_
  refine lv_fstore_n (lv' := [(2, .float (fl e9 t)), (1, .int ((-2147483648))), (0, .float (x))]) hx hb dX5_bitsOf_34 rfl hl (by decide) rfl (fun ls hl => ?_)
  refine lv_bipush (v := nI 127) hx hb dX5_bitsOf_35 (by decide) ?_
  refine lv_istore_n (lv' := [(3, .int (nI (127))), (2, .float (fl e9 t)), (1, .int ((-2147483648))), (0, .float (x))]) hx hb dX5_bitsOf_37 rfl hl (by decide) rfl (fun ls hl => ?_)
  have K38 : ∀ (n : Nat) (q : Nat) (n1 : Nat), (1 ≤ q) → (q < 255) → (n1 + q = 127 + e9) → 255 < (255 - q) + n → ∀ (H : Heap) (locs : List Loc), va_S (fun _ => False) s.heap H locs → ∀ (ls : Array Slot), lv_has ls 4 [(3, .int (nI (n1))), (2, .float (fl q t)), (1, .int ((-2147483648))), (0, .float (x))] → W p l e ({ frames := 0, cells := 0, slots := 0, locals := 0 } : Room) s m args below meth c H locs 0 0 Q (F0 m 38 ls []) := by
    intro n38
    induction n38 with
    | zero => intro q n1 h1q h2q hnq hfu; exact absurd hfu (by omega)
    | succ n38 ih38 =>
      intro q n1 h1q h2q hnq hfu H locs hS ls hl
      refine lv_fload_n hx hb dX5_bitsOf_38 rfl (lv_at hl 1 rfl) ?_
      refine lv_fconst2 hx hb dX5_bitsOf_39 ?_
      refine lv_fcmp hx hb dX5_bitsOf_40 ?_
      refine lv_if_lt (tgt := 61) hx hb dX5_bitsOf_41 (by decide) (fun c41_3 => ?_) (fun c41_3 => ?_)
      · replace c41_3 := (fl_lt2v h1q h2q ht).mp c41_3
        have K61 : ∀ (n : Nat) (q : Nat) (n1 : Nat), (1 ≤ q) → (q ≤ 127) → (n1 + q = 127 + e9) → 127 < q + n → ∀ (H : Heap) (locs : List Loc), va_S (fun _ => False) s.heap H locs → ∀ (ls : Array Slot), lv_has ls 4 [(3, .int (nI (n1))), (2, .float (fl q t)), (1, .int ((-2147483648))), (0, .float (x))] → W p l e ({ frames := 0, cells := 0, slots := 0, locals := 0 } : Room) s m args below meth c H locs 0 0 Q (F0 m 61 ls []) := by
          intro n61
          induction n61 with
          | zero => intro q n1 h1q h2q hnq hfu; exact absurd hfu (by omega)
          | succ n61 ih61 =>
            intro q n1 h1q h2q hnq hfu H locs hS ls hl
            refine lv_fload_n hx hb dX5_bitsOf_61 rfl (lv_at hl 1 rfl) ?_
            refine lv_fconst1 hx hb dX5_bitsOf_62 ?_
            refine lv_fcmp hx hb dX5_bitsOf_63 ?_
            refine lv_if_ge (tgt := 82) hx hb dX5_bitsOf_64 (by decide) (fun c64_4 => ?_) (fun c64_4 => ?_)
            · replace c64_4 := (fl_ge1v h1q (by omega) ht).mp c64_4
              refine lv_iload_n hx hb dX5_bitsOf_82 rfl (lv_at hl 2 rfl) ?_
              refine lv_iload_n hx hb dX5_bitsOf_83 rfl (lv_at hl 0 rfl) ?_
              refine lv_bipush (v := nI 23) hx hb dX5_bitsOf_84 (by decide) ?_
              refine lv_ishl hx hb dX5_bitsOf_86 (lv_topi (fun x6 ex6 => ?_))
              refine lv_ior hx hb dX5_bitsOf_87 (lv_topi (fun x7 ex7 => ?_))
              refine lv_fload_n hx hb dX5_bitsOf_88 rfl (lv_at hl 1 rfl) ?_
              refine lv_fconst1 hx hb dX5_bitsOf_89 ?_
              have hq9 : q = 127 := by omega
              subst hq9
              refine lv_fsub hx hb dX5_bitsOf_90 (fl_end_nn ht).1 ?_
              refine lv_ldcwf (v := (1258291200)) hx hb hown (hts (.constantFloat RX5 329 (1258291200)) (by decide +kernel)) dX5_bitsOf_91 ?_
              refine lv_fmul hx hb dX5_bitsOf_94 (fl_end_nn ht).2 ?_
              refine lv_f2i hx hb dX5_bitsOf_95 ?_
              refine r_top (fl_end ht) ?_
              refine lv_ior hx hb dX5_bitsOf_96 (lv_topi (fun x8 ex8 => ?_))
              rw [hQ]
              exact p_iret hx hb hr rfl hlocks hS (by have hn9 : n1 = e9 := (by omega); subst hn9; subst ex8 ex7 ex6; exact fl_bitsn h2e ht hx31) dX5_bitsOf_97
            · replace c64_4 : ¬ 127 ≤ q := fun q9 => c64_4 ((fl_ge1v h1q (by omega) ht).mpr q9)
              refine lv_iload_n hx hb dX5_bitsOf_67 rfl (lv_at hl 0 rfl) ?_
              refine lv_iconst (v := nI 1) hx hb dX5_bitsOf_68 (by decide) ?_
              refine lv_icmp_le (tgt := 82) hx hb dX5_bitsOf_69 (by decide) (fun c69_8 => absurd c69_8 (nI_ge (show 1 < n1 by omega) (by omega))) (fun c69_8 => ?_)
              replace c69_8 : ¬ (n1 ≤ 1) := fun h => c69_8 ((nI_leI (show n1 < 2147483648 by omega) (show 1 < 2147483648 by omega)).mpr h)
              refine lv_fload_n hx hb dX5_bitsOf_72 rfl (lv_at hl 1 rfl) ?_
              refine lv_fconst2 hx hb dX5_bitsOf_73 ?_
              have hd9 : FP.fmul (fl q t) FP.fconst2 = fl (q + 1) t := fl_dbl (by omega) (by omega) ht
              refine lv_fmul hx hb dX5_bitsOf_74 (by rw [hd9]; exact fl_nn (by omega) (by omega) ht) ?_
              rw [hd9]
              refine lv_fstore_n (lv' := [(2, .float (fl (q + 1) t)), (3, .int (nI (n1))), (1, .int ((-2147483648))), (0, .float (x))]) hx hb dX5_bitsOf_75 rfl hl (by decide) rfl (fun ls hl => ?_)
              refine lv_iinc (v := nI (n1 - 1)) (lv' := [(3, .int (nI (n1 - 1))), (2, .float (fl (q + 1) t)), (1, .int ((-2147483648))), (0, .float (x))]) hx hb dX5_bitsOf_76 hl (k := 1) rfl (pk_dec (by omega)) (by decide) rfl (fun ls hl => ?_)
              refine lv_goto (tgt := 61) hx hb dX5_bitsOf_79 (by decide) ?_
              exact ih61 (q + 1) (n1 - 1) (by omega) (by omega) (by omega) (by omega) _ _ hS _ (lv_sub hl [0, 1, 2, 3] rfl)
        exact K61 (127 + 1) (q) (n1) (by omega) (by omega) (by omega) (by omega) _ _ hS _ (lv_sub hl [0, 1, 2, 3] rfl)
      · replace c41_3 : ¬ q < 128 := fun q9 => c41_3 ((fl_lt2v h1q h2q ht).mpr q9)
        refine lv_iload_n hx hb dX5_bitsOf_44 rfl (lv_at hl 0 rfl) ?_
        refine lv_sipush (v := nI 254) hx hb dX5_bitsOf_45 (by decide) ?_
        refine lv_icmp_ge (tgt := 61) hx hb dX5_bitsOf_48 (by decide) (fun c48_9 => absurd c48_9 (nI_ge (show n1 < 254 by omega) (by decide))) (fun c48_9 => ?_)
        replace c48_9 : ¬ (254 ≤ n1) := fun h => c48_9 ((nI_leI (show 254 < 2147483648 by omega) (show n1 < 2147483648 by omega)).mpr h)
        refine lv_fload_n hx hb dX5_bitsOf_51 rfl (lv_at hl 1 rfl) ?_
        refine lv_fconst2 hx hb dX5_bitsOf_52 ?_
        have hd9 : FP.fdiv (fl q t) FP.fconst2 = fl (q - 1) t := fl_half (by omega) (by omega) ht
        refine lv_fdiv hx hb dX5_bitsOf_53 (by rw [hd9]; exact fl_nn (by omega) (by omega) ht) ?_
        rw [hd9]
        refine lv_fstore_n (lv' := [(2, .float (fl (q - 1) t)), (3, .int (nI (n1))), (1, .int ((-2147483648))), (0, .float (x))]) hx hb dX5_bitsOf_54 rfl hl (by decide) rfl (fun ls hl => ?_)
        refine lv_iinc (v := nI (n1 + 1)) (lv' := [(3, .int (nI (n1 + 1))), (2, .float (fl (q - 1) t)), (1, .int ((-2147483648))), (0, .float (x))]) hx hb dX5_bitsOf_55 hl (k := 1) rfl (nI_inc n1 1) (by decide) rfl (fun ls hl => ?_)
        refine lv_goto (tgt := 38) hx hb dX5_bitsOf_58 (by decide) ?_
        exact ih38 (q - 1) (n1 + 1) (by omega) (by omega) (by omega) (by omega) _ _ hS _ (lv_sub hl [0, 1, 2, 3] rfl)
  exact K38 (255 + 1) (e9) (127) (by omega) (by omega) (by omega) (by omega) _ _ hS _ (lv_sub hl [0, 1, 2, 3] rfl)

set_option maxHeartbeats 4000000 in
set_option maxRecDepth 100000 in
theorem c_X5_bitsOf_0 (l : Launch)  : Met l yX5_bitsOf wsX5_bitsOf ({ frames := 0, cells := 0, slots := 0, locals := 0 } : Room) (pPre [.float ((0 : UInt32))]) (pQi ((0 : UInt32).toInt32)) 0 0 (fun _ => False) := by
  refine p_entry (C := RX5) (cc := cX5_bitsOf) (maxL := 4) (ret := (some .int)) rfl (by decide) rfl (Nat.le_of_ble_eq_true rfl) (fun p e s m args below meth c Q ls hQ hx hb hr hts hown hlocks hml hl => ?_)
  have hl : lv_has ls 4 [(0, .float ((0 : UInt32)))] := hl
  have hS := va_S.rf (A := fun _ => False) (H0 := s.heap)
  refine lv_fload_n hx hb dX5_bitsOf_0 rfl (lv_at hl 0 rfl) ?_
  refine lv_fconst0 hx hb dX5_bitsOf_1 ?_
  refine lv_fcmp hx hb dX5_bitsOf_2 ?_
  refine r_top (show Op.cmpValue (FP.fcmp ((0 : UInt32)) FP.fconst0) .l = nI 0 from by decide +kernel) ?_
  refine lv_if_ne (tgt := 8) hx hb dX5_bitsOf_3 (by decide) (fun h => absurd (by decide) h) (fun _ => ?_)
  refine lv_iconst (v := nI 0) hx hb dX5_bitsOf_6 (by decide) ?_
  rw [hQ]
  exact p_iret hx hb hr rfl hlocks hS (by decide +kernel) dX5_bitsOf_7

theorem c_X5_bitsOf (l : Launch) (x : UInt32) (hF : okF x) : Met l yX5_bitsOf wsX5_bitsOf ({ frames := 0, cells := 0, slots := 0, locals := 0 } : Room) (pPre [.float (x)]) (pQi (x.toInt32)) 0 0 (fun _ => False) := by
  rcases okF_cases hF with h | ⟨e, t, h1, h2, h3, h | ⟨h4, h5⟩⟩
  · subst h; exact c_X5_bitsOf_0 l
  · subst h; exact c_X5_bitsOf_p l e t h1 h2 h3
  · exact c_X5_bitsOf_n l x e t h1 h2 h3 h4 h5
