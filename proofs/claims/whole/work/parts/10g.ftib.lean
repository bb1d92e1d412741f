/-! ===== floats: the bits of the JDK ===== -/
theorem okF_self {x : UInt32} (h : okF x) : Op.cmpValue (FP.fcmp x x) .l = nI 0 := by
  have hn : FP.Core.val32 x ≠ .nan := by
    rcases h with h | h
    · subst h; decide +kernel
    · obtain ⟨s, c, q, hv⟩ := (FP.Core.fin_bits32 x).mpr h.2
      rw [hv]; intro z; cases z
  rw [show FP.fcmp x x = some .eq from FP.Core.fcmp_self hn]
  decide +kernel

set_option maxHeartbeats 4000000 in
set_option maxRecDepth 100000 in
theorem c_Jxf58ca_isNaN_12338 (l : Launch) (x : UInt32) (hF : okF x) : Met l yJxf58ca_isNaN_12338 wsJxf58ca_isNaN_12338 ({ frames := 0, cells := 0, slots := 0, locals := 0 } : Room) (pPre [.float (x)]) (pQi (nI 0)) 0 0 (fun _ => False) := by
  refine p_entry (C := RJxf58ca) (cc := cJxf58ca_isNaN_12338) (maxL := 1) (ret := (some .boolean)) rfl (by decide) rfl (Nat.le_of_ble_eq_true rfl) (fun p e s m args below meth c Q ls hQ hx hb hr hts hown hlocks hml hl => ?_)
  have hl : lv_has ls 1 [(0, .float (x))] := hl
  have hS := va_S.rf (A := fun _ => False) (H0 := s.heap)
  refine lv_fload_n hx hb dJxf58ca_isNaN_12338_0 rfl (lv_at hl 0 rfl) ?_
  refine lv_fload_n hx hb dJxf58ca_isNaN_12338_1 rfl (lv_at hl 0 rfl) ?_
  refine lv_fcmp hx hb dJxf58ca_isNaN_12338_2 ?_
  refine r_top (show Op.cmpValue (FP.fcmp x x) .l = nI 0 from okF_self hF) ?_
  refine lv_if_eq (tgt := 10) hx hb dJxf58ca_isNaN_12338_3 (by decide) (fun _ => ?_) (fun h => absurd (by decide) h)
  refine lv_iconst (v := nI 0) hx hb dJxf58ca_isNaN_12338_10 (by decide) ?_
  rw [hQ]
  exact p_iret hx hb hr (by decide) hlocks hS (by rfl) dJxf58ca_isNaN_12338_11

set_option maxHeartbeats 4000000 in
set_option maxRecDepth 100000 in
theorem c_Jxf58ca_floatToIntBits_5c35a (l : Launch) (x : UInt32) (hF : okF x) : Met l yJxf58ca_floatToIntBits_5c35a wsJxf58ca_floatToIntBits_5c35a ({ frames := 2, cells := 0, slots := 0, locals := 60 } : Room) (pPre [.float (x)]) (pQi (x.toInt32)) 0 0 (fun _ => False) := by
  refine p_entry (C := RJxf58ca) (cc := cJxf58ca_floatToIntBits_5c35a) (maxL := 1) (ret := (some .int)) rfl (by decide) rfl (Nat.le_of_ble_eq_true rfl) (fun p e s m args below meth c Q ls hQ hx hb hr hts hown hlocks hml hl => ?_)
  have hl : lv_has ls 1 [(0, .float (x))] := hl
  have hS := va_S.rf (A := fun _ => False) (H0 := s.heap)
  refine lv_fload_n hx hb dJxf58ca_floatToIntBits_5c35a_0 rfl (lv_at hl 0 rfl) ?_
  refine q_pi (va_runS (As := [.float (x)]) (rest := []) ⟨hx, hb, hml, hown, hts⟩ (c_Jxf58ca_isNaN_12338 l (x) hF) (va_cwS 1 hts gJxf58ca_floatToIntBits_5c35a_Jxf58ca_isNaN_12338 rfl rfl rfl (by decide +kernel) ⟨Nat.le_of_ble_eq_true rfl, Nat.le_of_ble_eq_true rfl⟩) p_preS rfl rfl hl.1 rfl (lv_room (Nat.le_of_ble_eq_true rfl)) dJxf58ca_floatToIntBits_5c35a_1 ⟨Nat.le_refl _, Nat.le_refl _⟩) hS (fun H locs hS => ?_)
  refine lv_if_ne (tgt := 12) hx hb dJxf58ca_floatToIntBits_5c35a_4 (by decide) (fun h => absurd (by decide) h) (fun _ => ?_)
  refine lv_fload_n hx hb dJxf58ca_floatToIntBits_5c35a_7 rfl (lv_at hl 0 rfl) ?_
  refine vn_f2i hx hb (hml.trans hl.1.symm) hown (hts (.methodLink RJxf58ca 74 ⟨"java/lang/Float", "floatToRawIntBits", "(F)I"⟩) (by decide +kernel)) (hts (.native ⟨"java/lang/Float", "floatToRawIntBits", "(F)I"⟩) (by decide +kernel)) (hts (.static ⟨"java/lang/Float", "floatToRawIntBits", "(F)I"⟩) (by decide +kernel)) (hts (.initialized "java/lang/Float") (by decide +kernel)) (by decide) (by decide) dJxf58ca_floatToIntBits_5c35a_8 ?_
  rw [hQ]
  exact p_iret hx hb hr rfl hlocks hS (by rfl) dJxf58ca_floatToIntBits_5c35a_11
