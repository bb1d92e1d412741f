/-! ===== floats: the bits of the JDK ===== -/
theorem okF_self {x : UInt32} (h : okF x) : Op.cmpValue (FP.fcmp x x) .l = nI 0 := by
  have hn : FP.Core.val32 x ≠ .nan := by
    rcases h with h | h
    · subst h; decide +kernel
    · obtain ⟨s, c, q, hv⟩ := (FP.Core.fin_bits32 x).mpr h.2
      rw [hv]; intro z; cases z
  rw [show FP.fcmp x x = some .eq from FP.Core.fcmp_self hn]
  decide +kernel

/-- As `Met.ofW`, for a class of the JDK whose name has rows in the table of natives, but this method hasn't. -/
theorem ofWF {l : Launch} {y : MethodName} {ws ws' : List Cond} {rm : Room} {Pc : Array Value → State → Prop} {Qc : Array Value → State → Outcome → State → Prop} {mc ms : Nat} {free : Addr → Prop} {cc : ByteArray} {maxL : Nat} {ret : Option FieldType}
    (hy : plainFor y = true) (hw : ws = Cond.code y cc maxL ret :: ws')
    (body : ∀ p e s m args below meth c s₁, BodyLoose p l y (headSpec ws rm) cc maxL ret e s m args below meth c s₁ → c.maxLocals = maxL → Pc args s →
      W p l e (headSpec ws rm).room s m args below meth c s.heap [] 0 0 (MQ below Qc args s mc ms free) (entryFrame m args maxL)) : Met l y ws rm Pc Qc mc ms free := by
  refine MetFree.of_bodySF (code := cc) (maxLocals := maxL) (ret := ret) hy ?_ ?_
  · intro args s m h hn
    obtain ⟨meth, c, h1, h2, h3, h4, h5, h6, -, -⟩ := Cond.code_spec hn (atoms_spec (ws := ws) h _ (by rw [hw]; exact List.mem_cons_self))
    exact ⟨meth, c, h1, h2, h3, h4, h5, h6⟩
  · intro p e s m args below meth c s₁ B hml hP _
    have hh0 : s₁.heap = s.heap := by rw [B.state]; rfl
    obtain ⟨t, a1, o, b1, b2, b3⟩ := body p e s m args below meth c s₁ B hml hP s₁ hh0 (Stand.of_body B)
    exact ⟨t, o, a1, b1, b2, ⟨b3.1, b3.2⟩⟩
theorem p_entryF {l : Launch} {y : MethodName} {ws ws' : List Cond} {rm : Room} {Qc : Array Value → State → Outcome → State → Prop} {free : Addr → Prop} {cc : ByteArray} {ret : Option FieldType} {av : List Value} {maxL : Nat} {C : String} (hC : C = y.cls) (hy : plainFor y = true) (hw : ws = Cond.code y cc maxL ret :: ws') (hav : (lg_sl av).length ≤ maxL)
    (body : ∀ (p : Program) (e : Env) (s : State) (m : MethodId) (args : Array Value) (below : List Frame) (meth : Method) (c : Code) (Q : State → Prop) (ls : Array Slot), Q = MQ below Qc args s 0 0 free → p.tables.exec = Jvm.exec → c.code = cc → meth.sig.returnType = ret → (∀ w ∈ ws, w.before args s = true) → s.vm.findClass C = some m.cls → meth.locks = false → c.maxLocals = maxL → lv_has ls maxL (lv_args 0 av) →
      W p l e rm s m args below meth c s.heap [] 0 0 Q (F0 m 0 ls [])) : Met l y ws rm (pPre av) Qc 0 0 free := by
  refine ofWF (cc := cc) (maxL := maxL) (ret := ret) hy hw ?_
  intro p e s m args below meth c s₁ B hml hv
  obtain ⟨hav1, -⟩ := hv
  have hl := lv_entry av (n := maxL) hav
  have key := body p e s m args below meth c _ _ rfl B.exec B.bytes B.returns (atoms_spec (ws := ws) B.pre) (by rw [hC]; exact findClass_of_methodNamed B.named) B.notSynchronized hml hl
  rw [hav1, lg_entry_eq]
  rw [hav1] at key
  exact key

set_option maxHeartbeats 4000000 in
set_option maxRecDepth 100000 in
theorem c_Jxf58ca_isNaN_12338 (l : Launch) (x : UInt32) (hF : okF x) : Met l yJxf58ca_isNaN_12338 wsJxf58ca_isNaN_12338 ({ frames := 0, cells := 0, slots := 0, locals := 0 } : Room) (pPre [.float (x)]) (pQi (nI 0)) 0 0 (fun _ => False) := by
  refine p_entryF (C := RJxf58ca) (cc := cJxf58ca_isNaN_12338) (maxL := 1) (ret := (some .boolean)) rfl (by decide +kernel) rfl (Nat.le_of_ble_eq_true rfl) (fun p e s m args below meth c Q ls hQ hx hb hr hts hown hlocks hml hl => ?_)
  have hl : lv_has ls 1 [(0, .float (x))] := hl
  have hS := va_S.rf (A := fun _ => False) (H0 := s.heap)
  refine lv_fload_n hx hb dJxf58ca_isNaN_12338_0 rfl (lv_at hl 0 rfl) ?_
  refine lv_fload_n hx hb dJxf58ca_isNaN_12338_1 rfl (lv_at hl 0 rfl) ?_
  refine lv_fcmp hx hb dJxf58ca_isNaN_12338_2 ?_
  refine r_top (show Op.cmpValue (FP.fcmp x x) .l = nI 0 from okF_self hF) ?_
  refine lv_if_eq (tgt := 10) hx hb dJxf58ca_isNaN_12338_3 (by decide) (fun _ => ?_) (fun h => absurd (by decide) h)
  refine lv_iconst (v := nI 0) hx hb dJxf58ca_isNaN_12338_10 (by decide) ?_
  rw [hQ]
  exact p_iret hx hb hr (by decide) hlocks hS (by rfl) dJxf58ca_isNaN_12338_11

set_option maxHeartbeats 4000000 in
set_option maxRecDepth 100000 in
theorem c_Jxf58ca_floatToIntBits_5c35a (l : Launch) (x : UInt32) (hF : okF x) : Met l yJxf58ca_floatToIntBits_5c35a wsJxf58ca_floatToIntBits_5c35a ({ frames := 2, cells := 0, slots := 0, locals := 60 } : Room) (pPre [.float (x)]) (pQi (x.toInt32)) 0 0 (fun _ => False) := by
  refine p_entryF (C := RJxf58ca) (cc := cJxf58ca_floatToIntBits_5c35a) (maxL := 1) (ret := (some .int)) rfl (by decide +kernel) rfl (Nat.le_of_ble_eq_true rfl) (fun p e s m args below meth c Q ls hQ hx hb hr hts hown hlocks hml hl => ?_)
  have hl : lv_has ls 1 [(0, .float (x))] := hl
  have hS := va_S.rf (A := fun _ => False) (H0 := s.heap)
  refine lv_fload_n hx hb dJxf58ca_floatToIntBits_5c35a_0 rfl (lv_at hl 0 rfl) ?_
  refine q_pi (va_runS (As := [.float (x)]) (rest := []) ⟨hx, hb, hml, hown, hts⟩ (c_Jxf58ca_isNaN_12338 l (x) hF) (va_cwS 1 hts gJxf58ca_floatToIntBits_5c35a_Jxf58ca_isNaN_12338 rfl rfl rfl (by decide +kernel) ⟨Nat.le_of_ble_eq_true rfl, Nat.le_of_ble_eq_true rfl⟩) p_preS rfl rfl hl.1 rfl (lv_room (Nat.le_of_ble_eq_true rfl)) dJxf58ca_floatToIntBits_5c35a_1 ⟨Nat.le_refl _, Nat.le_refl _⟩) hS (fun H locs hS => ?_)
  refine lv_if_ne (tgt := 12) hx hb dJxf58ca_floatToIntBits_5c35a_4 (by decide) (fun h => absurd (by decide) h) (fun _ => ?_)
  refine lv_fload_n hx hb dJxf58ca_floatToIntBits_5c35a_7 rfl (lv_at hl 0 rfl) ?_
  refine vn_f2i hx hb (hml.trans hl.1.symm) hown (hts (.methodLink RJxf58ca 74 ⟨"java/lang/Float", "floatToRawIntBits", "(F)I"⟩) (by decide +kernel)) (hts (.native ⟨"java/lang/Float", "floatToRawIntBits", "(F)I"⟩) (by decide +kernel)) (hts (.static ⟨"java/lang/Float", "floatToRawIntBits", "(F)I"⟩) (by decide +kernel)) (hts (.initialized "java/lang/Float") (by decide +kernel)) (by decide) (by decide) dJxf58ca_floatToIntBits_5c35a_8 ?_
  rw [hQ]
  exact p_iret hx hb hr rfl hlocks hS (by rfl) dJxf58ca_floatToIntBits_5c35a_11
