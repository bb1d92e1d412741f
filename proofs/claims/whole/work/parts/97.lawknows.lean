/-! ===== what the law's entry knows ===== -/
theorem over_0 {ty : FieldType} {args : Array Value} {s : State} (h : (Cond.arrayOver ty).before args s = true) : (Cond.arrayOver ty).before #[] s = true := by
  cases ty <;> first | exact h | (simp only [Cond.before, Cond.holds, Cond.value] at h ⊢; exact h)
set_option maxHeartbeats 4000000 in
set_option maxRecDepth 100000 in
theorem law_KX {s : State} {b : Nat} (hts0 : ∀ w ∈ lw_tbl, w.before #[Value.ref b] s = true) : ∃ (D : va_G) (G : Nat → ClassId), KX D G s := by
  have nw : ∀ w : Cond, w ∈ lw_tbl → w.onTables = true → w.before #[] s = true := fun w h ht => va_tabs ht (u := s) rfl (hts0 w h)
  obtain ⟨c0, i0, k0⟩ := u_known (C := RX0) (T := TX0) (N := 5) hts0 inX0 (hts0 (.instantiable RX0 5) (by decide +kernel))
  obtain ⟨c1, i1, k1⟩ := u_known (C := RX1) (T := TX1) (N := 4) hts0 inX1 (hts0 (.instantiable RX1 4) (by decide +kernel))
  obtain ⟨c2, i2, k2⟩ := u_known (C := RX2) (T := TX2) (N := 7) hts0 inX2 (hts0 (.instantiable RX2 7) (by decide +kernel))
  obtain ⟨c3, i3, k3⟩ := u_known (C := RX3) (T := TX3) (N := 3) hts0 inX3 (hts0 (.instantiable RX3 3) (by decide +kernel))
  obtain ⟨c4, i4, k4⟩ := u_known (C := RX4) (T := TX4) (N := 2) hts0 inX4 (hts0 (.instantiable RX4 2) (by decide +kernel))
  obtain ⟨c5, i5, k5⟩ := u_known (C := RX5) (T := TX5) (N := 8) hts0 inX5 (hts0 (.instantiable RX5 8) (by decide +kernel))
  obtain ⟨c6, i6, k6⟩ := u_known (C := RX6) (T := TX6) (N := 27) hts0 inX6 (hts0 (.instantiable RX6 27) (by decide +kernel))
  obtain ⟨g0, x0, p0, a1, a2, a3⟩ := Cond.arrayClass_spec (hts0 (.arrayClass .int) (by decide +kernel))
  have o1 : va_AO RX4 s := over_0 (hts0 (.arrayOver (.object RX4)) (by decide +kernel))
  have o2 : va_AO RX1 s := over_0 (hts0 (.arrayOver (.object RX1)) (by decide +kernel))
  have o3 : va_AO RX3 s := over_0 (hts0 (.arrayOver (.object RX3)) (by decide +kernel))
  have o4 : va_AOA .int s := over_0 (hts0 (.arrayOver (.array .int)) (by decide +kernel))
  obtain ⟨p1, g1, x1, b1, -, b2, b3, b4⟩ := Cond.arrayOver_spec o1
  obtain ⟨p2, g2, x2, c1', -, c2', c3', c4'⟩ := Cond.arrayOver_spec o2
  obtain ⟨p3, g3, x3, d1, -, d2, d3, d4⟩ := Cond.arrayOver_spec o3
  obtain ⟨p4, g4, x4, e1, -, e2, e3, e4⟩ := arrayOverA_spec o4
  refine ⟨(fun c => match c with | 0 => c0 | 1 => c1 | 2 => c2 | 3 => c3 | 4 => c4 | 5 => c5 | _ => c6, fun c => match c with | 0 => i0 | 1 => i1 | 2 => i2 | 3 => i3 | 4 => i4 | 5 => i5 | _ => i6), fun g => match g with | 0 => g0 | 1 => g1 | 2 => g2 | 3 => g3 | _ => g4, ⟨⟨fun c q h => ?_, fun k q h => ?_⟩, fun w hw => ?_⟩, ⟨o1, o2, o3, o4⟩, fun w hw => ?_⟩
  · have hc : c < 7 := (List.getElem?_eq_some_iff.mp h).1
    rcases (by omega : c = 0 ∨ c = 1 ∨ c = 2 ∨ c = 3 ∨ c = 4 ∨ c = 5 ∨ c = 6) with rfl | rfl | rfl | rfl | rfl | rfl | rfl
    · have e : (RX0, TX0, 5) = q := Option.some.inj h
      subst e
      exact k0
    · have e : (RX1, TX1, 4) = q := Option.some.inj h
      subst e
      exact k1
    · have e : (RX2, TX2, 7) = q := Option.some.inj h
      subst e
      exact k2
    · have e : (RX3, TX3, 3) = q := Option.some.inj h
      subst e
      exact k3
    · have e : (RX4, TX4, 2) = q := Option.some.inj h
      subst e
      exact k4
    · have e : (RX5, TX5, 8) = q := Option.some.inj h
      subst e
      exact k5
    · have e : (RX6, TX6, 27) = q := Option.some.inj h
      subst e
      exact k6
  · have hc : k < 5 := (List.getElem?_eq_some_iff.mp h).1
    rcases (by omega : k = 0 ∨ k = 1 ∨ k = 2 ∨ k = 3 ∨ k = 4) with rfl | rfl | rfl | rfl | rfl
    · have e : (g0, FieldType.int) = q := Option.some.inj h
      subst e
      exact ⟨fun n z => ⟨(fun k h => by cases h), x0, a2, p0, a3⟩, a1⟩
    · have e : (g1, FieldType.object "JoinedStores$Store") = q := Option.some.inj h
      subst e
      exact ⟨fun n z => ⟨(fun k h => by cases h), x1, b2, p1, b3⟩, x1, p1, b2, b3, b1, b4⟩
    · have e : (g2, FieldType.object "JoinedStores$Message") = q := Option.some.inj h
      subst e
      exact ⟨fun n z => ⟨(fun k h => by cases h), x2, c2', p2, c3'⟩, x2, p2, c2', c3', c1', c4'⟩
    · have e : (g3, FieldType.object "JoinedStores$Sheet") = q := Option.some.inj h
      subst e
      exact ⟨fun n z => ⟨(fun k h => by cases h), x3, d2, p3, d3⟩, x3, p3, d2, d3, d1, d4⟩
    · have e : (g4, FieldType.array .int) = q := Option.some.inj h
      subst e
      exact ⟨fun n z => ⟨(fun k h => by cases h), x4, e2, p4, e3⟩, e4⟩
  · exact nw w ((by decide +kernel : ∀ w ∈ nestWs, w ∈ lw_tbl) w hw) ((by decide +kernel : ∀ w ∈ nestWs, w.onTables = true) w hw)
  · exact nw w ((by decide +kernel : ∀ w ∈ nestW2, w ∈ lw_tbl) w hw) ((by decide +kernel : ∀ w ∈ nestW2, w.onTables = true) w hw)
set_option maxHeartbeats 4000000 in
set_option maxRecDepth 100000 in
theorem law_UD {s : State} {b : Nat} (hts0 : ∀ w ∈ lw_tbl, w.before #[Value.ref b] s = true) (hgv : (Jvm.Cond.and given_1 narrow_1).before #[Value.ref b] s = true) : ∃ t : Nat, UDA (fun q => s.heap.size ≤ q) t s := by
  have hg := flat_of_before _ hgv
  have hA : ∀ a : Nat, a < s.heap.size → ¬ (fun q : Nat => s.heap.size ≤ q) a := fun a h => Nat.not_le.mpr h
  have h0 : (Cond.arrayOf (.static "JoinedStores" "UNDER" "[I") .int).before #[Value.ref b] s = true := hg _ (by decide +kernel)
  have h1 : (Cond.eq (.length (.static "JoinedStores" "UNDER" "[I")) (.int 6)).before #[Value.ref b] s = true := hg _ (by decide +kernel)
  have z0 : (Cond.eq (.elem (.static "JoinedStores" "UNDER" "[I") (.int 0)) (.int (-1))).before #[Value.ref b] s = true := hg _ (by decide +kernel)
  have z1 : (Cond.eq (.elem (.static "JoinedStores" "UNDER" "[I") (.int 1)) (.int (0))).before #[Value.ref b] s = true := hg _ (by decide +kernel)
  have z2 : (Cond.eq (.elem (.static "JoinedStores" "UNDER" "[I") (.int 2)) (.int (0))).before #[Value.ref b] s = true := hg _ (by decide +kernel)
  have z3 : (Cond.eq (.elem (.static "JoinedStores" "UNDER" "[I") (.int 3)) (.int (1))).before #[Value.ref b] s = true := hg _ (by decide +kernel)
  have z4 : (Cond.eq (.elem (.static "JoinedStores" "UNDER" "[I") (.int 4)) (.int (2))).before #[Value.ref b] s = true := hg _ (by decide +kernel)
  have z5 : (Cond.eq (.elem (.static "JoinedStores" "UNDER" "[I") (.int 5)) (.int (3))).before #[Value.ref b] s = true := hg _ (by decide +kernel)
  obtain ⟨t, ht, hT⟩ := va_Tof (N := 6) (f := fun j => .int (und j)) (A := fun q : Nat => s.heap.size ≤ q) (by decide) h0 (va_eqt h1) (fun j hj => by
    rcases (by omega : j = 0 ∨ j = 1 ∨ j = 2 ∨ j = 3 ∨ j = 4 ∨ j = 5) with rfl | rfl | rfl | rfl | rfl | rfl
    · exact va_eqt z0
    · exact va_eqt z1
    · exact va_eqt z2
    · exact va_eqt z3
    · exact va_eqt z4
    · exact va_eqt z5) hA
  exact ⟨t, va_Zref (hts0 (.laysStatic "JoinedStores" "UNDER" "[I") (by decide +kernel)) (hts0 (.initialized "JoinedStores") (by decide +kernel)) ht hA, hT⟩
