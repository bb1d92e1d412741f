/-- a float that is nothing, or a plain number (no infinity, no NaN, not too small) -/
def okF (x : UInt32) : Prop := x = 0 ∨ (8388608 ≤ x.toNat % 2147483648 ∧ x.toNat % 2147483648 < 2139095040)
theorem pk_dec {d : Nat} (h : 0 < d) : nI d + Int32.ofInt (-1) = nI (d - 1) := by
  obtain ⟨k, rfl⟩ : ∃ k, d = k + 1 := ⟨d - 1, by omega⟩
  exact pk_m1 k
theorem y_ldcwF {p : Program} {l : Launch} {e : Env} {R : Room} {s : State} {m : MethodId} {args : Array Value} {below : List Frame} {meth : Method} {c : Code} {locs : List Loc} {cells slots : Nat} {T : State} (X : Stand p l e R s m args below meth c T locs cells slots) (hexec : p.tables.exec = Jvm.exec) {own : String} {index : Nat} {v : UInt32} (hown : s.vm.findClass own = some m.cls)
    (hconst : (Cond.constantFloat own index v).before args s = true) {g : JFrame} (hg : g.method = m) (hdg : decode c.code g.pc = .ok (.ldc_w index, 3)) :
    ∀ target, Steps p.tables e below (T.setTop { g with pc := g.pc + 3, stack := .float v :: g.stack }) target → Steps p.tables e below (T.setTop g) target := by
  obtain ⟨k, cf, hk, hcf, hcp⟩ := Cond.constantFloat_spec hown hconst
  obtain ⟨k', hk', he⟩ := X.warmed.alike.2.2 _ _ hk
  intro target hrest
  subst hg
  jvm_step X.here [hexec, hdg, ldc_w.wp_float (s := T) (f := g) X.here.top hk' (by rw [he]; exact hcf) hcp]
  exact hrest
theorem lv_ldcwf {p : Program} {l : Launch} {e : Env} {R : Room} {s : State} {m : MethodId} {args : Array Value} {below : List Frame} {meth : Method} {c : Code} {H : Heap} {locs : List Loc} {cells slots : Nat} {Q : State → Prop} {cc : ByteArray} {pc : Nat} {ls : Array Slot} {rest : List Value} (hexec : p.tables.exec = Jvm.exec) (hb : c.code = cc) {own : String} {index : Nat} {v : UInt32} (hown : s.vm.findClass own = some m.cls) (hconst : (Jvm.Cond.constantFloat own index v).before args s = true) (hdg : decode cc pc = .ok (.ldc_w index, 3)) (k : W p l e R s m args below meth c H locs cells slots Q (F0 m (pc + 3) ls (.float v :: rest))) : W p l e R s m args below meth c H locs cells slots Q (F0 m pc ls rest) := by
  intro T hT X
  obtain ⟨t, a, b⟩ := k T hT X
  exact ⟨t, y_ldcwF X hexec hown hconst (g := F0 m pc ls rest) rfl (by rw [hb]; exact hdg) t a, b⟩
/-! ===== floats ===== -/
theorem okF_nn {x : UInt32} (h : okF x) : vf_n32 x := by
  unfold vf_n32
  have e : (x &&& 0x7fffffff).toNat = x.toNat % 2 ^ 31 := FP.Core.mask_toNat32 x
  rw [UInt32.le_iff_toNat_le, e]
  show x.toNat % 2147483648 ≤ 2139095040
  rcases h with h | h
  · subst h; decide
  · omega
def fl (e t : Nat) : UInt32 := .ofNat (e * 8388608 + t)
theorem fl_toNat {e t : Nat} (he : e < 256) (ht : t < 8388608) : (fl e t).toNat = e * 8388608 + t := by
  show (UInt32.ofNat _).toNat = _
  rw [UInt32.toNat_ofNat']
  exact Nat.mod_eq_of_lt (by omega)
theorem fl_val {e t : Nat} (h1 : 1 ≤ e) (he : e < 255) (ht : t < 8388608) : FP.Core.val32 (fl e t) = .fin false (8388608 + t) ((e : Int) - 150) := by
  show FP.Core.decode FP.Core.b32 (fl e t).toNat = _
  rw [fl_toNat (by omega) ht]
  have hE : FP.Core.fieldE FP.Core.b32 (e * 8388608 + t) = e := by
    show (e * 8388608 + t) / 8388608 % 256 = e
    omega
  have hT : FP.Core.fieldT FP.Core.b32 (e * 8388608 + t) = t := by
    show (e * 8388608 + t) % 8388608 = t
    omega
  have hS : FP.Core.fieldS FP.Core.b32 (e * 8388608 + t) = false := by
    show ((e * 8388608 + t) / 8388608 / 256 % 2 == 1) = false
    have : (e * 8388608 + t) / 8388608 / 256 = 0 := by omega
    rw [this]; rfl
  rw [FP.Core.decode, hE, hT, hS, if_neg (show ¬ e = FP.Core.b32.exps - 1 by show ¬ e = 255; omega), if_neg (by omega)]
  show FP.Core.Datum.fin false (8388608 + t) (-149 + ((e : Int) - 1)) = _
  congr 1
  omega
theorem fl_fits {e t : Nat} (h1 : 1 ≤ e) (he : e < 255) (ht : t < 8388608) : FP.Core.fits FP.Core.b32 (.fin false (8388608 + t) ((e : Int) - 150)) := by
  refine ⟨?_, ?_, ?_, Or.inr ?_⟩
  · show 8388608 + t < 16777216; omega
  · show (-149 : Int) ≤ _; omega
  · show _ ≤ (104 : Int); omega
  · show 8388608 ≤ 8388608 + t; omega
theorem fl_nan {e t : Nat} (h1 : 1 ≤ e) (he : e < 255) (ht : t < 8388608) : FP.Core.val32 (fl e t) ≠ .nan := by
  rw [fl_val h1 he ht]; intro q; cases q
theorem f2_val : FP.Core.val32 FP.Core.fconst2 = .fin false 8388608 (-22) := by decide +kernel
theorem fl_half {e t : Nat} (h1 : 2 ≤ e) (he : e < 255) (ht : t < 8388608) : FP.Core.fdiv (fl e t) FP.Core.fconst2 = fl (e - 1) t := by
  refine (FP.Core.val32_inj (fl_nan (by omega) (by omega) ht) ?_).symm
  rw [FP.Core.val32_fdiv, fl_val (by omega) he ht, f2_val, fl_val (by omega) (by omega) ht]
  have hq : FP.Core.quotient FP.Core.b32 (.fin false (8388608 + t) ((e : Int) - 150)) (.fin false 8388608 (-22)) = FP.Core.roundRatio FP.Core.b32 (false != false) (8388608 + t) 8388608 ((e : Int) - 150 - (-22)) := by
    rw [FP.Core.quotient]; exact if_neg (by decide)
  rw [hq]
  refine (FP.Core.roundRatio_exact FP.Core.good_b32 (by decide) (fl_fits (by omega) (by omega) ht) ?_).symm
  have e1 : ((e : Int) - 150 - -22 - (((e - 1 : Nat) : Int) - 150)).toNat = 23 := by omega
  have e2 : ((((e - 1 : Nat) : Int) - 150) - ((e : Int) - 150 - -22)).toNat = 0 := by omega
  rw [e1, e2]
  omega
theorem fl_dbl {e t : Nat} (h1 : 1 ≤ e) (he : e < 254) (ht : t < 8388608) : FP.Core.fmul (fl e t) FP.Core.fconst2 = fl (e + 1) t := by
  refine (FP.Core.val32_inj (fl_nan (by omega) (by omega) ht) ?_).symm
  rw [FP.Core.val32_fmul, fl_val (by omega) (by omega) ht, f2_val, fl_val (by omega) (by omega) ht]
  show _ = FP.Core.roundRatio FP.Core.b32 (false != false) ((8388608 + t) * 8388608) 1 ((e : Int) - 150 + -22)
  refine (FP.Core.roundRatio_exact FP.Core.good_b32 (by decide) (fl_fits (by omega) (by omega) ht) ?_).symm
  have e1 : ((e : Int) - 150 + -22 - (((e + 1 : Nat) : Int) - 150)).toNat = 0 := by omega
  have e2 : ((((e + 1 : Nat) : Int) - 150) - ((e : Int) - 150 + -22)).toNat = 23 := by omega
  rw [e1, e2]
  omega
theorem fl_cmp {e t : Nat} (h1 : 1 ≤ e) (he : e < 255) (ht : t < 8388608) {y : UInt32} (hy : FP.Core.val32 y ≠ .nan) (hy2 : y.toNat < 2147483648) : FP.Core.fcmp (fl e t) y = some (compare ((e * 8388608 + t : Nat) : Int) ((y.toNat : Nat) : Int)) := by
  rw [FP.Core.fcmp_key (fl_nan h1 he ht) hy]
  have a : FP.Core.fkey (fl e t) = ((e * 8388608 + t : Nat) : Int) := by
    rw [FP.Core.fkey, fl_toNat (by omega) ht, if_neg (by omega)]
  have b : FP.Core.fkey y = ((y.toNat : Nat) : Int) := by rw [FP.Core.fkey, if_neg (by omega)]
  rw [a, b]
theorem f1_val : FP.Core.val32 FP.fconst1 = .fin false 8388608 (-23) := by decide +kernel
theorem m23_val : FP.Core.val32 1258291200 = .fin false 8388608 0 := by decide +kernel
theorem fl_end {t : Nat} (ht : t < 8388608) : FP.f2i (FP.fmul (FP.fsub (fl 127 t) FP.fconst1) 1258291200) = nI t := by
  have hs : FP.Core.exactSum (.fin false (8388608 + t) (-23)) (FP.Core.negate (.fin false 8388608 (-23))) = .fin false t (-23) := by
    have h1 : FP.Core.sumUnits false (8388608 + t) (-23) true 8388608 (-23) (-23) = (t : Int) := by
      simp [FP.Core.sumUnits, FP.Core.inUnits, FP.Core.signed]
      omega
    show FP.Core.Datum.fin (FP.Core.sumSign false true (FP.Core.sumUnits false (8388608 + t) (-23) true 8388608 (-23) (-23))) (FP.Core.sumUnits false (8388608 + t) (-23) true 8388608 (-23) (-23)).natAbs (-23) = _
    rw [h1]
    have h2 : FP.Core.sumSign false true (t : Int) = false := by
      unfold FP.Core.sumSign
      split
      · rfl
      · simp
    rw [h2]
    rfl
  obtain ⟨c, q, h1, h2⟩ := FP.Core.round_exact FP.Core.good_b32 false (c := t) (q := -23) (by show t < 16777216; omega) (by decide) (by decide)
  have hv : FP.Core.val32 (FP.fsub (fl 127 t) FP.fconst1) = .fin false c q := by
    rw [FP.Core.val32_fsub, fl_val (by decide) (by decide) ht, f1_val]
    show FP.Core.round FP.Core.b32 (FP.Core.exactSum (.fin false (8388608 + t) (-23)) _) = _
    rw [hs, h1]
  have hfit : FP.Core.fits FP.Core.b32 (.fin false c q) := by
    rw [← hv]; exact FP.Core.val32_fits _
  have hq : (-149 : Int) ≤ q := hfit.2.1
  have h3 : c * 2 ^ (q + 149).toNat = t * 2 ^ 126 := by
    have := h2
    simp only [FP.Core.inUnits] at this
    have e1 : (q - FP.Core.b32.qmin).toNat = (q + 149).toNat := by
      show (q - (-149)).toNat = _
      omega
    have e2 : ((-23 : Int) - FP.Core.b32.qmin).toNat = 126 := by decide
    rw [e1, e2] at this
    exact this
  have hW : FP.Core.Whole (t : Int) (.fin (false != false) (c * 8388608) (q + 0)) := by
    show FP.Core.signed false (c * 8388608 * 2 ^ (q + 0).toNat) = (t : Int) * ((2 ^ (-(q + 0)).toNat : Nat) : Int)
    rw [Int.add_zero]
    show ((c * 8388608 * 2 ^ q.toNat : Nat) : Int) = _
    rw [← Int.natCast_mul]
    congr 1
    have e : (q + 149).toNat + (-q).toNat = 149 + q.toNat := by omega
    have h4 : c * 2 ^ (q + 149).toNat * 2 ^ (-q).toNat = t * 2 ^ 126 * 2 ^ (-q).toNat := by rw [h3]
    rw [Nat.mul_assoc, ← Nat.pow_add, e, Nat.pow_add] at h4
    have h5 : (c * 8388608 * 2 ^ q.toNat) * 2 ^ 126 = (t * 2 ^ (-q).toNat) * 2 ^ 126 := by
      have e8 : (2 : Nat) ^ 149 = 8388608 * 2 ^ 126 := by decide
      calc (c * 8388608 * 2 ^ q.toNat) * 2 ^ 126 = c * ((8388608 * 2 ^ 126) * 2 ^ q.toNat) := by ac_rfl
        _ = c * (2 ^ 149 * 2 ^ q.toNat) := by rw [e8]
        _ = t * 2 ^ 126 * 2 ^ (-q).toNat := h4
        _ = _ := by ac_rfl
    exact Nat.eq_of_mul_eq_mul_right (Nat.two_pow_pos 126) h5
  have hr := FP.Core.whole_round FP.Core.good_b32 FP.Core.wide_b32 (i := (t : Int)) (by show t ≤ 2 ^ 24; omega) hW
  have hm : FP.Core.val32 (FP.fmul (FP.fsub (fl 127 t) FP.fconst1) 1258291200) = FP.Core.round FP.Core.b32 (.fin (false != false) (c * 8388608) (q + 0)) := by
    rw [FP.Core.val32_fmul, hv, m23_val]
    rfl
  rw [← hm] at hr
  show Int32.ofInt (FP.Core.toInt (-2 ^ 31) (2 ^ 31 - 1) (FP.Core.val32 _)) = nI t
  rw [FP.Core.toInt_whole hr (by omega) (by omega)]
  rfl
theorem xor31 {m : Nat} (h : m < 2147483648) : (2147483648 + m) ^^^ 2147483648 = m := by
  have e : 2147483648 + m = 2147483648 ^^^ m := by
    have h1 : 2 ^ 31 + m = 2 ^ 31 ||| m := by
      have z := Nat.two_pow_add_eq_or_of_lt (i := 31) (b := m) (show m < 2 ^ 31 from h) 1
      rwa [Nat.mul_one] at z
    rw [show (2147483648 : Nat) = 2 ^ 31 from rfl, h1]
    apply Nat.eq_of_testBit_eq
    intro i
    rw [Nat.testBit_or, Nat.testBit_xor, Nat.testBit_two_pow]
    by_cases hi : 31 = i
    · subst hi
      simp [Nat.testBit_lt_two_pow (show m < 2 ^ 31 from h)]
    · simp [hi]
  rw [e, Nat.xor_comm 2147483648 m, Nat.xor_assoc, Nat.xor_self, Nat.xor_zero]
theorem okF_cases {x : UInt32} (h : okF x) : x = 0 ∨ ∃ e t, 1 ≤ e ∧ e < 255 ∧ t < 8388608 ∧ (x = fl e t ∨ (x.toNat = 2147483648 + (e * 8388608 + t) ∧ FP.fneg x = fl e t)) := by
  rcases h with h | ⟨h1, h2⟩
  · exact Or.inl h
  · refine Or.inr ⟨x.toNat % 2147483648 / 8388608, x.toNat % 2147483648 % 8388608, by omega, by omega, by omega, ?_⟩
    have hx := x.toNat_lt
    by_cases hs : x.toNat < 2147483648
    · left
      apply UInt32.toNat_inj.mp
      rw [fl_toNat (by omega) (by omega)]
      omega
    · right
      refine ⟨by omega, ?_⟩
      apply UInt32.toNat_inj.mp
      rw [fl_toNat (by omega) (by omega), FP.fneg, UInt32.toNat_xor]
      have e : x.toNat = 2147483648 + (x.toNat - 2147483648) := by omega
      rw [e, show (2147483648 : UInt32).toNat = 2147483648 from rfl, xor31 (by omega)]
      omega
theorem cmpI_l {a b : Int} : FP.cmpInt (-1) (some (compare a b)) < 0 ↔ a < b := by
  rcases h : compare a b with _ | _ | _
  · have := (FP.Core.compare_lt_iff a b).mp h; simp [FP.cmpInt, this]
  · have := (FP.Core.compare_eq_iff a b).mp h; subst this; simp [FP.cmpInt]
  · have := (FP.Core.compare_gt_iff a b).mp h
    have h2 : ¬ a < b := by omega
    simp [FP.cmpInt, h2]
theorem cmpI_g {a b : Int} : 0 ≤ FP.cmpInt 1 (some (compare a b)) ↔ b ≤ a := by
  rcases h : compare a b with _ | _ | _
  · have := (FP.Core.compare_lt_iff a b).mp h
    have h2 : ¬ b ≤ a := by omega
    simp [FP.cmpInt, h2]
  · have := (FP.Core.compare_eq_iff a b).mp h; subst this; simp [FP.cmpInt]
  · have := (FP.Core.compare_gt_iff a b).mp h
    have h2 : b ≤ a := by omega
    simp [FP.cmpInt, h2]
theorem fl_lt2 {q t : Nat} (h1 : 1 ≤ q) (he : q < 255) (ht : t < 8388608) : FP.cmpInt (-1) (FP.fcmp (fl q t) FP.fconst2) < 0 ↔ q < 128 := by
  rw [show FP.fcmp (fl q t) FP.fconst2 = some (compare ((q * 8388608 + t : Nat) : Int) ((1073741824 : Nat) : Int)) from fl_cmp h1 he ht (by rw [show FP.fconst2 = FP.Core.fconst2 from rfl, f2_val]; intro z; cases z) (by decide), cmpI_l]
  omega
theorem fl_ge1 {q t : Nat} (h1 : 1 ≤ q) (he : q < 255) (ht : t < 8388608) : 0 ≤ FP.cmpInt 1 (FP.fcmp (fl q t) FP.fconst1) ↔ 127 ≤ q := by
  rw [show FP.fcmp (fl q t) FP.fconst1 = some (compare ((q * 8388608 + t : Nat) : Int) ((1065353216 : Nat) : Int)) from fl_cmp h1 he ht (by rw [f1_val]; intro z; cases z) (by decide), cmpI_g]
  omega
theorem fl_pos {q t : Nat} (h1 : 1 ≤ q) (he : q < 255) (ht : t < 8388608) (d : Int32) : FP.cmpInt d (FP.fcmp (fl q t) FP.fconst0) = nI 1 := by
  rw [show FP.fcmp (fl q t) FP.fconst0 = some (compare ((q * 8388608 + t : Nat) : Int) ((0 : Nat) : Int)) from fl_cmp h1 he ht (by rw [show FP.fconst0 = FP.Core.fconst0 from rfl, FP.Core.val32_fconst0]; intro z; cases z) (by decide), (FP.Core.compare_gt_iff _ _).mpr (by omega)]
  exact nI_one.symm
theorem okF_fl {e t : Nat} (h1 : 1 ≤ e) (he : e < 255) (ht : t < 8388608) : okF (fl e t) := by
  right
  rw [fl_toNat (by omega) ht]
  omega
theorem fl_nn {e t : Nat} (h1 : 1 ≤ e) (he : e < 255) (ht : t < 8388608) : vf_n32 (fl e t) := okF_nn (okF_fl h1 he ht)
theorem nn_val {x : UInt32} (h : FP.Core.val32 x ≠ .nan) : vf_n32 x := by
  unfold vf_n32
  have e : (x &&& 0x7fffffff).toNat = x.toNat % 2 ^ 31 := FP.Core.mask_toNat32 x
  rw [UInt32.le_iff_toNat_le, e]
  exact (FP.Core.ne_nan32 x).mp h
theorem fl_end_nn {t : Nat} (ht : t < 8388608) : vf_n32 (FP.fsub (fl 127 t) FP.fconst1) ∧ vf_n32 (FP.fmul (FP.fsub (fl 127 t) FP.fconst1) 1258291200) := by
  constructor
  · refine nn_val ?_
    rw [FP.Core.val32_fsub, fl_val (by decide) (by decide) ht, f1_val]
    exact FP.Core.roundRatio_ne_nan _ _ _ _ _
  · refine nn_val ?_
    have hf : ∃ s c q, FP.Core.val32 (FP.fsub (fl 127 t) FP.fconst1) = .fin s c q := by
      obtain ⟨c, q, h1, h2⟩ := FP.Core.round_exact FP.Core.good_b32 (FP.Core.sumSign false true (FP.Core.sumUnits false (8388608 + t) (-23) true 8388608 (-23) (-23))) (c := (FP.Core.sumUnits false (8388608 + t) (-23) true 8388608 (-23) (-23)).natAbs) (q := -23) (by
        have h1 : FP.Core.sumUnits false (8388608 + t) (-23) true 8388608 (-23) (-23) = (t : Int) := by
          simp [FP.Core.sumUnits, FP.Core.inUnits, FP.Core.signed]
          omega
        rw [h1]
        show t < 16777216
        omega) (by decide) (by decide)
      have h3 : FP.Core.val32 (FP.fsub (fl 127 t) FP.fconst1) = FP.Core.round FP.Core.b32 (FP.Core.exactSum (.fin false (8388608 + t) (-23)) (FP.Core.negate (.fin false 8388608 (-23)))) := by
        rw [FP.Core.val32_fsub, fl_val (by decide) (by decide) ht, f1_val]
        rfl
      exact ⟨_, c, q, h3.trans h1⟩
    obtain ⟨s, c, q, h⟩ := hf
    rw [FP.Core.val32_fmul, h, m23_val]
    exact FP.Core.roundRatio_ne_nan _ _ _ _ _
theorem sh23 (e : Nat) (he : e < 256) : nI e <<< (nI 23 &&& 31) = Int32.ofInt ((e : Int) * 8388608) := by
  have h : ∀ e, e < 256 → nI e <<< (nI 23 &&& 31) = Int32.ofInt ((e : Int) * 8388608) := by decide +kernel
  exact h e he
theorem or_disj {a b k : Nat} (h : b < 2 ^ k) : (a * 2 ^ k ||| b) = a * 2 ^ k + b := by
  rw [Nat.mul_comm]
  exact (Nat.two_pow_add_eq_or_of_lt h a).symm
theorem cmpV_l (o : Ordering) : Op.cmpValue (some o) .l = FP.cmpInt (-1) (some o) := by cases o <;> rfl
theorem cmpV_g (o : Ordering) : Op.cmpValue (some o) .g = FP.cmpInt 1 (some o) := by cases o <;> rfl
theorem fl_lt2v {q t : Nat} (h1 : 1 ≤ q) (he : q < 255) (ht : t < 8388608) : Op.cmpValue (FP.fcmp (fl q t) FP.fconst2) .l < 0 ↔ q < 128 := by
  have h := fl_lt2 h1 he ht
  have e : FP.fcmp (fl q t) FP.fconst2 = some (compare ((q * 8388608 + t : Nat) : Int) ((1073741824 : Nat) : Int)) := fl_cmp h1 he ht (by rw [show FP.fconst2 = FP.Core.fconst2 from rfl, f2_val]; intro z; cases z) (by decide)
  rw [e] at h ⊢
  rw [cmpV_l]
  exact h
theorem fl_ge1v {q t : Nat} (h1 : 1 ≤ q) (he : q < 255) (ht : t < 8388608) : 0 ≤ Op.cmpValue (FP.fcmp (fl q t) FP.fconst1) .g ↔ 127 ≤ q := by
  have h := fl_ge1 h1 he ht
  have e : FP.fcmp (fl q t) FP.fconst1 = some (compare ((q * 8388608 + t : Nat) : Int) ((1065353216 : Nat) : Int)) := fl_cmp h1 he ht (by rw [f1_val]; intro z; cases z) (by decide)
  rw [e] at h ⊢
  rw [cmpV_g]
  exact h
theorem fl_posv {q t : Nat} (h1 : 1 ≤ q) (he : q < 255) (ht : t < 8388608) {op : CmpOp} : Op.cmpValue (FP.fcmp (fl q t) FP.fconst0) op = nI 1 := by
  have e : FP.fcmp (fl q t) FP.fconst0 = some (compare ((q * 8388608 + t : Nat) : Int) ((0 : Nat) : Int)) := fl_cmp h1 he ht (by rw [show FP.fconst0 = FP.Core.fconst0 from rfl, FP.Core.val32_fconst0]; intro z; cases z) (by decide)
  rw [e, (FP.Core.compare_gt_iff _ _).mpr (by omega)]
  cases op <;> exact nI_one.symm
theorem sh23n (e : Nat) (he : e < 256) : nI e <<< (nI 23 &&& 31) = nI (e * 8388608) := by
  have h : ∀ e, e < 256 → nI e <<< (nI 23 &&& 31) = nI (e * 8388608) := by decide +kernel
  exact h e he
theorem or3 {A t : Nat} (hA : A < 2 ^ 32) (ht : t < 2 ^ 32) : (((nI 0 ||| nI A) ||| nI t).toBitVec).toNat = A ||| t := by
  rw [Int32.toBitVec_or, Int32.toBitVec_or, BitVec.toNat_or, BitVec.toNat_or, pk_tn (n := 0) (by decide), pk_tn (n := A) hA, pk_tn (n := t) ht, Nat.zero_or]
theorem fl_bits {e t : Nat} (he : e < 255) (ht : t < 8388608) : ((nI 0 ||| nI e <<< (nI 23 &&& 31)) ||| nI t) = (fl e t).toInt32 := by
  rw [sh23n e (by omega)]
  obtain ⟨A, hA⟩ : ∃ A, A = e * 8388608 := ⟨_, rfl⟩
  have hf : (fl e t).toNat = A + t := by rw [hA]; exact fl_toNat (by omega) ht
  have ho : A ||| t = A + t := by rw [hA]; exact or_disj (k := 23) ht
  have hl : A < 2 ^ 32 := by omega
  rw [← hA]
  clear hA
  generalize fl e t = x at hf ⊢
  apply Int32.toBitVec.inj
  apply BitVec.eq_of_toNat_eq
  rw [or3 hl (by omega), ho, ← hf]
  rfl
theorem fl_negv {x : UInt32} {e t : Nat} (h1 : 1 ≤ e) (he : e < 255) (ht : t < 8388608) (hx : x.toNat = 2147483648 + (e * 8388608 + t)) {op : CmpOp} : Op.cmpValue (FP.fcmp x FP.fconst0) op = -1 := by
  have hn : FP.Core.val32 x ≠ .nan := (FP.Core.ne_nan32 x).mpr (by omega)
  have h0 : FP.Core.val32 FP.fconst0 ≠ .nan := by rw [show FP.fconst0 = FP.Core.fconst0 from rfl, FP.Core.val32_fconst0]; intro z; cases z
  have e0 : FP.Core.fkey x < FP.Core.fkey FP.fconst0 := by
    have a : FP.Core.fkey FP.fconst0 = 0 := by decide
    rw [a, FP.Core.fkey, if_pos (by omega)]
    omega
  have e1 : FP.fcmp x FP.fconst0 = some .lt := by
    show FP.Core.fcmp x FP.fconst0 = _
    rw [FP.Core.fcmp_key hn h0, (FP.Core.compare_lt_iff _ _).mpr e0]
  rw [e1]
  cases op <;> rfl
theorem or31 {m : Nat} (h : m < 2 ^ 31) : (2147483648 ||| m) = 2147483648 + m := by
  have z := Nat.two_pow_add_eq_or_of_lt (i := 31) (b := m) h 1
  rw [Nat.mul_one] at z
  exact z.symm
theorem or4 {A t : Nat} (hA : A < 2 ^ 32) (ht : t < 2 ^ 32) : ((((-2147483648 : Int32) ||| nI A) ||| nI t).toBitVec).toNat = 2147483648 ||| (A ||| t) := by
  rw [Int32.toBitVec_or, Int32.toBitVec_or, BitVec.toNat_or, BitVec.toNat_or, show (-2147483648 : Int32).toBitVec.toNat = 2147483648 by decide +kernel, pk_tn (n := A) hA, pk_tn (n := t) ht, Nat.or_assoc]
theorem fl_bitsn {x : UInt32} {e t : Nat} (he : e < 255) (ht : t < 8388608) (hx : x.toNat = 2147483648 + (e * 8388608 + t)) : (((-2147483648 : Int32) ||| nI e <<< (nI 23 &&& 31)) ||| nI t) = x.toInt32 := by
  rw [sh23n e (by omega)]
  obtain ⟨A, hA⟩ : ∃ A, A = e * 8388608 := ⟨_, rfl⟩
  have ho : A ||| t = A + t := by rw [hA]; exact or_disj (k := 23) ht
  have hl : A + t < 2 ^ 31 := by omega
  rw [← hA] at hx ⊢
  clear hA
  apply Int32.toBitVec.inj
  apply BitVec.eq_of_toNat_eq
  rw [or4 (by omega) (by omega), ho, or31 hl, ← hx]
  rfl
/-! ===== floats, two: eighths, sums, means ===== -/
theorem okF_val {y : UInt32} {s : Bool} {c : Nat} {q : Int} (h : FP.Core.val32 y = .fin s c q) (hc : 8388608 ≤ c * 2 ^ (q + 149).toNat) : okF y := by
  right
  have hn : FP.Core.val32 y ≠ .nan := by rw [h]; intro z; cases z
  have hz := FP.Core.zmag_bits32 hn
  have hf : FP.Core.FFin y := by
    unfold FP.Core.FFin
    exact ⟨s, c, q, h⟩
  have hlt := (FP.Core.fin_bits32 y).mp hf
  rw [h] at hz
  have e1 : FP.Core.zmag FP.Core.b32 (.fin s c q) = c * 2 ^ (q + 149).toNat := by
    show c * 2 ^ (q - FP.Core.b32.qmin).toNat = _
    congr 2
  rw [e1] at hz
  refine ⟨?_, hlt⟩
  refine Nat.le_of_not_lt (fun hm => ?_)
  have e2 : FP.Core.unitsOf FP.Core.b32 (y.toNat % 2 ^ 31) = y.toNat % 2 ^ 31 := by
    unfold FP.Core.unitsOf
    exact if_pos hm
  rw [e2] at hz
  have hm' : y.toNat % 2 ^ 31 < 8388608 := hm
  omega
theorem f8_val : FP.Core.val32 1090519040 = .fin false 8388608 (-20) := by decide +kernel
theorem okF_nz {x : UInt32} (h : okF x) (h0 : x ≠ 0) : ∃ s c q, FP.Core.val32 x = .fin s c q ∧ 8388608 ≤ c ∧ c < 16777216 ∧ (-149 : Int) ≤ q ∧ q ≤ 104 ∧ 8388608 ≤ x.toNat % 2147483648 := by
  rcases h with h | ⟨h1, h2⟩
  · exact absurd h h0
  · have hf : FP.Core.FFin x := (FP.Core.fin_bits32 x).mpr h2
    obtain ⟨s, c, q, hv⟩ := hf
    have hfit : FP.Core.fits FP.Core.b32 (.fin s c q) := by rw [← hv]; exact FP.Core.val32_fits _
    obtain ⟨f1, f2, f3, f4⟩ := hfit
    refine ⟨s, c, q, hv, ?_, f1, f2, f3, h1⟩
    rcases f4 with f4 | f4
    · have hn : FP.Core.val32 x ≠ .nan := by rw [hv]; intro z; cases z
      have hz := FP.Core.zmag_bits32 hn
      rw [hv] at hz
      have e1 : FP.Core.zmag FP.Core.b32 (.fin s c q) = c := by
        show c * 2 ^ (q - FP.Core.b32.qmin).toNat = _
        rw [f4, Int.sub_self]
        exact Nat.mul_one c
      rw [e1] at hz
      rw [hz]
      have : FP.Core.unitsOf FP.Core.b32 8388608 ≤ FP.Core.unitsOf FP.Core.b32 (x.toNat % 2 ^ 31) := FP.Core.unitsOf_le_iff.mpr h1
      have e3 : FP.Core.unitsOf FP.Core.b32 8388608 = 8388608 := by decide +kernel
      omega
    · exact f4
theorem okF_d8 (v : Int32) : okF (FP.fdiv (FP.i2f v) 1090519040) := by
  by_cases h0 : v = 0
  · subst h0
    left
    decide +kernel
  · have hb := FP.Core.i2f_big (FP.Core.int32_ne h0)
    have hx : okF (FP.i2f v) := Or.inr ⟨by have := hb.1; show 8388608 ≤ (FP.Core.i2f v).toNat % 2147483648; omega, hb.2⟩
    have hne : FP.i2f v ≠ 0 := fun q => by
      have := hb.1
      have e : (FP.Core.i2f v).toNat = 0 := by rw [show FP.Core.i2f v = 0 from q]; rfl
      rw [e] at this
      omega
    obtain ⟨s, c, q, hv, hc, hc2, hq, hq2, _⟩ := okF_nz hx hne
    have hq3 : -23 ≤ q := by
      have hn : FP.Core.val32 (FP.i2f v) ≠ .nan := by rw [hv]; intro z; cases z
      have hz := FP.Core.zmag_bits32 hn
      rw [hv] at hz
      refine Int.not_lt.mp (fun hlt => ?_)
      have e1 : FP.Core.zmag FP.Core.b32 (.fin s c q) = c * 2 ^ (q + 149).toNat := by
        show c * 2 ^ (q - FP.Core.b32.qmin).toNat = _
        congr 2
      have h1 : FP.Core.unitsOf FP.Core.b32 (127 * 2 ^ 23) ≤ FP.Core.unitsOf FP.Core.b32 ((FP.i2f v).toNat % 2 ^ 31) := FP.Core.unitsOf_le_iff.mpr hb.1
      rw [← hz, e1] at h1
      have e3 : FP.Core.unitsOf FP.Core.b32 (127 * 2 ^ 23) = 8388608 * 2 ^ 126 := by decide +kernel
      rw [e3] at h1
      have h2 : c * 2 ^ (q + 149).toNat < 16777216 * 2 ^ 125 := by
        calc c * 2 ^ (q + 149).toNat ≤ c * 2 ^ 125 := Nat.mul_le_mul_left _ (Nat.pow_le_pow_right (by decide) (by omega))
          _ < 16777216 * 2 ^ 125 := Nat.mul_lt_mul_of_pos_right hc2 (by decide)
      omega
    have hd : FP.Core.val32 (FP.fdiv (FP.i2f v) 1090519040) = .fin s c (q - 3) := by
      rw [FP.Core.val32_fdiv, hv, f8_val]
      have hq9 : FP.Core.quotient FP.Core.b32 (.fin s c q) (.fin false 8388608 (-20)) = FP.Core.roundRatio FP.Core.b32 (s != false) c 8388608 (q - (-20)) := by
        rw [FP.Core.quotient]; exact if_neg (by decide)
      rw [hq9, show (s != false) = s by cases s <;> rfl]
      refine FP.Core.roundRatio_exact FP.Core.good_b32 (by decide) ⟨hc2, ?_, ?_, Or.inr hc⟩ ?_
      · show (-149 : Int) ≤ q - 3; omega
      · show q - 3 ≤ (104 : Int); omega
      · have e1 : (q - -20 - (q - 3)).toNat = 23 := by omega
        have e2 : (q - 3 - (q - -20)).toNat = 0 := by omega
        rw [e1, e2]
        omega
    refine okF_val hd ?_
    calc 8388608 ≤ c := hc
      _ = c * 1 := (Nat.mul_one c).symm
      _ ≤ c * 2 ^ (q - 3 + 149).toNat := Nat.mul_le_mul_left _ (Nat.two_pow_pos _)
/-! ===== floats, three: sums of whole numbers, means ===== -/
def kD (k : Nat) : FP.Core.Datum := .fin false (k * 2 ^ (23 - k.log2)) (8 + (k.log2 : Int))
theorem kD_fit : ∀ k : Nat, k < 125 → 0 < k → FP.Core.fits FP.Core.b32 (kD k) := by
  have h : ∀ k : Nat, k < 125 → 0 < k → k * 2 ^ (23 - k.log2) < 16777216 ∧ 8388608 ≤ k * 2 ^ (23 - k.log2) ∧ k.log2 ≤ 23 := by decide +kernel
  intro k h1 h2
  obtain ⟨a, b, c⟩ := h k h1 h2
  refine ⟨a, ?_, ?_, Or.inr b⟩
  · show (-149 : Int) ≤ 8 + (k.log2 : Int); omega
  · show 8 + (k.log2 : Int) ≤ (104 : Int); omega
theorem kD_mag : ∀ k : Nat, k < 125 → 0 < k → FP.Core.zmag FP.Core.b32 (kD k) = k * 2 ^ 31 * 2 ^ 149 := by
  intro k h1 h2
  have h : ∀ k : Nat, k < 125 → 0 < k → k.log2 ≤ 23 := by decide +kernel
  have hl := h k h1 h2
  show k * 2 ^ (23 - k.log2) * 2 ^ (8 + (k.log2 : Int) - (-149 : Int)).toNat = _
  rw [Nat.mul_assoc, ← Nat.pow_add, Nat.mul_assoc, ← Nat.pow_add]
  congr 2
  omega
/-- A whole number, rounded, is whole again, and no greater than k * 2^31 where it was not. -/
theorem w_ofInt {k : Nat} (h1 : k < 125) (h2 : 0 < k) {i : Int} (hi : i.natAbs ≤ k * 2 ^ 31) : ∃ j s c q, FP.Core.round FP.Core.b32 (FP.Core.ofInt i) = .fin s c q ∧ FP.Core.Whole j (.fin s c q) ∧ j.natAbs ≤ k * 2 ^ 31 ∧ (j = 0 → s = false) := by
  have hR : FP.Core.round FP.Core.b32 (FP.Core.ofInt i) = FP.Core.roundRatio FP.Core.b32 (decide (i < 0)) i.natAbs 1 0 := rfl
  have hfit := FP.Core.round_fits FP.Core.good_b32 (FP.Core.ofInt i)
  have hle : FP.Core.zmag FP.Core.b32 (FP.Core.round FP.Core.b32 (FP.Core.ofInt i)) ≤ k * 2 ^ 31 * 2 ^ 149 := by
    rw [hR, ← kD_mag k h1 h2]
    refine FP.Core.zmag_roundRatio_le FP.Core.good_b32 (e0 := -149) (by decide) (kD_fit k h1 h2) (by unfold kD; intro z; cases z) (Int.le_refl _) (by decide) ?_
    rw [kD_mag k h1 h2]
    show i.natAbs * 2 ^ 149 ≤ k * 2 ^ 31 * 2 ^ 149 * 2 ^ 0 * 1
    rw [Nat.pow_zero, Nat.mul_one, Nat.mul_one]
    exact Nat.mul_le_mul_right _ hi
  have hs : FP.Core.sgn (FP.Core.round FP.Core.b32 (FP.Core.ofInt i)) = decide (i < 0) := by rw [hR]; exact FP.Core.sgn_roundRatio ..
  have hn : FP.Core.round FP.Core.b32 (FP.Core.ofInt i) ≠ .nan := by rw [hR]; exact FP.Core.roundRatio_ne_nan _ _ _ _ _
  by_cases hb : i.natAbs ≤ 2 ^ 24
  · have hw := FP.Core.whole_round FP.Core.good_b32 FP.Core.wide_b32 hb (FP.Core.whole_ofInt i)
    cases hd : FP.Core.round FP.Core.b32 (FP.Core.ofInt i) with
    | nan => exact absurd hd hn
    | inf s => rw [hd] at hw; exact hw.elim
    | fin s c q =>
      refine ⟨i, s, c, q, rfl, by rw [← hd]; exact hw, hi, fun h => ?_⟩
      rw [hd] at hs
      have hs' : s = decide (i < 0) := hs
      rw [hs', h]; rfl
  · have hge : 16777216 * 2 ^ 149 ≤ FP.Core.zmag FP.Core.b32 (FP.Core.round FP.Core.b32 (FP.Core.ofInt i)) := by
      have hv : FP.Core.zmag FP.Core.b32 (.fin false 8388608 1) = 16777216 * 2 ^ 149 := by decide +kernel
      rw [hR, ← hv]
      refine FP.Core.zmag_roundRatio_ge FP.Core.good_b32 (e0 := -149) (by decide) ⟨(by show 8388608 < 16777216; decide), (by show (-149 : Int) ≤ 1; decide), (by show (1 : Int) ≤ 104; decide), Or.inr (by show 8388608 ≤ 8388608; decide)⟩ (Int.le_refl _) (by decide) ?_
      rw [hv]
      show 16777216 * 2 ^ 149 * 2 ^ 0 * 1 ≤ i.natAbs * 2 ^ 149
      rw [Nat.pow_zero, Nat.mul_one, Nat.mul_one]
      exact Nat.mul_le_mul_right _ (by omega)
    cases hd : FP.Core.round FP.Core.b32 (FP.Core.ofInt i) with
    | nan => exact absurd hd hn
    | inf s =>
      rw [hd] at hle
      have e1 : FP.Core.zmag FP.Core.b32 (.inf s) = 8388608 * 2 ^ 254 := rfl
      rw [e1] at hle
      omega
    | fin s c q =>
      rw [hd] at hle hge hfit
      obtain ⟨f1, f2, f3, f4⟩ := hfit
      have f1' : c < 16777216 := f1
      have f2' : (-149 : Int) ≤ q := f2
      have e1 : FP.Core.zmag FP.Core.b32 (.fin s c q) = c * 2 ^ (q + 149).toNat := by
        show c * 2 ^ (q - FP.Core.b32.qmin).toNat = _; congr 2
      rw [e1] at hle hge
      have hq : 0 ≤ q := by
        refine Int.not_lt.mp (fun hlt => ?_)
        have h2 : c * 2 ^ (q + 149).toNat < 16777216 * 2 ^ 149 := by
          calc c * 2 ^ (q + 149).toNat ≤ c * 2 ^ 149 := Nat.mul_le_mul_left _ (Nat.pow_le_pow_right (by decide) (by omega))
            _ < 16777216 * 2 ^ 149 := Nat.mul_lt_mul_of_pos_right f1' (by decide)
        omega
      have e2 : (q + 149).toNat = q.toNat + 149 := by omega
      rw [e2, Nat.pow_add, ← Nat.mul_assoc] at hle hge
      have hle' := Nat.le_of_mul_le_mul_right hle (Nat.two_pow_pos 149)
      have hge' := Nat.le_of_mul_le_mul_right hge (Nat.two_pow_pos 149)
      refine ⟨FP.Core.signed s (c * 2 ^ q.toNat), s, c, q, rfl, ?_, ?_, fun h => ?_⟩
      · show FP.Core.signed s (c * 2 ^ q.toNat) = FP.Core.signed s (c * 2 ^ q.toNat) * ((2 ^ (-q).toNat : Nat) : Int)
        rw [show (-q).toNat = 0 by omega]
        exact (Int.mul_one _).symm
      · rw [FP.Core.natAbs_signed]; exact hle'
      · have h9 := congrArg Int.natAbs h
        rw [FP.Core.natAbs_signed] at h9
        have : (0 : Int).natAbs = 0 := rfl
        omega
/-- x is a whole number of at most k * 2^31, and not the zero with a sign. -/
def FW (k : Nat) (x : UInt32) : Prop := ∃ j s c q, FP.Core.val32 x = .fin s c q ∧ FP.Core.Whole j (.fin s c q) ∧ j.natAbs ≤ k * 2 ^ 31 ∧ (j = 0 → s = false)
theorem FW_0 : FW 0 FP.fconst0 := ⟨0, false, 0, FP.Core.b32.qmin, FP.Core.val32_fconst0, (by show FP.Core.signed false (0 * 2 ^ (FP.Core.b32.qmin).toNat) = (0 : Int) * ((2 ^ (-FP.Core.b32.qmin).toNat : Nat) : Int); rw [Nat.zero_mul, Int.zero_mul]; rfl), Nat.le_refl _, fun _ => rfl⟩
theorem FW_i (v : Int32) : FW 1 (FP.i2f v) := by
  have h : v.toInt.natAbs ≤ 1 * 2 ^ 31 := by have := FP.Core.int32_abs v; omega
  obtain ⟨j, s, c, q, a, b, d, e⟩ := w_ofInt (by decide) (by decide) h
  exact ⟨j, s, c, q, (FP.Core.val32_i2f v).trans a, b, d, e⟩
theorem FW_add {k : Nat} {x : UInt32} (hk : k < 124) (h : FW k x) (v : Int32) : FW (k + 1) (FP.fadd x (FP.i2f v)) := by
  obtain ⟨j, s, c, q, a, b, d, e⟩ := h
  obtain ⟨j', s', c', q', a', b', d', e'⟩ := FW_i v
  have h0 : j + j' = 0 → (s && s') = false := fun hz => by
    by_cases hj : j = 0
    · rw [e hj]; rfl
    · have hj' : j' ≠ 0 := by omega
      rw [FP.Core.whole_sign b hj, FP.Core.whole_sign b' hj']
      by_cases hp : j < 0
      · rw [show decide (j' < 0) = false from decide_eq_false (by omega)]
        exact Bool.and_false _
      · rw [show decide (j < 0) = false from decide_eq_false hp]; rfl
  have hb : (j + j').natAbs ≤ (k + 1) * 2 ^ 31 := by omega
  obtain ⟨i, t, m, r, a2, b2, d2, e2⟩ := w_ofInt (k := k + 1) (by omega) (by omega) hb
  refine ⟨i, t, m, r, ?_, b2, d2, e2⟩
  rw [FP.Core.val32_fadd, a, a', FP.Core.round_sum_whole b b' h0]
  exact a2
theorem FW_nn {k : Nat} {x : UInt32} (h : FW k x) : vf_n32 x := by
  obtain ⟨j, s, c, q, a, _⟩ := h
  have hf : FP.Core.FFin x := ⟨s, c, q, a⟩
  have hlt := (FP.Core.fin_bits32 x).mp hf
  unfold vf_n32
  have e : (x &&& 0x7fffffff).toNat = x.toNat % 2 ^ 31 := FP.Core.mask_toNat32 x
  rw [UInt32.le_iff_toNat_le, e]
  show x.toNat % 2147483648 ≤ 2139095040
  have : x.toNat % 2147483648 < 2139095040 := hlt
  omega
theorem FW_fold (I : St) : ∀ (g : List Nat) (k : Nat) (x : UInt32), FW k x → k + g.length ≤ 124 → FW (k + g.length) (g.foldl (fun a p => FP.fadd a (FP.i2f (I 13 0 p))) x)
  | [], k, x, h, _ => h
  | p :: g, k, x, h, hl => by
    have hl' : k + (g.length + 1) ≤ 124 := hl
    have := FW_fold I g (k + 1) _ (FW_add (by omega) h (I 13 0 p)) (by omega)
    rw [show k + (p :: g).length = k + 1 + g.length by show k + (g.length + 1) = _; omega]
    exact this
theorem FW_fsum (I : St) (g : List Nat) (h : g.length ≤ 124) : FW g.length (fsum I g) := by
  have := FW_fold I g 0 _ FW_0 (by omega)
  rw [Nat.zero_add] at this
  exact this
theorem FW_step (I : St) (g : List Nat) (h : g.length ≤ 124) {i : Nat} (hi : i < g.length) {v : Int32} : FW (i + 1) (FP.fadd (fsum I (g.take i)) (FP.i2f v)) := by
  have h1 : (g.take i).length = i := by rw [List.length_take]; omega
  have h2 := FW_fsum I (g.take i) (by omega)
  rw [h1] at h2
  exact FW_add (by omega) h2 v
theorem fsum_nn (I : St) (g : List Nat) (v : Int32) (h : g.length < 124) : vf_n32 (FP.fadd (fsum I g) (FP.i2f v)) :=
  FW_nn (FW_add h (FW_fsum I g (by omega)) v)
theorem fmean_ok (I : St) (g : List Nat) (h : g.length ≤ 124) (h0 : ¬ g.length = 0) : okF (FP.fdiv (fsum I g) (FP.i2f (nI g.length))) := by
  obtain ⟨j, s, c, q, a, b, d, e⟩ := FW_fsum I g h
  generalize fsum I g = x at *
  generalize g.length = n at *
  have hv : (nI n).toInt = (n : Int) := nI_toInt (by omega)
  have hw : FP.Core.Whole (n : Int) (FP.Core.val32 (FP.i2f (nI n))) := by
    have := FP.Core.i2f_int (a := nI n) (by rw [hv]; show n ≤ 2 ^ 24; omega)
    rw [hv] at this
    exact this
  cases hd : FP.Core.val32 (FP.i2f (nI n)) with
  | nan => rw [hd] at hw; exact hw.elim
  | inf s => rw [hd] at hw; exact hw.elim
  | fin s' c' q' =>
    rw [hd] at hw
    have hc' : c' ≠ 0 := fun z => by have := (FP.Core.whole_zero hw).mp z; omega
    have hs' : s' = false := by rw [FP.Core.whole_sign hw (by omega)]; exact decide_eq_false (by omega)
    subst hs'
    have hq : FP.Core.val32 (FP.fdiv x (FP.i2f (nI n))) = FP.Core.roundRatio FP.Core.b32 s c c' (q - q') := by
      rw [FP.Core.val32_fdiv, a, hd]
      have : FP.Core.quotient FP.Core.b32 (.fin s c q) (.fin false c' q') = FP.Core.roundRatio FP.Core.b32 (s != false) c c' (q - q') := by
        rw [FP.Core.quotient]; exact if_neg hc'
      rw [this, show (s != false) = s by cases s <;> rfl]
    by_cases hj : j = 0
    · left
      have hc := (FP.Core.whole_zero b).mpr hj
      have hs := e hj
      subst hc; subst hs
      have e1 : FP.Core.roundRatio FP.Core.b32 false 0 c' (q - q') = .fin false 0 FP.Core.b32.qmin := by unfold FP.Core.roundRatio; rw [if_pos rfl]
      rw [e1, ← FP.Core.val32_fconst0] at hq
      exact FP.Core.val32_inj (by rw [hq, FP.Core.val32_fconst0]; intro z; cases z) hq
    · right
      have hA := FP.Core.whole_natAbs b
      have hB := FP.Core.whole_natAbs hw
      have hB' : c' * 2 ^ q'.toNat = n * 2 ^ (-q').toNat := hB
      have hcong : FP.Core.roundRatio FP.Core.b32 s c c' (q - q') = FP.Core.roundRatio FP.Core.b32 s j.natAbs n 0 := by
        refine FP.Core.roundRatio_congr (by omega) (by omega) ?_
        rw [Int.sub_zero, Int.zero_sub]
        refine Nat.eq_of_mul_eq_mul_right (Nat.two_pow_pos ((-q).toNat + q'.toNat)) ?_
        have hx : (q - q').toNat + ((-q).toNat + q'.toNat) = (-(q - q')).toNat + (q.toNat + (-q').toNat) := by omega
        calc c * n * 2 ^ (q - q').toNat * 2 ^ ((-q).toNat + q'.toNat) = c * n * 2 ^ ((q - q').toNat + ((-q).toNat + q'.toNat)) := by rw [Nat.mul_assoc, ← Nat.pow_add]
          _ = c * n * (2 ^ (-(q - q')).toNat * (2 ^ q.toNat * 2 ^ (-q').toNat)) := by rw [hx, Nat.pow_add, Nat.pow_add]
          _ = (c * 2 ^ q.toNat) * (n * 2 ^ (-q').toNat) * 2 ^ (-(q - q')).toNat := by ac_rfl
          _ = (j.natAbs * 2 ^ (-q).toNat) * (c' * 2 ^ q'.toNat) * 2 ^ (-(q - q')).toNat := by rw [hA, ← hB']
          _ = j.natAbs * c' * 2 ^ (-(q - q')).toNat * 2 ^ ((-q).toNat + q'.toNat) := by rw [Nat.pow_add]; ac_rfl
      rw [hcong] at hq
      have hj1 : 1 ≤ j.natAbs := by omega
      have hn1 : 0 < n := by omega
      have hdc : FP.Core.decode FP.Core.b32 (FP.fdiv x (FP.i2f (nI n))).toNat = FP.Core.roundRatio FP.Core.b32 s j.natAbs n 0 := hq
      have u1 : FP.Core.unitsOf FP.Core.b32 8388608 = 8388608 := by decide +kernel
      have u2 : FP.Core.unitsOf FP.Core.b32 (254 * 8388608) = 8388608 * 2 ^ 253 := by decide +kernel
      constructor
      · refine FP.Core.mag_ge FP.Core.good_b32 hdc hn1 (e0 := -149) (Int.le_refl _) (by decide) (by decide +kernel) ?_
        rw [u1]
        show 8388608 * 2 ^ 0 * n ≤ j.natAbs * 2 ^ 149
        rw [Nat.pow_zero, Nat.mul_one]
        calc 8388608 * n ≤ 1 * 2 ^ 149 := by omega
          _ ≤ j.natAbs * 2 ^ 149 := Nat.mul_le_mul_right _ hj1
      · have : FP.Core.mag FP.Core.b32 (FP.fdiv x (FP.i2f (nI n))).toNat ≤ 254 * 8388608 := by
          refine FP.Core.mag_le FP.Core.good_b32 hdc hn1 (e0 := -149) (Int.le_refl _) (by decide) ?_
          rw [u2]
          show j.natAbs * 2 ^ 149 ≤ 8388608 * 2 ^ 253 * 2 ^ 0 * n
          rw [Nat.pow_zero, Nat.mul_one]
          calc j.natAbs * 2 ^ 149 ≤ (n * 2 ^ 31) * 2 ^ 149 := Nat.mul_le_mul_right _ d
            _ ≤ 8388608 * 2 ^ 253 * n := by omega
        have h9 : (FP.fdiv x (FP.i2f (nI n))).toNat % 2147483648 ≤ 254 * 8388608 := this
        omega
