/-! ===== floats ===== -/
theorem okF_nn' {x : UInt32} (h : okF x) : vf_n32 x := by
  unfold vf_n32
  have e : (x &&& 0x7fffffff).toNat = x.toNat % 2 ^ 31 := FP.Core.mask_toNat32 x
  rw [UInt32.le_iff_toNat_le, e]
  show x.toNat % 2147483648 ≤ 2139095040
  rcases h with h | h
  · subst h; decide
  · omega
def fl (e t : Nat) : UInt32 := .ofNat (e * 8388608 + t)
theorem fl_toNat {e t : Nat} (he : e < 256) (ht : t < 8388608) : (fl e t).toNat = e * 8388608 + t := by
  show (UInt32.ofNat _).toNat = _
  rw [UInt32.toNat_ofNat']
  exact Nat.mod_eq_of_lt (by omega)
theorem fl_val {e t : Nat} (h1 : 1 ≤ e) (he : e < 255) (ht : t < 8388608) : FP.Core.val32 (fl e t) = .fin false (8388608 + t) ((e : Int) - 150) := by
  show FP.Core.decode FP.Core.b32 (fl e t).toNat = _
  rw [fl_toNat (by omega) ht]
  have hE : FP.Core.fieldE FP.Core.b32 (e * 8388608 + t) = e := by
    show (e * 8388608 + t) / 8388608 % 256 = e
    omega
  have hT : FP.Core.fieldT FP.Core.b32 (e * 8388608 + t) = t := by
    show (e * 8388608 + t) % 8388608 = t
    omega
  have hS : FP.Core.fieldS FP.Core.b32 (e * 8388608 + t) = false := by
    show ((e * 8388608 + t) / 8388608 / 256 % 2 == 1) = false
    have : (e * 8388608 + t) / 8388608 / 256 = 0 := by omega
    rw [this]; rfl
  rw [FP.Core.decode, hE, hT, hS, if_neg (show ¬ e = FP.Core.b32.exps - 1 by show ¬ e = 255; omega), if_neg (by omega)]
  show FP.Core.Datum.fin false (8388608 + t) (-149 + ((e : Int) - 1)) = _
  congr 1
  omega
theorem fl_fits {e t : Nat} (h1 : 1 ≤ e) (he : e < 255) (ht : t < 8388608) : FP.Core.fits FP.Core.b32 (.fin false (8388608 + t) ((e : Int) - 150)) := by
  refine ⟨?_, ?_, ?_, Or.inr ?_⟩
  · show 8388608 + t < 16777216; omega
  · show (-149 : Int) ≤ _; omega
  · show _ ≤ (104 : Int); omega
  · show 8388608 ≤ 8388608 + t; omega
theorem fl_nan {e t : Nat} (h1 : 1 ≤ e) (he : e < 255) (ht : t < 8388608) : FP.Core.val32 (fl e t) ≠ .nan := by
  rw [fl_val h1 he ht]; intro q; cases q
theorem f2_val : FP.Core.val32 FP.Core.fconst2 = .fin false 8388608 (-22) := by decide +kernel
theorem fl_half {e t : Nat} (h1 : 2 ≤ e) (he : e < 255) (ht : t < 8388608) : FP.Core.fdiv (fl e t) FP.Core.fconst2 = fl (e - 1) t := by
  refine (FP.Core.val32_inj (fl_nan (by omega) (by omega) ht) ?_).symm
  rw [FP.Core.val32_fdiv, fl_val (by omega) he ht, f2_val, fl_val (by omega) (by omega) ht]
  have hq : FP.Core.quotient FP.Core.b32 (.fin false (8388608 + t) ((e : Int) - 150)) (.fin false 8388608 (-22)) = FP.Core.roundRatio FP.Core.b32 (false != false) (8388608 + t) 8388608 ((e : Int) - 150 - (-22)) := by
    rw [FP.Core.quotient]; exact if_neg (by decide)
  rw [hq]
  refine (FP.Core.roundRatio_exact FP.Core.good_b32 (by decide) (fl_fits (by omega) (by omega) ht) ?_).symm
  have e1 : ((e : Int) - 150 - -22 - (((e - 1 : Nat) : Int) - 150)).toNat = 23 := by omega
  have e2 : ((((e - 1 : Nat) : Int) - 150) - ((e : Int) - 150 - -22)).toNat = 0 := by omega
  rw [e1, e2]
  omega
theorem fl_dbl {e t : Nat} (h1 : 1 ≤ e) (he : e < 254) (ht : t < 8388608) : FP.Core.fmul (fl e t) FP.Core.fconst2 = fl (e + 1) t := by
  refine (FP.Core.val32_inj (fl_nan (by omega) (by omega) ht) ?_).symm
  rw [FP.Core.val32_fmul, fl_val (by omega) (by omega) ht, f2_val, fl_val (by omega) (by omega) ht]
  show _ = FP.Core.roundRatio FP.Core.b32 (false != false) ((8388608 + t) * 8388608) 1 ((e : Int) - 150 + -22)
  refine (FP.Core.roundRatio_exact FP.Core.good_b32 (by decide) (fl_fits (by omega) (by omega) ht) ?_).symm
  have e1 : ((e : Int) - 150 + -22 - (((e + 1 : Nat) : Int) - 150)).toNat = 0 := by omega
  have e2 : ((((e + 1 : Nat) : Int) - 150) - ((e : Int) - 150 + -22)).toNat = 23 := by omega
  rw [e1, e2]
  omega
theorem fl_cmp {e t : Nat} (h1 : 1 ≤ e) (he : e < 255) (ht : t < 8388608) {y : UInt32} (hy : FP.Core.val32 y ≠ .nan) (hy2 : y.toNat < 2147483648) : FP.Core.fcmp (fl e t) y = some (compare ((e * 8388608 + t : Nat) : Int) ((y.toNat : Nat) : Int)) := by
  rw [FP.Core.fcmp_key (fl_nan h1 he ht) hy]
  have a : FP.Core.fkey (fl e t) = ((e * 8388608 + t : Nat) : Int) := by
    rw [FP.Core.fkey, fl_toNat (by omega) ht, if_neg (by omega)]
  have b : FP.Core.fkey y = ((y.toNat : Nat) : Int) := by rw [FP.Core.fkey, if_neg (by omega)]
  rw [a, b]
theorem f1_val : FP.Core.val32 FP.fconst1 = .fin false 8388608 (-23) := by decide +kernel
theorem m23_val : FP.Core.val32 1258291200 = .fin false 8388608 0 := by decide +kernel
theorem fl_end {t : Nat} (ht : t < 8388608) : FP.f2i (FP.fmul (FP.fsub (fl 127 t) FP.fconst1) 1258291200) = nI t := by
  have hs : FP.Core.exactSum (.fin false (8388608 + t) (-23)) (FP.Core.negate (.fin false 8388608 (-23))) = .fin false t (-23) := by
    have h1 : FP.Core.sumUnits false (8388608 + t) (-23) true 8388608 (-23) (-23) = (t : Int) := by
      simp [FP.Core.sumUnits, FP.Core.inUnits, FP.Core.signed]
      omega
    show FP.Core.Datum.fin (FP.Core.sumSign false true (FP.Core.sumUnits false (8388608 + t) (-23) true 8388608 (-23) (-23))) (FP.Core.sumUnits false (8388608 + t) (-23) true 8388608 (-23) (-23)).natAbs (-23) = _
    rw [h1]
    have h2 : FP.Core.sumSign false true (t : Int) = false := by
      unfold FP.Core.sumSign
      split
      · rfl
      · simp
    rw [h2]
    rfl
  obtain ⟨c, q, h1, h2⟩ := FP.Core.round_exact FP.Core.good_b32 false (c := t) (q := -23) (by show t < 16777216; omega) (by decide) (by decide)
  have hv : FP.Core.val32 (FP.fsub (fl 127 t) FP.fconst1) = .fin false c q := by
    rw [FP.Core.val32_fsub, fl_val (by decide) (by decide) ht, f1_val]
    show FP.Core.round FP.Core.b32 (FP.Core.exactSum (.fin false (8388608 + t) (-23)) _) = _
    rw [hs, h1]
  have hfit : FP.Core.fits FP.Core.b32 (.fin false c q) := by
    rw [← hv]; exact FP.Core.val32_fits _
  have hq : (-149 : Int) ≤ q := hfit.2.1
  have h3 : c * 2 ^ (q + 149).toNat = t * 2 ^ 126 := by
    have := h2
    simp only [FP.Core.inUnits] at this
    have e1 : (q - FP.Core.b32.qmin).toNat = (q + 149).toNat := by
      show (q - (-149)).toNat = _
      omega
    have e2 : ((-23 : Int) - FP.Core.b32.qmin).toNat = 126 := by decide
    rw [e1, e2] at this
    exact this
  have hW : FP.Core.Whole (t : Int) (.fin (false != false) (c * 8388608) (q + 0)) := by
    show FP.Core.signed false (c * 8388608 * 2 ^ (q + 0).toNat) = (t : Int) * ((2 ^ (-(q + 0)).toNat : Nat) : Int)
    rw [Int.add_zero]
    show ((c * 8388608 * 2 ^ q.toNat : Nat) : Int) = _
    rw [← Int.natCast_mul]
    congr 1
    have e : (q + 149).toNat + (-q).toNat = 149 + q.toNat := by omega
    have h4 : c * 2 ^ (q + 149).toNat * 2 ^ (-q).toNat = t * 2 ^ 126 * 2 ^ (-q).toNat := by rw [h3]
    rw [Nat.mul_assoc, ← Nat.pow_add, e, Nat.pow_add] at h4
    have h5 : (c * 8388608 * 2 ^ q.toNat) * 2 ^ 126 = (t * 2 ^ (-q).toNat) * 2 ^ 126 := by
      have e8 : (2 : Nat) ^ 149 = 8388608 * 2 ^ 126 := by decide
      calc (c * 8388608 * 2 ^ q.toNat) * 2 ^ 126 = c * ((8388608 * 2 ^ 126) * 2 ^ q.toNat) := by ac_rfl
        _ = c * (2 ^ 149 * 2 ^ q.toNat) := by rw [e8]
        _ = t * 2 ^ 126 * 2 ^ (-q).toNat := h4
        _ = _ := by ac_rfl
    exact Nat.eq_of_mul_eq_mul_right (Nat.two_pow_pos 126) h5
  have hr := FP.Core.whole_round FP.Core.good_b32 FP.Core.wide_b32 (i := (t : Int)) (by show t ≤ 2 ^ 24; omega) hW
  have hm : FP.Core.val32 (FP.fmul (FP.fsub (fl 127 t) FP.fconst1) 1258291200) = FP.Core.round FP.Core.b32 (.fin (false != false) (c * 8388608) (q + 0)) := by
    rw [FP.Core.val32_fmul, hv, m23_val]
    rfl
  rw [← hm] at hr
  show Int32.ofInt (FP.Core.toInt (-2 ^ 31) (2 ^ 31 - 1) (FP.Core.val32 _)) = nI t
  rw [FP.Core.toInt_whole hr (by omega) (by omega)]
  rfl
theorem xor31 {m : Nat} (h : m < 2147483648) : (2147483648 + m) ^^^ 2147483648 = m := by
  have e : 2147483648 + m = 2147483648 ^^^ m := by
    have h1 : 2 ^ 31 + m = 2 ^ 31 ||| m := by
      have z := Nat.two_pow_add_eq_or_of_lt (i := 31) (b := m) (show m < 2 ^ 31 from h) 1
      rwa [Nat.mul_one] at z
    rw [show (2147483648 : Nat) = 2 ^ 31 from rfl, h1]
    apply Nat.eq_of_testBit_eq
    intro i
    rw [Nat.testBit_or, Nat.testBit_xor, Nat.testBit_two_pow]
    by_cases hi : 31 = i
    · subst hi
      simp [Nat.testBit_lt_two_pow (show m < 2 ^ 31 from h)]
    · simp [hi]
  rw [e, Nat.xor_comm 2147483648 m, Nat.xor_assoc, Nat.xor_self, Nat.xor_zero]
theorem okF_cases {x : UInt32} (h : okF x) : x = 0 ∨ ∃ e t, 1 ≤ e ∧ e < 255 ∧ t < 8388608 ∧ (x = fl e t ∨ (x.toNat = 2147483648 + (e * 8388608 + t) ∧ FP.fneg x = fl e t)) := by
  rcases h with h | ⟨h1, h2⟩
  · exact Or.inl h
  · refine Or.inr ⟨x.toNat % 2147483648 / 8388608, x.toNat % 2147483648 % 8388608, by omega, by omega, by omega, ?_⟩
    have hx := x.toNat_lt
    by_cases hs : x.toNat < 2147483648
    · left
      apply UInt32.toNat_inj.mp
      rw [fl_toNat (by omega) (by omega)]
      omega
    · right
      refine ⟨by omega, ?_⟩
      apply UInt32.toNat_inj.mp
      rw [fl_toNat (by omega) (by omega), FP.fneg, UInt32.toNat_xor]
      have e : x.toNat = 2147483648 + (x.toNat - 2147483648) := by omega
      rw [e, show (2147483648 : UInt32).toNat = 2147483648 from rfl, xor31 (by omega)]
      omega
theorem cmpI_l {a b : Int} : FP.cmpInt (-1) (some (compare a b)) < 0 ↔ a < b := by
  rcases h : compare a b with _ | _ | _
  · have := (FP.Core.compare_lt_iff a b).mp h; simp [FP.cmpInt, this]
  · have := (FP.Core.compare_eq_iff a b).mp h; subst this; simp [FP.cmpInt]
  · have := (FP.Core.compare_gt_iff a b).mp h
    have h2 : ¬ a < b := by omega
    simp [FP.cmpInt, h2]
theorem cmpI_g {a b : Int} : 0 ≤ FP.cmpInt 1 (some (compare a b)) ↔ b ≤ a := by
  rcases h : compare a b with _ | _ | _
  · have := (FP.Core.compare_lt_iff a b).mp h
    have h2 : ¬ b ≤ a := by omega
    simp [FP.cmpInt, h2]
  · have := (FP.Core.compare_eq_iff a b).mp h; subst this; simp [FP.cmpInt]
  · have := (FP.Core.compare_gt_iff a b).mp h
    have h2 : b ≤ a := by omega
    simp [FP.cmpInt, h2]
theorem fl_lt2 {q t : Nat} (h1 : 1 ≤ q) (he : q < 255) (ht : t < 8388608) : FP.cmpInt (-1) (FP.fcmp (fl q t) FP.fconst2) < 0 ↔ q < 128 := by
  rw [show FP.fcmp (fl q t) FP.fconst2 = some (compare ((q * 8388608 + t : Nat) : Int) ((1073741824 : Nat) : Int)) from fl_cmp h1 he ht (by rw [show FP.fconst2 = FP.Core.fconst2 from rfl, f2_val]; intro z; cases z) (by decide), cmpI_l]
  omega
theorem fl_ge1 {q t : Nat} (h1 : 1 ≤ q) (he : q < 255) (ht : t < 8388608) : 0 ≤ FP.cmpInt 1 (FP.fcmp (fl q t) FP.fconst1) ↔ 127 ≤ q := by
  rw [show FP.fcmp (fl q t) FP.fconst1 = some (compare ((q * 8388608 + t : Nat) : Int) ((1065353216 : Nat) : Int)) from fl_cmp h1 he ht (by rw [f1_val]; intro z; cases z) (by decide), cmpI_g]
  omega
theorem fl_pos {q t : Nat} (h1 : 1 ≤ q) (he : q < 255) (ht : t < 8388608) (d : Int32) : FP.cmpInt d (FP.fcmp (fl q t) FP.fconst0) = nI 1 := by
  rw [show FP.fcmp (fl q t) FP.fconst0 = some (compare ((q * 8388608 + t : Nat) : Int) ((0 : Nat) : Int)) from fl_cmp h1 he ht (by rw [show FP.fconst0 = FP.Core.fconst0 from rfl, FP.Core.val32_fconst0]; intro z; cases z) (by decide), (FP.Core.compare_gt_iff _ _).mpr (by omega)]
  exact nI_one.symm
theorem okF_fl {e t : Nat} (h1 : 1 ≤ e) (he : e < 255) (ht : t < 8388608) : okF (fl e t) := by
  right
  rw [fl_toNat (by omega) ht]
  omega
theorem fl_nn {e t : Nat} (h1 : 1 ≤ e) (he : e < 255) (ht : t < 8388608) : vf_n32 (fl e t) := okF_nn' (okF_fl h1 he ht)
theorem nn_val {x : UInt32} (h : FP.Core.val32 x ≠ .nan) : vf_n32 x := by
  unfold vf_n32
  have e : (x &&& 0x7fffffff).toNat = x.toNat % 2 ^ 31 := FP.Core.mask_toNat32 x
  rw [UInt32.le_iff_toNat_le, e]
  exact (FP.Core.ne_nan32 x).mp h
theorem fl_end_nn {t : Nat} (ht : t < 8388608) : vf_n32 (FP.fsub (fl 127 t) FP.fconst1) ∧ vf_n32 (FP.fmul (FP.fsub (fl 127 t) FP.fconst1) 1258291200) := by
  constructor
  · refine nn_val ?_
    rw [FP.Core.val32_fsub, fl_val (by decide) (by decide) ht, f1_val]
    exact FP.Core.roundRatio_ne_nan _ _ _ _ _
  · refine nn_val ?_
    have hf : ∃ s c q, FP.Core.val32 (FP.fsub (fl 127 t) FP.fconst1) = .fin s c q := by
      obtain ⟨c, q, h1, h2⟩ := FP.Core.round_exact FP.Core.good_b32 (FP.Core.sumSign false true (FP.Core.sumUnits false (8388608 + t) (-23) true 8388608 (-23) (-23))) (c := (FP.Core.sumUnits false (8388608 + t) (-23) true 8388608 (-23) (-23)).natAbs) (q := -23) (by
        have h1 : FP.Core.sumUnits false (8388608 + t) (-23) true 8388608 (-23) (-23) = (t : Int) := by
          simp [FP.Core.sumUnits, FP.Core.inUnits, FP.Core.signed]
          omega
        rw [h1]
        show t < 16777216
        omega) (by decide) (by decide)
      have h3 : FP.Core.val32 (FP.fsub (fl 127 t) FP.fconst1) = FP.Core.round FP.Core.b32 (FP.Core.exactSum (.fin false (8388608 + t) (-23)) (FP.Core.negate (.fin false 8388608 (-23)))) := by
        rw [FP.Core.val32_fsub, fl_val (by decide) (by decide) ht, f1_val]
        rfl
      exact ⟨_, c, q, h3.trans h1⟩
    obtain ⟨s, c, q, h⟩ := hf
    rw [FP.Core.val32_fmul, h, m23_val]
    exact FP.Core.roundRatio_ne_nan _ _ _ _ _
theorem sh23 (e : Nat) (he : e < 256) : nI e <<< (nI 23 &&& 31) = Int32.ofInt ((e : Int) * 8388608) := by
  have h : ∀ e, e < 256 → nI e <<< (nI 23 &&& 31) = Int32.ofInt ((e : Int) * 8388608) := by decide +kernel
  exact h e he
theorem or_disj {a b k : Nat} (h : b < 2 ^ k) : (a * 2 ^ k ||| b) = a * 2 ^ k + b := by
  rw [Nat.mul_comm]
  exact (Nat.two_pow_add_eq_or_of_lt h a).symm
theorem cmpV_l (o : Ordering) : Op.cmpValue (some o) .l = FP.cmpInt (-1) (some o) := by cases o <;> rfl
theorem cmpV_g (o : Ordering) : Op.cmpValue (some o) .g = FP.cmpInt 1 (some o) := by cases o <;> rfl
theorem fl_lt2v {q t : Nat} (h1 : 1 ≤ q) (he : q < 255) (ht : t < 8388608) : Op.cmpValue (FP.fcmp (fl q t) FP.fconst2) .l < 0 ↔ q < 128 := by
  have h := fl_lt2 h1 he ht
  have e : FP.fcmp (fl q t) FP.fconst2 = some (compare ((q * 8388608 + t : Nat) : Int) ((1073741824 : Nat) : Int)) := fl_cmp h1 he ht (by rw [show FP.fconst2 = FP.Core.fconst2 from rfl, f2_val]; intro z; cases z) (by decide)
  rw [e] at h ⊢
  rw [cmpV_l]
  exact h
theorem fl_ge1v {q t : Nat} (h1 : 1 ≤ q) (he : q < 255) (ht : t < 8388608) : 0 ≤ Op.cmpValue (FP.fcmp (fl q t) FP.fconst1) .g ↔ 127 ≤ q := by
  have h := fl_ge1 h1 he ht
  have e : FP.fcmp (fl q t) FP.fconst1 = some (compare ((q * 8388608 + t : Nat) : Int) ((1065353216 : Nat) : Int)) := fl_cmp h1 he ht (by rw [f1_val]; intro z; cases z) (by decide)
  rw [e] at h ⊢
  rw [cmpV_g]
  exact h
theorem fl_posv {q t : Nat} (h1 : 1 ≤ q) (he : q < 255) (ht : t < 8388608) {op : CmpOp} : Op.cmpValue (FP.fcmp (fl q t) FP.fconst0) op = nI 1 := by
  have e : FP.fcmp (fl q t) FP.fconst0 = some (compare ((q * 8388608 + t : Nat) : Int) ((0 : Nat) : Int)) := fl_cmp h1 he ht (by rw [show FP.fconst0 = FP.Core.fconst0 from rfl, FP.Core.val32_fconst0]; intro z; cases z) (by decide)
  rw [e, (FP.Core.compare_gt_iff _ _).mpr (by omega)]
  cases op <;> exact nI_one.symm
theorem sh23n (e : Nat) (he : e < 256) : nI e <<< (nI 23 &&& 31) = nI (e * 8388608) := by
  have h : ∀ e, e < 256 → nI e <<< (nI 23 &&& 31) = nI (e * 8388608) := by decide +kernel
  exact h e he
theorem or3 {A t : Nat} (hA : A < 2 ^ 32) (ht : t < 2 ^ 32) : (((nI 0 ||| nI A) ||| nI t).toBitVec).toNat = A ||| t := by
  rw [Int32.toBitVec_or, Int32.toBitVec_or, BitVec.toNat_or, BitVec.toNat_or, pk_tn (n := 0) (by decide), pk_tn (n := A) hA, pk_tn (n := t) ht, Nat.zero_or]
theorem fl_bits {e t : Nat} (he : e < 255) (ht : t < 8388608) : ((nI 0 ||| nI e <<< (nI 23 &&& 31)) ||| nI t) = (fl e t).toInt32 := by
  rw [sh23n e (by omega)]
  obtain ⟨A, hA⟩ : ∃ A, A = e * 8388608 := ⟨_, rfl⟩
  have hf : (fl e t).toNat = A + t := by rw [hA]; exact fl_toNat (by omega) ht
  have ho : A ||| t = A + t := by rw [hA]; exact or_disj (k := 23) ht
  have hl : A < 2 ^ 32 := by omega
  rw [← hA]
  clear hA
  generalize fl e t = x at hf ⊢
  apply Int32.toBitVec.inj
  apply BitVec.eq_of_toNat_eq
  rw [or3 hl (by omega), ho, ← hf]
  rfl
theorem fl_negv {x : UInt32} {e t : Nat} (h1 : 1 ≤ e) (he : e < 255) (ht : t < 8388608) (hx : x.toNat = 2147483648 + (e * 8388608 + t)) {op : CmpOp} : Op.cmpValue (FP.fcmp x FP.fconst0) op = -1 := by
  have hn : FP.Core.val32 x ≠ .nan := (FP.Core.ne_nan32 x).mpr (by omega)
  have h0 : FP.Core.val32 FP.fconst0 ≠ .nan := by rw [show FP.fconst0 = FP.Core.fconst0 from rfl, FP.Core.val32_fconst0]; intro z; cases z
  have e0 : FP.Core.fkey x < FP.Core.fkey FP.fconst0 := by
    have a : FP.Core.fkey FP.fconst0 = 0 := by decide
    rw [a, FP.Core.fkey, if_pos (by omega)]
    omega
  have e1 : FP.fcmp x FP.fconst0 = some .lt := by
    show FP.Core.fcmp x FP.fconst0 = _
    rw [FP.Core.fcmp_key hn h0, (FP.Core.compare_lt_iff _ _).mpr e0]
  rw [e1]
  cases op <;> rfl
theorem or31 {m : Nat} (h : m < 2 ^ 31) : (2147483648 ||| m) = 2147483648 + m := by
  have z := Nat.two_pow_add_eq_or_of_lt (i := 31) (b := m) h 1
  rw [Nat.mul_one] at z
  exact z.symm
theorem or4 {A t : Nat} (hA : A < 2 ^ 32) (ht : t < 2 ^ 32) : ((((-2147483648 : Int32) ||| nI A) ||| nI t).toBitVec).toNat = 2147483648 ||| (A ||| t) := by
  rw [Int32.toBitVec_or, Int32.toBitVec_or, BitVec.toNat_or, BitVec.toNat_or, show (-2147483648 : Int32).toBitVec.toNat = 2147483648 by decide +kernel, pk_tn (n := A) hA, pk_tn (n := t) ht, Nat.or_assoc]
theorem fl_bitsn {x : UInt32} {e t : Nat} (he : e < 255) (ht : t < 8388608) (hx : x.toNat = 2147483648 + (e * 8388608 + t)) : (((-2147483648 : Int32) ||| nI e <<< (nI 23 &&& 31)) ||| nI t) = x.toInt32 := by
  rw [sh23n e (by omega)]
  obtain ⟨A, hA⟩ : ∃ A, A = e * 8388608 := ⟨_, rfl⟩
  have ho : A ||| t = A + t := by rw [hA]; exact or_disj (k := 23) ht
  have hl : A + t < 2 ^ 31 := by omega
  rw [← hA] at hx ⊢
  clear hA
  apply Int32.toBitVec.inj
  apply BitVec.eq_of_toNat_eq
  rw [or4 (by omega) (by omega), ho, or31 hl, ← hx]
  rfl
