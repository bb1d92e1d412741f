/-! ===== floats ===== -/
theorem okF_nn' {x : UInt32} (h : okF x) : vf_n32 x := by
  unfold vf_n32
  have e : (x &&& 0x7fffffff).toNat = x.toNat % 2 ^ 31 := FP.Core.mask_toNat32 x
  rw [UInt32.le_iff_toNat_le, e]
  show x.toNat % 2147483648 ≤ 2139095040
  rcases h with h | h
  · subst h; decide
  · omega
def fl (e t : Nat) : UInt32 := .ofNat (e * 8388608 + t)
theorem fl_toNat {e t : Nat} (he : e < 256) (ht : t < 8388608) : (fl e t).toNat = e * 8388608 + t := by
  show (UInt32.ofNat _).toNat = _
  rw [UInt32.toNat_ofNat']
  exact Nat.mod_eq_of_lt (by omega)
theorem fl_val {e t : Nat} (h1 : 1 ≤ e) (he : e < 255) (ht : t < 8388608) : FP.Core.val32 (fl e t) = .fin false (8388608 + t) ((e : Int) - 150) := by
  show FP.Core.decode FP.Core.b32 (fl e t).toNat = _
  rw [fl_toNat (by omega) ht]
  have hE : FP.Core.fieldE FP.Core.b32 (e * 8388608 + t) = e := by
    show (e * 8388608 + t) / 8388608 % 256 = e
    omega
  have hT : FP.Core.fieldT FP.Core.b32 (e * 8388608 + t) = t := by
    show (e * 8388608 + t) % 8388608 = t
    omega
  have hS : FP.Core.fieldS FP.Core.b32 (e * 8388608 + t) = false := by
    show ((e * 8388608 + t) / 8388608 / 256 % 2 == 1) = false
    have : (e * 8388608 + t) / 8388608 / 256 = 0 := by omega
    rw [this]; rfl
  rw [FP.Core.decode, hE, hT, hS, if_neg (show ¬ e = FP.Core.b32.exps - 1 by show ¬ e = 255; omega), if_neg (by omega)]
  show FP.Core.Datum.fin false (8388608 + t) (-149 + ((e : Int) - 1)) = _
  congr 1
  omega
theorem fl_fits {e t : Nat} (h1 : 1 ≤ e) (he : e < 255) (ht : t < 8388608) : FP.Core.fits FP.Core.b32 (.fin false (8388608 + t) ((e : Int) - 150)) := by
  refine ⟨?_, ?_, ?_, Or.inr ?_⟩
  · show 8388608 + t < 16777216; omega
  · show (-149 : Int) ≤ _; omega
  · show _ ≤ (104 : Int); omega
  · show 8388608 ≤ 8388608 + t; omega
theorem fl_nan {e t : Nat} (h1 : 1 ≤ e) (he : e < 255) (ht : t < 8388608) : FP.Core.val32 (fl e t) ≠ .nan := by
  rw [fl_val h1 he ht]; intro q; cases q
theorem f2_val : FP.Core.val32 FP.Core.fconst2 = .fin false 8388608 (-22) := by decide +kernel
theorem fl_half {e t : Nat} (h1 : 2 ≤ e) (he : e < 255) (ht : t < 8388608) : FP.Core.fdiv (fl e t) FP.Core.fconst2 = fl (e - 1) t := by
  refine (FP.Core.val32_inj (fl_nan (by omega) (by omega) ht) ?_).symm
  rw [FP.Core.val32_fdiv, fl_val (by omega) he ht, f2_val, fl_val (by omega) (by omega) ht]
  have hq : FP.Core.quotient FP.Core.b32 (.fin false (8388608 + t) ((e : Int) - 150)) (.fin false 8388608 (-22)) = FP.Core.roundRatio FP.Core.b32 (false != false) (8388608 + t) 8388608 ((e : Int) - 150 - (-22)) := by
    rw [FP.Core.quotient]; exact if_neg (by decide)
  rw [hq]
  refine (FP.Core.roundRatio_exact FP.Core.good_b32 (by decide) (fl_fits (by omega) (by omega) ht) ?_).symm
  have e1 : ((e : Int) - 150 - -22 - (((e - 1 : Nat) : Int) - 150)).toNat = 23 := by omega
  have e2 : ((((e - 1 : Nat) : Int) - 150) - ((e : Int) - 150 - -22)).toNat = 0 := by omega
  rw [e1, e2]
  omega
theorem fl_dbl {e t : Nat} (h1 : 1 ≤ e) (he : e < 254) (ht : t < 8388608) : FP.Core.fmul (fl e t) FP.Core.fconst2 = fl (e + 1) t := by
  refine (FP.Core.val32_inj (fl_nan (by omega) (by omega) ht) ?_).symm
  rw [FP.Core.val32_fmul, fl_val (by omega) (by omega) ht, f2_val, fl_val (by omega) (by omega) ht]
  show _ = FP.Core.roundRatio FP.Core.b32 (false != false) ((8388608 + t) * 8388608) 1 ((e : Int) - 150 + -22)
  refine (FP.Core.roundRatio_exact FP.Core.good_b32 (by decide) (fl_fits (by omega) (by omega) ht) ?_).symm
  have e1 : ((e : Int) - 150 + -22 - (((e + 1 : Nat) : Int) - 150)).toNat = 0 := by omega
  have e2 : ((((e + 1 : Nat) : Int) - 150) - ((e : Int) - 150 + -22)).toNat = 23 := by omega
  rw [e1, e2]
  omega
theorem fl_cmp {e t : Nat} (h1 : 1 ≤ e) (he : e < 255) (ht : t < 8388608) {y : UInt32} (hy : FP.Core.val32 y ≠ .nan) (hy2 : y.toNat < 2147483648) : FP.Core.fcmp (fl e t) y = some (compare ((e * 8388608 + t : Nat) : Int) ((y.toNat : Nat) : Int)) := by
  rw [FP.Core.fcmp_key (fl_nan h1 he ht) hy]
  have a : FP.Core.fkey (fl e t) = ((e * 8388608 + t : Nat) : Int) := by
    rw [FP.Core.fkey, fl_toNat (by omega) ht, if_neg (by omega)]
  have b : FP.Core.fkey y = ((y.toNat : Nat) : Int) := by rw [FP.Core.fkey, if_neg (by omega)]
  rw [a, b]
