/-! ===== floats, two: eighths, sums, means ===== -/
theorem okF_val {y : UInt32} {s : Bool} {c : Nat} {q : Int} (h : FP.Core.val32 y = .fin s c q) (hc : 8388608 ≤ c * 2 ^ (q + 149).toNat) : okF y := by
  right
  have hn : FP.Core.val32 y ≠ .nan := by rw [h]; intro z; cases z
  have hz := FP.Core.zmag_bits32 hn
  have hf : FP.Core.FFin y := by
    unfold FP.Core.FFin
    exact ⟨s, c, q, h⟩
  have hlt := (FP.Core.fin_bits32 y).mp hf
  rw [h] at hz
  have e1 : FP.Core.zmag FP.Core.b32 (.fin s c q) = c * 2 ^ (q + 149).toNat := by
    show c * 2 ^ (q - FP.Core.b32.qmin).toNat = _
    congr 2
  rw [e1] at hz
  refine ⟨?_, hlt⟩
  refine Nat.le_of_not_lt (fun hm => ?_)
  have e2 : FP.Core.unitsOf FP.Core.b32 (y.toNat % 2 ^ 31) = y.toNat % 2 ^ 31 := by
    unfold FP.Core.unitsOf
    exact if_pos hm
  rw [e2] at hz
  have hm' : y.toNat % 2 ^ 31 < 8388608 := hm
  omega
theorem f8_val : FP.Core.val32 1090519040 = .fin false 8388608 (-20) := by decide +kernel
theorem okF_nz {x : UInt32} (h : okF x) (h0 : x ≠ 0) : ∃ s c q, FP.Core.val32 x = .fin s c q ∧ 8388608 ≤ c ∧ c < 16777216 ∧ (-149 : Int) ≤ q ∧ q ≤ 104 ∧ 8388608 ≤ x.toNat % 2147483648 := by
  rcases h with h | ⟨h1, h2⟩
  · exact absurd h h0
  · have hf : FP.Core.FFin x := (FP.Core.fin_bits32 x).mpr h2
    obtain ⟨s, c, q, hv⟩ := hf
    have hfit : FP.Core.fits FP.Core.b32 (.fin s c q) := by rw [← hv]; exact FP.Core.val32_fits _
    obtain ⟨f1, f2, f3, f4⟩ := hfit
    refine ⟨s, c, q, hv, ?_, f1, f2, f3, h1⟩
    rcases f4 with f4 | f4
    · have hn : FP.Core.val32 x ≠ .nan := by rw [hv]; intro z; cases z
      have hz := FP.Core.zmag_bits32 hn
      rw [hv] at hz
      have e1 : FP.Core.zmag FP.Core.b32 (.fin s c q) = c := by
        show c * 2 ^ (q - FP.Core.b32.qmin).toNat = _
        rw [f4, Int.sub_self]
        exact Nat.mul_one c
      rw [e1] at hz
      rw [hz]
      have : FP.Core.unitsOf FP.Core.b32 8388608 ≤ FP.Core.unitsOf FP.Core.b32 (x.toNat % 2 ^ 31) := FP.Core.unitsOf_le_iff.mpr h1
      have e3 : FP.Core.unitsOf FP.Core.b32 8388608 = 8388608 := by decide +kernel
      omega
    · exact f4
theorem okF_d8' (v : Int32) : okF (FP.fdiv (FP.i2f v) 1090519040) := by
  by_cases h0 : v = 0
  · subst h0
    left
    decide +kernel
  · have hb := FP.Core.i2f_big (FP.Core.int32_ne h0)
    have hx : okF (FP.i2f v) := Or.inr ⟨by have := hb.1; show 8388608 ≤ (FP.Core.i2f v).toNat % 2147483648; omega, hb.2⟩
    have hne : FP.i2f v ≠ 0 := fun q => by
      have := hb.1
      have e : (FP.Core.i2f v).toNat = 0 := by rw [show FP.Core.i2f v = 0 from q]; rfl
      rw [e] at this
      omega
    obtain ⟨s, c, q, hv, hc, hc2, hq, hq2, _⟩ := okF_nz hx hne
    have hq3 : -23 ≤ q := by
      have hn : FP.Core.val32 (FP.i2f v) ≠ .nan := by rw [hv]; intro z; cases z
      have hz := FP.Core.zmag_bits32 hn
      rw [hv] at hz
      refine Int.not_lt.mp (fun hlt => ?_)
      have e1 : FP.Core.zmag FP.Core.b32 (.fin s c q) = c * 2 ^ (q + 149).toNat := by
        show c * 2 ^ (q - FP.Core.b32.qmin).toNat = _
        congr 2
      have h1 : FP.Core.unitsOf FP.Core.b32 (127 * 2 ^ 23) ≤ FP.Core.unitsOf FP.Core.b32 ((FP.i2f v).toNat % 2 ^ 31) := FP.Core.unitsOf_le_iff.mpr hb.1
      rw [← hz, e1] at h1
      have e3 : FP.Core.unitsOf FP.Core.b32 (127 * 2 ^ 23) = 8388608 * 2 ^ 126 := by decide +kernel
      rw [e3] at h1
      have h2 : c * 2 ^ (q + 149).toNat < 16777216 * 2 ^ 125 := by
        calc c * 2 ^ (q + 149).toNat ≤ c * 2 ^ 125 := Nat.mul_le_mul_left _ (Nat.pow_le_pow_right (by decide) (by omega))
          _ < 16777216 * 2 ^ 125 := Nat.mul_lt_mul_of_pos_right hc2 (by decide)
      omega
    have hd : FP.Core.val32 (FP.fdiv (FP.i2f v) 1090519040) = .fin s c (q - 3) := by
      rw [FP.Core.val32_fdiv, hv, f8_val]
      have hq9 : FP.Core.quotient FP.Core.b32 (.fin s c q) (.fin false 8388608 (-20)) = FP.Core.roundRatio FP.Core.b32 (s != false) c 8388608 (q - (-20)) := by
        rw [FP.Core.quotient]; exact if_neg (by decide)
      rw [hq9, show (s != false) = s by cases s <;> rfl]
      refine FP.Core.roundRatio_exact FP.Core.good_b32 (by decide) ⟨hc2, ?_, ?_, Or.inr hc⟩ ?_
      · show (-149 : Int) ≤ q - 3; omega
      · show q - 3 ≤ (104 : Int); omega
      · have e1 : (q - -20 - (q - 3)).toNat = 23 := by omega
        have e2 : (q - 3 - (q - -20)).toNat = 0 := by omega
        rw [e1, e2]
        omega
    refine okF_val hd ?_
    calc 8388608 ≤ c := hc
      _ = c * 1 := (Nat.mul_one c).symm
      _ ≤ c * 2 ^ (q - 3 + 149).toNat := Nat.mul_le_mul_left _ (Nat.two_pow_pos _)
