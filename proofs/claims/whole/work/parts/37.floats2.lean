/-! ===== floats, two: eighths, sums, means ===== -/
theorem okF_val {y : UInt32} {s : Bool} {c : Nat} {q : Int} (h : FP.Core.val32 y = .fin s c q) (hc : 8388608 ≤ c * 2 ^ (q + 149).toNat) : okF y := by
  right
  have hn : FP.Core.val32 y ≠ .nan := by rw [h]; intro z; cases z
  have hz := FP.Core.zmag_bits32 hn
  have hf : FP.Core.FFin y := by
    unfold FP.Core.FFin
    exact ⟨s, c, q, h⟩
  have hlt := (FP.Core.fin_bits32 y).mp hf
  rw [h] at hz
  have e1 : FP.Core.zmag FP.Core.b32 (.fin s c q) = c * 2 ^ (q + 149).toNat := by
    show c * 2 ^ (q - FP.Core.b32.qmin).toNat = _
    congr 2
  rw [e1] at hz
  refine ⟨?_, hlt⟩
  refine Nat.le_of_not_lt (fun hm => ?_)
  have e2 : FP.Core.unitsOf FP.Core.b32 (y.toNat % 2 ^ 31) = y.toNat % 2 ^ 31 := by
    unfold FP.Core.unitsOf
    exact if_pos hm
  rw [e2] at hz
  have hm' : y.toNat % 2 ^ 31 < 8388608 := hm
  omega
theorem f8_val : FP.Core.val32 1090519040 = .fin false 8388608 (-20) := by decide +kernel
theorem okF_nz {x : UInt32} (h : okF x) (h0 : x ≠ 0) : ∃ s c q, FP.Core.val32 x = .fin s c q ∧ 8388608 ≤ c ∧ c < 16777216 ∧ (-149 : Int) ≤ q ∧ q ≤ 104 ∧ 8388608 ≤ x.toNat % 2147483648 := by
  rcases h with h | ⟨h1, h2⟩
  · exact absurd h h0
  · have hf : FP.Core.FFin x := (FP.Core.fin_bits32 x).mpr h2
    obtain ⟨s, c, q, hv⟩ := hf
    have hfit : FP.Core.fits FP.Core.b32 (.fin s c q) := by rw [← hv]; exact FP.Core.val32_fits _
    obtain ⟨f1, f2, f3, f4⟩ := hfit
    refine ⟨s, c, q, hv, ?_, f1, f2, f3, h1⟩
    rcases f4 with f4 | f4
    · have hn : FP.Core.val32 x ≠ .nan := by rw [hv]; intro z; cases z
      have hz := FP.Core.zmag_bits32 hn
      rw [hv] at hz
      have e1 : FP.Core.zmag FP.Core.b32 (.fin s c q) = c := by
        show c * 2 ^ (q - FP.Core.b32.qmin).toNat = _
        rw [f4, Int.sub_self]
        exact Nat.mul_one c
      rw [e1] at hz
      rw [hz]
      have : FP.Core.unitsOf FP.Core.b32 8388608 ≤ FP.Core.unitsOf FP.Core.b32 (x.toNat % 2 ^ 31) := FP.Core.unitsOf_le_iff.mpr h1
      have e3 : FP.Core.unitsOf FP.Core.b32 8388608 = 8388608 := by decide +kernel
      omega
    · exact f4
