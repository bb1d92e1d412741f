/-! ===== small rows for the walks ===== -/
def bI (b : Bool) : Int32 := if b then 1 else 0
theorem bI_0 {b : Bool} : bI b = 0 ↔ b = false := by cases b <;> simp [bI]
theorem bI_1 {b : Bool} : ¬ bI b = 0 ↔ b = true := by cases b <;> simp [bI]
def okN (k x : Int32) : Bool := !decide (x < 0) && !decide (k ≤ x)
theorem okN_nI {k : Nat} (hk : k < 2147483648) {x : Int32} (h : okN (nI k) x = true) : ∃ n, n < k ∧ x = nI n := by
  simp only [okN, Bool.and_eq_true, Bool.not_eq_true', decide_eq_false_iff_not] at h
  obtain ⟨j, hj, rfl⟩ := nI_of h.1
  exact ⟨j, Nat.not_le.mp (fun q => h.2 ((nI_leI (by omega) hj).mpr q)), rfl⟩
theorem okN_of {k n : Nat} (hk : k < 2147483648) (hn : n < k) : okN (nI k) (nI n) = true := by
  simp only [okN, Bool.and_eq_true, Bool.not_eq_true', decide_eq_false_iff_not]
  exact ⟨nI_pos (by omega), nI_ge hn (by omega)⟩
theorem okAnd {a b : Bool} (h : (a && b) = true) : a = true ∧ b = true := by simpa using h
theorem nI_inc (a k : Nat) : nI a + Int32.ofInt k = nI (a + k) := nI_add a k
theorem sw_out (x : Int32) (k : Nat) (hk : k < 2147483648) (h : ∀ j, j ≤ k → ¬ x = nI j) : x.toInt < 0 ∨ (k : Int) < x.toInt := by
  rcases Int.lt_or_le x.toInt 0 with q | q
  · exact Or.inl q
  · right
    obtain ⟨j, hj, rfl⟩ := nI_of (x := x) (fun z => by
      rw [Int32.lt_iff_toInt_lt, Int32.toInt_zero] at z
      omega)
    rw [nI_toInt hj]
    rcases Nat.lt_or_ge k j with r | r
    · omega
    · exact absurd rfl (h j r)
theorem sw_out3 {x : Int32} (h0 : ¬ x = nI 0) (h1 : ¬ x = nI 1) (h2 : ¬ x = nI 2) : x.toInt < 0 ∨ 2 < x.toInt := sw_out x 2 (by decide) (fun j hj => by
  rcases (by omega : j = 0 ∨ j = 1 ∨ j = 2) with rfl | rfl | rfl <;> assumption)
theorem sw_out4 {x : Int32} (h0 : ¬ x = nI 0) (h1 : ¬ x = nI 1) (h2 : ¬ x = nI 2) (h3 : ¬ x = nI 3) : x.toInt < 0 ∨ 3 < x.toInt := sw_out x 3 (by decide) (fun j hj => by
  rcases (by omega : j = 0 ∨ j = 1 ∨ j = 2 ∨ j = 3) with rfl | rfl | rfl | rfl <;> assumption)
theorem sw_out5 {x : Int32} (h0 : ¬ x = nI 0) (h1 : ¬ x = nI 1) (h2 : ¬ x = nI 2) (h3 : ¬ x = nI 3) (h4 : ¬ x = nI 4) : x.toInt < 0 ∨ 4 < x.toInt := sw_out x 4 (by decide) (fun j hj => by
  rcases (by omega : j = 0 ∨ j = 1 ∨ j = 2 ∨ j = 3 ∨ j = 4) with rfl | rfl | rfl | rfl | rfl <;> assumption)
theorem sw_out6 {x : Int32} (h0 : ¬ x = nI 0) (h1 : ¬ x = nI 1) (h2 : ¬ x = nI 2) (h3 : ¬ x = nI 3) (h4 : ¬ x = nI 4) (h5 : ¬ x = nI 5) : x.toInt < 0 ∨ 5 < x.toInt := sw_out x 5 (by decide) (fun j hj => by
  rcases (by omega : j = 0 ∨ j = 1 ∨ j = 2 ∨ j = 3 ∨ j = 4 ∨ j = 5) with rfl | rfl | rfl | rfl | rfl | rfl <;> assumption)
theorem narB {x : Int32} {b : Bool} (h : x = bI b) : narrow .boolean (.int x) = .int x := by
  subst h
  cases b <;> decide
/-- the unsigned shift, as the machine has it -/
def us (x y : Int32) : Int32 := (x.toUInt32 >>> (y.toUInt32 &&& Int32.toUInt32 31)).toInt32
/-- Integer.bitCount, as it is computed -/
def bc1 (a : Int32) : Int32 := a - (us a (nI 1) &&& 1431655765)
def bc2 (a : Int32) : Int32 := (a &&& 858993459) + (us a (nI 2) &&& 858993459)
def bc3 (a : Int32) : Int32 := (a + us a (nI 4)) &&& 252645135
def bc4 (a : Int32) : Int32 := a + us a (nI 8)
def bc5 (a : Int32) : Int32 := a + us a (nI 16)
def bc (a : Int32) : Int32 := bc5 (bc4 (bc3 (bc2 (bc1 a)))) &&& nI 63
/-- a store is emptied, takes another's place, is joined with another: the first n columns -/
def clrP (I : St) (s n : Nat) : St := fun f i j => if (f = 10 ∨ f = 11) ∧ i = s ∧ j < n then 0 else I f i j
def cpyP (I : St) (s w n : Nat) : St := fun f i j => if (f = 10 ∨ f = 11) ∧ i = s ∧ j < n then I f w j else I f i j
def jH (I : St) (s w j : Nat) : Int32 := I 10 s j ||| I 10 w j
def jA (I : St) (s w j : Nat) : Int32 := ((I 11 s j &&& I 11 w j) ||| (I 11 s j &&& (I 10 w j ^^^ (-1)))) ||| (I 11 w j &&& (I 10 s j ^^^ (-1)))
def jnP (I : St) (s w n : Nat) : St := fun f i j => if i = s ∧ j < n ∧ f = 10 then jH I s w j else if i = s ∧ j < n ∧ f = 11 then jA I s w j else I f i j
def clr (I : St) (s : Nat) : St := clrP I s 4
def cpy (I : St) (s w : Nat) : St := cpyP I s w 4
def jn (I : St) (s w : Nat) : St := jnP I s w 4
/-- bits in the first n of a row -/
def bcs (r : Nat → Int32) : Nat → Int32
  | 0 => nI 0
  | n + 1 => bcs r n + bc (r n)
/-- how many bits are otherwise -/
def oth (a b : Nat → Int32) : Nat → Int32 := bcs (fun j => a j ^^^ b j)
