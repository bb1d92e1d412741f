/-! ===== the places of what is made, one behind another ===== -/
def offS (s : Nat) : Nat := if s < 4 then 13 + 3 * s else if s < 20 then 25 + 3 * (s - 4) else if s < 26 then 74 + 5 * (s - 20) else if s < 32 then 176 + 5 * (s - 26) else if s = 32 then 209 else if s = 33 then 206 else if s = 34 then 212 else if s < 39 then 224 + 3 * (s - 35) else if s < 43 then 115 + 3 * (s - 39) else 127 + 3 * (s - 43)
def offQ (q : Nat) : Nat := if q < 6 then 73 + 5 * q else 175 + 5 * (q - 6)
def offC (f i : Nat) : Nat := match f with
  | 0 => 0
  | 1 => 1 + 102 * i
  | 2 => 205
  | 3 => if i = 4 then 215 else 9 + 102 * (i / 2) + i % 2
  | 4 => offS i
  | 5 => 2 + 102 * i
  | 6 => 12 + 102 * i
  | 7 => 216 + 2 * i
  | 8 => offQ i
  | 10 => offS i + 1
  | 11 => offS i + 2
  | 12 => 3 + 102 * i
  | 13 => 4 + 102 * i
  | 14 => 5 + 102 * i
  | 15 => 6 + 102 * i
  | 16 => 8 + 102 * i
  | 17 => 11 + 102 * i
  | 18 => offQ i + 4
  | 19 => 217 + 2 * i
  | 20 => 7 + 102 * i
  | _ => 1000 + f
abbrev adC (b : Nat) : Nat → Nat → Nat := fun f i => b + offC f i
def offM (f i : Nat) : Nat := match f with
  | 0 => 0
  | 10 => 19 + i
  | 11 => 53 + i
  | 12 => 1 + i
  | 13 => 3 + i
  | 14 => 8 + i
  | 15 => 13 + i
  | 16 => 17 + i
  | 17 => 87 + i
  | 18 => 106 + i
  | 19 => 224 + i
  | 21 => 103 + i
  | 22 => 104 + i
  | 23 => 221 + i
  | 24 => 222 + i
  | 25 => 228 + i
  | 26 => 112 + i
  | 27 => 113 + i
  | 28 => 114 + i
  | 29 => 115 + i
  | 30 => 117 + i
  | 31 => 130 + i
  | 32 => 164 + i
  | 33 => 198 + i
  | 34 => 215 + i
  | 1 => (match i with | 0 => 2 | 1 => 7 | 2 => 12 | 3 => 18 | 4 => 52 | 5 => 86 | 6 => 105 | 7 => 116 | 8 => 129 | 9 => 163 | 10 => 197 | 11 => 214 | _ => 223)
  | _ => 1000 + f
abbrev aoM (b : Nat) : Nat → Nat → Nat := fun f i => b + offM f i
theorem oO_of {L : List (Nat × Nat)} {off : Nat → Nat → Nat} (h : ∀ x, x ∈ L → L.find? (fun y => off y.1 y.2 == off x.1 x.2) = some x) : oO L off := fun x hx y hy e => by
  have h1 := h x hx
  have h2 := h y hy
  rw [e] at h1
  exact Option.some.inj (h1.symm.trans h2)
theorem oC : oO LC offC := oO_of (by decide +kernel)
theorem oM : oO LM offM := oO_of (by decide +kernel)
theorem ltC : ∀ x, x ∈ LC → offC x.1 x.2 < 236 := by decide +kernel
theorem ltMo : ∀ x, x ∈ LM → offM x.1 x.2 < 229 := by decide +kernel
theorem ndC : LC.Nodup := by decide +kernel
theorem ndM' : LM.Nodup := by decide +kernel
theorem oN : ∀ n, n < 2 → offC 3 (2 * n) = 9 + 102 * n ∧ offC 3 (2 * n + 1) = 10 + 102 * n := by decide +kernel
theorem oB : ∀ n, n < 2 → bSt (2 * n) ≤ 39 ∧ bSt (2 * n + 1) ≤ 43 := by decide +kernel
theorem oSt : ∀ n, n < 2 → ∀ j, j < 4 → offC 4 (j + bSt (2 * n)) = 13 + 102 * n + 3 * j ∧ offC 10 (j + bSt (2 * n)) = 13 + 102 * n + 3 * j + 1 ∧ offC 11 (j + bSt (2 * n)) = 13 + 102 * n + 3 * j + 2 := by decide +kernel
theorem oPc : ∀ n, n < 2 → ∀ j, j < 16 → offC 4 (j + bSt (2 * n + 1)) = 25 + 102 * n + 3 * j ∧ offC 10 (j + bSt (2 * n + 1)) = 25 + 102 * n + 3 * j + 1 ∧ offC 11 (j + bSt (2 * n + 1)) = 25 + 102 * n + 3 * j + 2 := by decide +kernel
theorem oMs : ∀ n, n < 2 → ∀ j, j < 6 → offC 8 (j + 6 * n) = 73 + 102 * n + 5 * j ∧ offC 4 (j + 6 * n + 20) = 73 + 102 * n + 5 * j + 1 ∧ offC 10 (j + 6 * n + 20) = 73 + 102 * n + 5 * j + 2 ∧ offC 11 (j + 6 * n + 20) = 73 + 102 * n + 5 * j + 3 ∧ offC 18 (j + 6 * n) = 73 + 102 * n + 5 * j + 4 := by decide +kernel
theorem oTh : ∀ j, j < 4 → offC 4 (j + 35) = 224 + 3 * j ∧ offC 10 (j + 35) = 224 + 3 * j + 1 ∧ offC 11 (j + 35) = 224 + 3 * j + 2 := by decide +kernel
theorem oSh : ∀ j, j < 4 → offC 7 j = 216 + 2 * j ∧ offC 19 j = 216 + 2 * j + 1 := by decide +kernel
def rfP (g : Nat → Nat) (m : Nat) : Nat → Option Nat := fun j => if j < m then some (g j) else none
theorem rfP_0 (g : Nat → Nat) : rfP g 0 = fun _ => none := by funext j; simp [rfP]
theorem rfP_e {g : Nat → Nat} {m q : Nat} (h : q < m) : rfP g m q = some (g q) := by simp [rfP, h]
theorem rfP_s {g : Nat → Nat} {j : Nat} : va_up (rfP g j) j (some (g j)) = rfP g (j + 1) := by
  funext q
  by_cases e : q = j
  · subst e; simp [va_up, rfP]
  · have : q < j + 1 ↔ q < j := by omega
    simp [va_up, rfP, e, this]
theorem PK_all {D : va_G} {L : List (Nat × Nat)} {off : Nat → Nat → Nat} {b k : Nat} {σ : Cont} {H : Heap} (h : PK D L off b k σ H) (hl : ∀ x, x ∈ L → off x.1 x.2 < k) : va_P D vwCl (wS L (fun f i => b + off f i) σ) H := fun j q hj => by
  obtain ⟨x, hx, rfl⟩ := wS_at hj
  have hm := List.mem_of_getElem? hx
  exact h.2 x hm (hl x hm)
theorem wI_of {L : List (Nat × Nat)} {off : Nat → Nat → Nat} (hn : L.Nodup) (hO : oO L off) (b : Nat) : wI L (fun f i => b + off f i) := ⟨hn, fun x hx y hy e => hO x hx y hy (by have e : b + off x.1 x.2 = b + off y.1 y.2 := e; omega)⟩
