/-! ===== the model's side: words, five ===== -/
def tgrM (J : St) (r : Nat) (d : Int32) : Nat → Int32
  | 0 => d
  | n + 1 => tgrM J r d n + bc (tgM J r n)
def tgsM (J : St) : Nat → Int32
  | 0 => nI 0
  | r + 1 => tgrM J r (tgsM J r) 4
def cnM (J : St) (w : Int32) : Int32 := if w = nI 0 then mads J 4 else if w = nI 1 then J 0 0 8 else if w = nI 2 then nI (cntM (mtM J 3) 0 4) else if w = nI 3 then bcs (mtM J 3 11 26) 4 else if w = nI 4 then tgsM J 4 else -2
/-- rows are copied -/
def alM (J : St) (a b n : Nat) : St := fun f i j => if f = b ∧ i < n ∧ j < 4 then J a i j else J f i j
theorem alM_0 (J : St) (a b : Nat) : alM J a b 0 = J := by funext f i j; simp [alM]
theorem alM_s {J : St} {a b : Nat} (h : a ≠ b) (n : Nat) : cp3 (alM J a b n) a n b n 0 0 4 = alM J a b (n + 1) := by
  funext f i j
  simp only [cp3, alM, h]
  grind
theorem alM_n {J : St} {a b n f i j : Nat} (h : f ≠ b) : alM J a b n f i j = J f i j := by simp [alM, h]
def im1 (J : St) : St := cp3 (cp3 (cp3 (cp3 (up3 (up3 J 0 0 12 (nI 1)) 0 0 13 (up3 J 0 0 12 (nI 1) 0 0 8)) 12 0 26 0 0 0 4) 16 0 27 0 0 0 12) 21 0 28 0 0 0 6) 22 0 29 0 0 0 6
def imD (S : St) : Nat → St
  | 0 => S
  | n + 1 => cp3 (cp3 (cp3 (imD S n) 13 n 30 n 0 0 31) 14 n 30 (4 + n) 0 0 31) 15 n 30 (8 + n) 0 0 31
theorem imD_n {S : St} {f i j : Nat} (h : f ≠ 30) : ∀ n, imD S n f i j = S f i j
  | 0 => rfl
  | n + 1 => by rw [imD, cp3_n h, cp3_n h, cp3_n h]; exact imD_n h n
def imM (J : St) : St := alM (alM (alM (alM (imD (im1 J) 4) 10 31 33) 11 32 33) 17 33 16) 18 34 6
theorem imM_8 (J : St) : imM J 0 0 8 = J 0 0 8 := by
  rw [imM, alM_n (by decide), alM_n (by decide), alM_n (by decide), alM_n (by decide), imD_n (by decide), im1, cp3_n (by decide), cp3_n (by decide), cp3_n (by decide), cp3_n (by decide)]
  simp [up3]
def bk1 (J : St) : St := cp3 (cp3 (cp3 (cp3 (up3 J 0 0 8 (J 0 0 13)) 26 0 12 0 0 0 4) 27 0 16 0 0 0 12) 28 0 21 0 0 0 6) 29 0 22 0 0 0 6
def bkD (S : St) : Nat → St
  | 0 => S
  | n + 1 => cp3 (cp3 (cp3 (bkD S n) 30 n 13 n 0 0 31) 30 (4 + n) 14 n 0 0 31) 30 (8 + n) 15 n 0 0 31
theorem bkD_n {S : St} {f i j : Nat} (h13 : f ≠ 13) (h14 : f ≠ 14) (h15 : f ≠ 15) : ∀ n, bkD S n f i j = S f i j
  | 0 => rfl
  | n + 1 => by rw [bkD, cp3_n h15, cp3_n h14, cp3_n h13]; exact bkD_n h13 h14 h15 n
def bkM (J : St) : St := alM (alM (alM (alM (bkD (bk1 J) 4) 31 10 33) 32 11 33) 33 17 16) 34 18 6
theorem bkM_8 (J : St) : bkM J 0 0 8 = J 0 0 13 := by
  rw [bkM, alM_n (by decide), alM_n (by decide), alM_n (by decide), alM_n (by decide), bkD_n (by decide) (by decide) (by decide), bk1, cp3_n (by decide), cp3_n (by decide), cp3_n (by decide), cp3_n (by decide)]
  simp [up3]
