/-! ===== the model's side: words, four ===== -/
def foP (J : St) (k a rm : Nat) (j : Nat) : Bool := decide (¬ (wth (V J) a (4 * rm + j) (kd J (4 * rm + j))).toInt32 = J 19 k j)
def foM (J : St) (k a rm L : Nat) : Int32 := fow (foP J k a rm) L
theorem up3_up3 (I : St) (f i j : Nat) (x y : Int32) : up3 (up3 I f i j x) f i j y = up3 I f i j y := by
  funext f' i' j'
  simp only [up3]
  split <;> rfl
theorem up3_id {I : St} {f i j : Nat} {x : Int32} (h : x = I f i j) : up3 I f i j x = I := by
  funext f' i' j'
  simp only [up3]
  split
  · rename_i q; rw [q.1, q.2.1, q.2.2, h]
  · rfl
def kxP (J : St) (rm : Nat) : Nat → St
  | 0 => J
  | n + 1 => up3 J 16 0 (4 * rm) (nI n)
theorem kxP_s (J : St) (rm n : Nat) : up3 (kxP J rm n) 16 0 (4 * rm) (nI n) = kxP J rm (n + 1) := by
  cases n with
  | zero => rfl
  | succ n => exact up3_up3 _ _ _ _ _ _
theorem okK_up {J : St} (h : okK J) {o k : Nat} (hk : k < 6) : okK (up3 J 16 0 o (nI k)) := fun q hq => by
  by_cases e : q = o
  · subst e
    have e1 : up3 J 16 0 q (nI k) 16 0 q = nI k := up3_s _ _ _ _ _
    have e2 : kd (up3 J 16 0 q (nI k)) q = k := by rw [kd, e1]; exact nI_clamp (by omega)
    rw [e1, e2]
    exact ⟨rfl, hk⟩
  · have e1 : up3 J 16 0 o (nI k) 16 0 q = J 16 0 q := up3_n (fun z => e z.2.2)
    rw [kd, e1]
    exact h q hq
theorem foM_e {u v : St} {k a rm L : Nat} (h19 : ∀ j, u 19 k j = v 19 k j) (hk : ∀ o, kd u o = kd v o) (hw : ∀ o q, wth (V u) a o q = wth (V v) a o q) : foM u k a rm L = foM v k a rm L := by
  have e : foP u k a rm = foP v k a rm := by
    funext j
    rw [foP, foP, h19, hk, hw]
  rw [foM, foM, e]
theorem wth_V {u v : St} (h : ∀ f i j, f ≠ 10 → f ≠ 11 → u f i j = v f i j) {a : Nat} (hr : rowE u v a) (hM : okM v) (o k : Nat) : wth (V u) a o k = wth (V v) a o k :=
  wth_e (I := V v) (u := V u) (fun q => mk_e (I := V v) (u := V u) (fun _ => h _ _ _ (by decide) (by decide)) q) (fun _ => h _ _ _ (by decide) (by decide)) (fun _ => h _ _ _ (by decide) (by decide)) (fun _ => h _ _ _ (by decide) (by decide)) (fun q hq => (hr q hq).2) hM
/-- one message has come, in thought -/
def thM (J : St) (r q : Nat) : St := jn (cpy J 28 r) 28 (20 + q)
theorem sq_th {I v : St} (h : Sm gM I v) (r q : Nat) : Sm gM I (thM v r q) := sq_jn (sq_cpy h (by decide)) (by decide)
theorem th_foM {I v : St} (hu : Sm gM I v) (hM : okM I) {r q : Nat} (hr : r < 4) (hq : q < 6) (k rm L : Nat) : foM (thM v r q) k 28 rm L = foM (thM I r q) k 28 rm L := by
  have h2 : ∀ f i j, f ≠ 10 → f ≠ 11 → thM v r q f i j = thM I r q f i j := fun f i j a b => by
    rw [thM, thM, jn_n a b, jn_n a b, cpy_n a b, cpy_n a b]
    exact sq_e hu a b
  have hrow : ∀ a, a < 26 → rowE v I a := fun a ha j _ => ⟨sq_l hu ha, sq_l hu ha⟩
  have h0 : rowE (cpy v 28 r) (cpy I 28 r) 28 := fun j hj => by
    have := hrow r (by omega) j hj
    simp only [cpy, cpyP, hj]
    simpa using this
  have h3 : rowE (thM v r q) (thM I r q) 28 := rowE_jn h0 h0 (fun j hj => by
    rw [cpy_i (by omega), cpy_i (by omega), cpy_i (by omega), cpy_i (by omega)]
    exact hrow _ (by omega) j hj)
  exact foM_e (fun j => h2 _ _ _ (by decide) (by decide)) (fun o => kd_e (fun _ => h2 _ _ _ (by decide) (by decide)) o) (fun o k => wth_V h2 h3 (sq_M (sq_th (Sm.rf (P := gM) (I := I)) r q) hM) o k)
def tlP1 (J : St) (k a L : Nat) (q : Nat) : Bool := decide (foM J k q a L = -1)
def tlP2 (J : St) (k r a L : Nat) (q : Nat) : Bool := decide (foM (up3 J 16 0 (4 * a) (nI q)) k r a L = -1)
def tlP3 (J : St) (k r a L : Nat) (q : Nat) : Bool := decide (J 22 0 q = nI r) && decide (foM (thM J r q) k 28 a L = -1)
def tlM (J : St) (k r a w : Nat) : Int32 :=
  if 4 < sl (V J) k ∨ (w = 2 ∧ sl (V J) k = 0) then -2
  else if w = 0 then foM J k r a (sl (V J) k)
  else if w = 1 then bits (tlP1 J k a (sl (V J) k)) 4
  else if w = 2 then bits (tlP2 J k r a (sl (V J) k)) 6
  else bits (tlP3 J k r a (sl (V J) k)) (wt (V J))
def flM (J : St) (k r a n : Nat) : Nat → St
  | 0 => up3 (up3 J 23 0 k (nI 0)) 24 0 k (nI n)
  | i + 1 => up3 (flM J k r a n i) 19 k i (wth (V (flM J k r a n i)) r (4 * a + i) (kd (flM J k r a n i) (4 * a + i))).toInt32
theorem flM_n {J : St} {k r a n f i j : Nat} (h19 : f ≠ 19) (h23 : f ≠ 23) (h24 : f ≠ 24) : ∀ q, flM J k r a n q f i j = J f i j
  | 0 => by rw [flM, up3_f h24, up3_f h23]
  | q + 1 => by rw [flM, up3_f h19]; exact flM_n h19 h23 h24 q
def shM (J : St) (k : Nat) (so n : Int32) : St := shP (up3 (up3 J 23 0 k so) 24 0 k (if so < 0 then nI 0 else n)) k 40
def rfM (J : St) (s i : Int32) : Int32 := if okN (nI 4) s = true then (if J 23 0 (tn s) < 0 then -11 else if okN (J 24 0 (tn s)) i = true then nI 0 else -12) else -2
theorem rfM_0 {J : St} {s i : Int32} (hS : okS (V J)) (h : rfM J s i = 0) : ∃ k j, k < 4 ∧ s = nI k ∧ ¬ J 23 0 k < 0 ∧ i = nI j ∧ j < sl (V J) k ∧ sl (V J) k ≤ 40 := by
  rw [rfM] at h
  by_cases h1 : okN (nI 4) s = true
  · obtain ⟨k, hk, rfl⟩ := okN_nI (by decide) h1
    have ht : tn (nI k) = k := tn_nI (by omega)
    rw [if_pos h1, ht] at h
    have hs := hS k hk
    by_cases h2 : J 23 0 k < 0
    · rw [if_pos h2] at h; exact absurd h (by decide)
    · rw [if_neg h2] at h
      by_cases h3 : okN (J 24 0 k) i = true
      · have e : J 24 0 k = nI (sl (V J) k) := hs.1
        rw [e] at h3
        have := hs.2
        obtain ⟨j, hj, rfl⟩ := okN_nI (by omega) h3
        exact ⟨k, j, hk, rfl, h2, rfl, hj, hs.2⟩
      · rw [if_neg h3] at h; exact absurd h (by decide)
  · rw [if_neg h1] at h; exact absurd h (by decide)
def ptM (J : St) (k : Nat) (v : Int32) : Int32 := if J 23 0 k = 0 then v else (FP.fdiv (FP.i2f v) 1090519040).toInt32
theorem hl_V {J : St} {k : Nat} (hS : V J 7 k 1 = nI (sl (V J) k) ∧ sl (V J) k ≤ 40) {a n : Int32} (h1 : ¬ a < 0) (h2 : ¬ n < 0) (h3 : ¬ J 24 0 k - n < a) : hld (V J) k a n = true := by
  have e : V J 7 k 1 = J 24 0 k := rfl
  have h4 : ¬ J 24 0 k < n := fun q => h3 (by
    rw [← e, hS.1] at q ⊢
    obtain ⟨n9, hn, rfl⟩ := nI_of h2
    obtain ⟨a9, ha, rfl⟩ := nI_of h1
    have hL := hS.2
    generalize sl (V J) k = L at *
    rw [Int32.lt_iff_toInt_lt, nI_toInt (by omega), nI_toInt hn] at q
    rw [Int32.lt_iff_toInt_lt, nI_toInt ha, Int32.toInt_sub, nI_toInt (by omega), nI_toInt hn, Int.bmod_eq_of_le (by omega) (by omega)]
    omega)
  simp [hld, e, h1, h2, h3, h4]
def cprM (J : St) (k : Nat) (i : Int32) (o : Nat) (j n : Int32) : Int32 := if J 23 0 k < 0 ∨ J 23 0 o < 0 then -11 else if ¬ J 23 0 k = J 23 0 o then -13 else if n < 0 ∨ i < 0 ∨ j < 0 ∨ J 24 0 k - n < i ∨ J 24 0 o - n < j then -12 else n
def cpsM (J : St) (k : Nat) (i : Int32) (o : Nat) (j n : Int32) : St := if J 23 0 k < 0 ∨ J 23 0 o < 0 then J else if ¬ J 23 0 k = J 23 0 o then J else if n < 0 ∨ i < 0 ∨ j < 0 ∨ J 24 0 k - n < i ∨ J 24 0 o - n < j then J else cp3 (cp3 J 19 k 25 0 (tn i) 0 (tn n)) 25 0 19 o 0 (tn j) (tn n)
