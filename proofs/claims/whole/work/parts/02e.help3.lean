/-! ===== rows for the calls, two ===== -/
theorem rngl {x : Int32} {k : Nat} (hk : k < 2147483648) (h1 : ¬ x < 0) (h2 : x < nI k) : ∃ n, n < k ∧ x = nI n := by
  obtain ⟨j, hj, rfl⟩ := nI_of h1
  exact ⟨j, (nI_ltI hj hk).mp h2, rfl⟩
def dtv (I : St) (p : Nat) (w : Int32) : Int32 := if w = 0 then I 13 0 p else if w = nI 1 then I 14 0 p else nI 10 * (I 15 0 p / nI 4) + (I 15 0 p - I 15 0 p / nI 4 * nI 4)
def hsS (I : St) (r o : Nat) (v : Int32) : St := mb (clr I 33) r o v v 33
def ndv (b : Int32) (w : Int32) : Int32 := if b = -1 then -1 else if w = 0 then bc b else b
/-- rows of stores that are alike -/
def rowE (u v : St) (a : Nat) : Prop := ∀ j, j < 4 → u 10 a j = v 10 a j ∧ u 11 a j = v 11 a j
theorem rowE_cpy {u v : St} {s w a : Nat} (h : rowE u v a) (hw : rowE u v w) : rowE (cpy u s w) (cpy v s w) a := fun j hj => by
  by_cases e : a = s
  · subst e
    simp [cpy, cpyP, hj, (hw j hj).1, (hw j hj).2]
  · rw [cpy_i e, cpy_i e, cpy_i e, cpy_i e]; exact h j hj
theorem rowE_jn {u v : St} {s w a : Nat} (h : rowE u v a) (hs : rowE u v s) (hw : rowE u v w) : rowE (jn u s w) (jn v s w) a := fun j hj => by
  by_cases e : a = s
  · subst e
    simp [jn, jnP, jH, jA, hj, (hw j hj).1, (hw j hj).2, (hs j hj).1, (hs j hj).2]
  · rw [jn_i e, jn_i e, jn_i e, jn_i e]; exact h j hj
theorem rowE_clr {u v : St} {s a : Nat} (h : a ≠ s → rowE u v a) : rowE (clr u s) (clr v s) a := fun j hj => by
  by_cases e : a = s
  · subst e
    simp [clr, clrP, hj]
  · rw [clr_i e, clr_i e, clr_i e, clr_i e]; exact h e j hj
theorem adP_hi {u : St} {a : Nat} (ha : a < 35) {f j : Nat} : ∀ n, adP u n f a j = u f a j
  | 0 => rfl
  | n + 1 => (cpy_i (by omega)).trans (adP_hi ha n)
theorem rowE_adP {u v : St} (h : ∀ a, a < 4 → rowE u v a) : ∀ n k, n ≤ 4 → k < n → rowE (adP u n) (adP v n) (k + 35)
  | 0, _, _, hk => absurd hk (Nat.not_lt_zero _)
  | n + 1, k, hn, hk => fun j hj => by
    show cpy (adP u n) (n + 35) n 10 (k + 35) j = cpy (adP v n) (n + 35) n 10 (k + 35) j ∧ cpy (adP u n) (n + 35) n 11 (k + 35) j = cpy (adP v n) (n + 35) n 11 (k + 35) j
    by_cases e : k = n
    · subst e
      have h9 := h k (by omega) j hj
      simp [cpy, cpyP, hj, adP_hi (show k < 35 by omega), h9.1, h9.2]
    · rw [cpy_i (by omega), cpy_i (by omega), cpy_i (by omega), cpy_i (by omega)]
      exact rowE_adP h n k (by omega) (by omega) j hj
theorem rowE_dwP {u v : St} (h : ∀ a, a < 4 → rowE u v a) (z : Int32) : ∀ n k, k < 4 → rowE (dwP u z n) (dwP v z n) (k + 35)
  | 0, k, hk => rowE_adP h 4 k (by omega) hk
  | n + 1, k, hk => rowE_jn (rowE_dwP h z n k hk) (rowE_dwP h z n _ (rd_lt _)) (rowE_dwP h z n _ (rd_lt _))
theorem rowE_mtP {u v : St} {b : Nat} (hb : b + 3 < 32 ∨ 32 < b) (h : ∀ a, a < 4 → rowE u v (a + b)) : ∀ n, n ≤ 4 → rowE (mtP u b n) (mtP v b n) 32 ∧ ∀ a, a < 4 → rowE (mtP u b n) (mtP v b n) (a + b)
  | 0, _ => ⟨rowE_clr (fun q => absurd rfl q), fun a ha => rowE_clr (fun _ => h a ha)⟩
  | n + 1, hn => by
    obtain ⟨h1, h2⟩ := rowE_mtP hb h n (by omega)
    exact ⟨rowE_jn h1 h1 (h2 n (by omega)), fun a ha => rowE_jn (h2 a ha) h1 (h2 n (by omega))⟩
theorem same0_e {u v : St} {a b : Nat} (ha : rowE u v a) (hb : rowE u v b) : same0 u a b = same0 v a b := by
  have e1 : oth (u 10 a) (u 10 b) 4 = oth (v 10 a) (v 10 b) 4 := by
    simp only [oth, bcs, ha 0 (by decide), ha 1 (by decide), ha 2 (by decide), ha 3 (by decide), hb 0 (by decide), hb 1 (by decide), hb 2 (by decide), hb 3 (by decide)]
  have e2 : oth (u 11 a) (u 11 b) 4 = oth (v 11 a) (v 11 b) 4 := by
    simp only [oth, bcs, ha 0 (by decide), ha 1 (by decide), ha 2 (by decide), ha 3 (by decide), hb 0 (by decide), hb 1 (by decide), hb 2 (by decide), hb 3 (by decide)]
  rw [same0, same0, e1, e2]
theorem cntS_e {u v : St} {b : Nat} (hb : b + 3 < 32 ∨ 32 < b) (h : ∀ a, a < 4 → rowE u v (a + b)) : ∀ n, n ≤ 4 → cntS u b n = cntS v b n
  | 0, _ => rfl
  | n + 1, hn => by
    obtain ⟨h1, h2⟩ := rowE_mtP hb h 4 (by omega)
    rw [cntS, cntS, same0_e (h2 n (by omega)) h1, cntS_e hb h n (by omega)]
theorem Sm.row {I v : St} (hu : Sm gC I v) {a : Nat} (ha : a < 32) : rowE v I a := fun j _ => ⟨hu 10 a j (gC_lo (by decide) ha), hu 11 a j (gC_lo (by decide) ha)⟩
theorem dw_cnt {I v : St} (hu : Sm gC I v) (z : Int32) (n : Nat) : cntS (dwP v z n) 35 4 = cntS (dwP I z n) 35 4 :=
  cntS_e (Or.inr (by decide)) (fun a ha => rowE_dwP (fun a ha => hu.row (by omega)) z n a ha) 4 (by omega)
def chc (I : St) (z : Int32) : Nat → Nat
  | 0 => 0
  | n + 1 => if cntS (dwP I (z + nI n) 8) 35 4 = 4 then chc I z n + 1 else chc I z n
theorem chc_le (I : St) (z : Int32) : ∀ n, chc I z n ≤ n
  | 0 => Nat.le_refl 0
  | n + 1 => by
    have := chc_le I z n
    rw [chc]
    split <;> omega
theorem gdv_b (m g : Nat) : ∀ d, 0 < gdv m g d ∧ gdv m g d ≤ d + 1
  | 0 => ⟨by simp [gdv], by simp [gdv]⟩
  | d + 1 => by
    have := gdv_b m g d
    rw [gdv]
    split
    · omega
    · split <;> omega
def chv (I : St) (z : Int32) (m w : Nat) : Int32 := nI ((if w = 0 then chc I z m else m) / gdv m (chc I z m) m)
theorem okN_a {k x : Int32} (h : x < 0) : okN k x = false := by simp [okN, h]
theorem okN_b {k x : Int32} (h : ¬ x < k) : okN k x = false := by
  have := Int32.not_lt.mp h
  simp [okN, this]
theorem okR_y {lo hi x : Int32} (h1 : ¬ x < lo) (h2 : x ≤ hi) : okR lo hi x = true := by
  have := Int32.not_lt.mpr h2
  simp [okR, h1, this]
