/-! ===== small rows for the walks ===== -/
def bI (b : Bool) : Int32 := if b then 1 else 0
theorem bI_0 {b : Bool} : bI b = 0 ↔ b = false := by cases b <;> simp [bI]
theorem bI_1 {b : Bool} : ¬ bI b = 0 ↔ b = true := by cases b <;> simp [bI]
def okN (k x : Int32) : Bool := !decide (x < 0) && !decide (k ≤ x)
theorem okN_nI {k : Nat} (hk : k < 2147483648) {x : Int32} (h : okN (nI k) x = true) : ∃ n, n < k ∧ x = nI n := by
  simp only [okN, Bool.and_eq_true, Bool.not_eq_true', decide_eq_false_iff_not] at h
  obtain ⟨j, hj, rfl⟩ := nI_of h.1
  exact ⟨j, Nat.not_le.mp (fun q => h.2 ((nI_leI (by omega) hj).mpr q)), rfl⟩
theorem okN_of {k n : Nat} (hk : k < 2147483648) (hn : n < k) : okN (nI k) (nI n) = true := by
  simp only [okN, Bool.and_eq_true, Bool.not_eq_true', decide_eq_false_iff_not]
  exact ⟨nI_pos (by omega), nI_ge hn (by omega)⟩
theorem okAnd {a b : Bool} (h : (a && b) = true) : a = true ∧ b = true := by simpa using h
theorem nI_inc (a k : Nat) : nI a + Int32.ofInt k = nI (a + k) := nI_add a k
theorem sw_out (x : Int32) (k : Nat) (hk : k < 2147483648) (h : ∀ j, j ≤ k → ¬ x = nI j) : x.toInt < 0 ∨ (k : Int) < x.toInt := by
  rcases Int.lt_or_le x.toInt 0 with q | q
  · exact Or.inl q
  · right
    obtain ⟨j, hj, rfl⟩ := nI_of (x := x) (fun z => by
      rw [Int32.lt_iff_toInt_lt, Int32.toInt_zero] at z
      omega)
    rw [nI_toInt hj]
    rcases Nat.lt_or_ge k j with r | r
    · omega
    · exact absurd rfl (h j r)
theorem sw_out3 {x : Int32} (h0 : ¬ x = nI 0) (h1 : ¬ x = nI 1) (h2 : ¬ x = nI 2) : x.toInt < 0 ∨ 2 < x.toInt := sw_out x 2 (by decide) (fun j hj => by
  rcases (by omega : j = 0 ∨ j = 1 ∨ j = 2) with rfl | rfl | rfl <;> assumption)
theorem sw_out4 {x : Int32} (h0 : ¬ x = nI 0) (h1 : ¬ x = nI 1) (h2 : ¬ x = nI 2) (h3 : ¬ x = nI 3) : x.toInt < 0 ∨ 3 < x.toInt := sw_out x 3 (by decide) (fun j hj => by
  rcases (by omega : j = 0 ∨ j = 1 ∨ j = 2 ∨ j = 3) with rfl | rfl | rfl | rfl <;> assumption)
theorem sw_out5 {x : Int32} (h0 : ¬ x = nI 0) (h1 : ¬ x = nI 1) (h2 : ¬ x = nI 2) (h3 : ¬ x = nI 3) (h4 : ¬ x = nI 4) : x.toInt < 0 ∨ 4 < x.toInt := sw_out x 4 (by decide) (fun j hj => by
  rcases (by omega : j = 0 ∨ j = 1 ∨ j = 2 ∨ j = 3 ∨ j = 4) with rfl | rfl | rfl | rfl | rfl <;> assumption)
theorem sw_out6 {x : Int32} (h0 : ¬ x = nI 0) (h1 : ¬ x = nI 1) (h2 : ¬ x = nI 2) (h3 : ¬ x = nI 3) (h4 : ¬ x = nI 4) (h5 : ¬ x = nI 5) : x.toInt < 0 ∨ 5 < x.toInt := sw_out x 5 (by decide) (fun j hj => by
  rcases (by omega : j = 0 ∨ j = 1 ∨ j = 2 ∨ j = 3 ∨ j = 4 ∨ j = 5) with rfl | rfl | rfl | rfl | rfl | rfl <;> assumption)
theorem narB {x : Int32} {b : Bool} (h : x = bI b) : narrow .boolean (.int x) = .int x := by
  subst h
  cases b <;> decide
/-- the unsigned shift, as the machine has it -/
def us (x y : Int32) : Int32 := (x.toUInt32 >>> (y.toUInt32 &&& Int32.toUInt32 31)).toInt32
/-- Integer.bitCount, as it is computed -/
def bc1 (a : Int32) : Int32 := a - (us a (nI 1) &&& 1431655765)
def bc2 (a : Int32) : Int32 := (a &&& 858993459) + (us a (nI 2) &&& 858993459)
def bc3 (a : Int32) : Int32 := (a + us a (nI 4)) &&& 252645135
def bc4 (a : Int32) : Int32 := a + us a (nI 8)
def bc5 (a : Int32) : Int32 := a + us a (nI 16)
def bc (a : Int32) : Int32 := bc5 (bc4 (bc3 (bc2 (bc1 a)))) &&& nI 63
/-- a store is emptied, takes another's place, is joined with another: the first n columns -/
def clrP (I : St) (s n : Nat) : St := fun f i j => if (f = 10 ∨ f = 11) ∧ i = s ∧ j < n then nI 0 else I f i j
def cpyP (I : St) (s w n : Nat) : St := fun f i j => if (f = 10 ∨ f = 11) ∧ i = s ∧ j < n then I f w j else I f i j
def jH (I : St) (s w j : Nat) : Int32 := I 10 s j ||| I 10 w j
def jA (I : St) (s w j : Nat) : Int32 := ((I 11 s j &&& I 11 w j) ||| (I 11 s j &&& (I 10 w j ^^^ (-1)))) ||| (I 11 w j &&& (I 10 s j ^^^ (-1)))
def jnP (I : St) (s w n : Nat) : St := fun f i j => if i = s ∧ j < n ∧ f = 10 then jH I s w j else if i = s ∧ j < n ∧ f = 11 then jA I s w j else I f i j
def clr (I : St) (s : Nat) : St := clrP I s 4
def cpy (I : St) (s w : Nat) : St := cpyP I s w 4
def jn (I : St) (s w : Nat) : St := jnP I s w 4
/-- bits in the first n of a row -/
def bcs (r : Nat → Int32) : Nat → Int32
  | 0 => nI 0
  | n + 1 => bcs r n + bc (r n)
/-- how many bits are otherwise -/
def oth (a b : Nat → Int32) : Nat → Int32 := bcs (fun j => a j ^^^ b j)
theorem nI_one : nI 1 = 1 := by decide +kernel
theorem clrP_0 (I : St) (s : Nat) : clrP I s 0 = I := by funext f i j; simp [clrP]
theorem cpyP_0 (I : St) (s w : Nat) : cpyP I s w 0 = I := by funext f i j; simp [cpyP]
theorem jnP_0 (I : St) (s w : Nat) : jnP I s w 0 = I := by funext f i j; simp [jnP]
theorem clrP_s (I : St) (s n : Nat) : up3 (up3 (clrP I s n) 10 s n (nI 0)) 11 s n (nI 0) = clrP I s (n + 1) := by
  funext f i j
  simp only [up3, clrP]
  grind
theorem cpyP_s (I : St) (s w n : Nat) : up3 (up3 (cpyP I s w n) 10 s n (cpyP I s w n 10 w n)) 11 s n (up3 (cpyP I s w n) 10 s n (cpyP I s w n 10 w n) 11 w n) = cpyP I s w (n + 1) := by
  funext f i j
  simp only [up3, cpyP]
  grind
theorem jnP_s (I : St) (s w n : Nat) : up3 (up3 (jnP I s w n) 11 s n (jA (jnP I s w n) s w n)) 10 s n (up3 (jnP I s w n) 11 s n (jA (jnP I s w n) s w n) 10 s n ||| up3 (jnP I s w n) 11 s n (jA (jnP I s w n) s w n) 10 w n) = jnP I s w (n + 1) := by
  have e : jA (jnP I s w n) s w n = jA I s w n := by simp [jA, jnP]
  have e1 : jnP I s w n 10 s n = I 10 s n := by simp [jnP]
  have e2 : jnP I s w n 10 w n = I 10 w n := by simp [jnP]
  rw [e, up3_n (by omega), up3_n (by omega), e1, e2]
  funext f i j
  by_cases hi : i = s
  · subst hi
    by_cases hf : f = 10
    · subst hf
      by_cases hj : j = n
      · subst hj; simp [up3, jnP, jH]
      · have : j < n + 1 ↔ j < n := by omega
        simp [up3, jnP, hj, this]
    · by_cases hf1 : f = 11
      · subst hf1
        by_cases hj : j = n
        · subst hj; simp [up3, jnP]
        · have : j < n + 1 ↔ j < n := by omega
          simp [up3, jnP, hj, this]
      · simp [up3, jnP, hf, hf1]
  · simp [up3, jnP, hi]
/-- one bit -/
def b1 (k : Nat) : Int32 := nI 1 <<< (nI k &&& 31)
/-- whether bit k stands, as JoinedStores asks, and as the model does -/
def tb (x : Int32) (k : Nat) : Bool := decide (us x (nI k) &&& nI 1 = nI 1)
def sb (x : Int32) (k : Nat) : Bool := decide (x >>> (nI k &&& 31) &&& nI 1 = nI 1)
def mx (x y : Int32) : Int32 := if x < y then y else x
/-- how many dots a replica made -/
def mk (I : St) (r : Nat) : Nat := (I 12 0 r).toNatClampNeg
def okM (I : St) : Prop := ∀ r, r < 4 → I 12 0 r = nI (mk I r) ∧ mk I r ≤ 31
/-- the places of all dots, by replicas, by numbers -/
def rowl (k r : Nat) : List Nat := (List.range k).map fun j => r * 31 + j
def als (I : St) : Nat → List Nat
  | 0 => []
  | n + 1 => als I n ++ rowl (mk I n) n
theorem rowl_0 (r : Nat) : rowl 0 r = [] := rfl
theorem rowl_s (k r : Nat) : rowl (k + 1) r = rowl k r ++ [r * 31 + k] := by simp [rowl, List.range_succ]
theorem rowl_len (k r : Nat) : (rowl k r).length = k := by simp [rowl]
theorem als_len {I : St} (h : okM I) : ∀ n, n ≤ 4 → (als I n).length ≤ n * 31
  | 0, _ => by simp [als]
  | n + 1, hn => by
    have h1 := als_len h n (by omega)
    have h2 := (h n (by omega)).2
    simp only [als, List.length_append, rowl_len]
    omega
def gp (I : St) (ia o p : Nat) : Bool := tb (I 11 ia (p / 31)) (p % 31) && decide (I 15 0 p = nI o)
def flt (I : St) (ia o : Nat) (l : List Nat) : List Nat := l.filter (gp I ia o)
theorem flt_len (I : St) (ia o : Nat) (l : List Nat) : (flt I ia o l).length ≤ l.length := List.length_filter_le _ _
theorem flt_snoc (I : St) (ia o : Nat) (l : List Nat) (p : Nat) : flt I ia o (l ++ [p]) = if gp I ia o p = true then flt I ia o l ++ [p] else flt I ia o l := by
  simp only [flt, List.filter_append, List.filter_cons, List.filter_nil]
  split <;> simp
/-- the dots gathered -/
def gl (I : St) (ia o : Nat) : List Nat := flt I ia o (als I 4)
def gst (I : St) (g : List Nat) : St := fun f i j => if f = 20 ∧ i = 0 ∧ j < g.length then nI (g.getD j 0) else I f i j
theorem gst_n {I : St} {g : List Nat} {f i j : Nat} (h : f ≠ 20) : gst I g f i j = I f i j := by simp [gst, h]
theorem gst_0 (I : St) : gst I [] = I := by funext f i j; simp [gst]
theorem gst_s (I : St) (g : List Nat) (z p : Nat) (hz : z = g.length) : up3 (gst I g) 20 0 z (nI p) = gst I (g ++ [p]) := by
  subst hz
  funext f i j
  by_cases hf : f = 20 ∧ i = 0
  · obtain ⟨rfl, rfl⟩ := hf
    by_cases hj : j = g.length
    · subst hj; simp [up3, gst]
    · by_cases hl : j < g.length
      · have : j < g.length + 1 := by omega
        simp [up3, gst, hj, hl, this, List.getElem?_append_left hl]
      · have : ¬ j < g.length + 1 := by omega
        simp [up3, gst, hj, hl, this]
  · have h1 : ¬ (f = 20 ∧ i = 0 ∧ j = g.length) := fun q => hf ⟨q.1, q.2.1⟩
    have h2 : ¬ (f = 20 ∧ i = 0 ∧ j < g.length) := fun q => hf ⟨q.1, q.2.1⟩
    have h3 : ¬ (f = 20 ∧ i = 0 ∧ j < (g ++ [p]).length) := fun q => hf ⟨q.1, q.2.1⟩
    simp only [up3, gst, h1, h2, h3, if_false]
theorem gl_len {I : St} (h : okM I) (ia o : Nat) : (gl I ia o).length ≤ 124 := Nat.le_trans (flt_len _ _ _ _) (als_len h 4 (by omega))
theorem als_lt {I : St} (h : okM I) : ∀ n, n ≤ 4 → ∀ p, p ∈ als I n → p < n * 31
  | 0, _, p, hp => by simp [als] at hp
  | n + 1, hn, p, hp => by
    have h2 := (h n (by omega)).2
    simp only [als, List.mem_append] at hp
    rcases hp with q | q
    · have := als_lt h n (by omega) p q
      omega
    · simp only [rowl, List.mem_map, List.mem_range] at q
      obtain ⟨j, hj, rfl⟩ := q
      omega
theorem gl_lt {I : St} (h : okM I) {ia o p : Nat} (hp : p ∈ gl I ia o) : p < 124 := als_lt h 4 (by omega) p (List.mem_filter.mp hp).1
/-- rows that name what was gathered -/
def okG (I : St) (g : List Nat) : Prop := g.length ≤ 124 ∧ ∀ j, j < g.length → I 20 0 j = nI (g.getD j 0) ∧ g.getD j 0 < 124
theorem okG_gl {I : St} (h : okM I) (ia o : Nat) : okG (gst I (gl I ia o)) (gl I ia o) := by
  refine ⟨gl_len h ia o, fun j hj => ⟨by simp [gst, hj], gl_lt h (ia := ia) (o := o) ?_⟩⟩
  rw [List.getD_eq_getElem?_getD, List.getElem?_eq_getElem hj]
  exact List.getElem_mem hj
theorem take_s {g : List Nat} {i : Nat} (h : i < g.length) : g.take (i + 1) = g.take i ++ [g.getD i 0] := by
  rw [List.take_succ, List.getElem?_eq_getElem h, List.getD_eq_getElem?_getD, List.getElem?_eq_getElem h]
  rfl
/-- the greatest stamp heard -/
def gsk (I : St) (ia r : Nat) (g : Int32) : Nat → Int32
  | 0 => g
  | k + 1 => if tb (I 10 ia r) k = true then mx (gsk I ia r g k) (I 14 0 (r * 31 + k)) else gsk I ia r g k
def gsr (I : St) (ia : Nat) : Nat → Int32
  | 0 => nI 0
  | r + 1 => gsk I ia r (gsr I ia r) (mk I r)
def mads (I : St) : Nat → Int32
  | 0 => nI 0
  | n + 1 => mads I n + I 12 0 n
/-- what is gathered, worth -/
def sumG (I : St) (g : List Nat) : Int64 := g.foldl (fun a p => a + (I 13 0 p).toInt64) (lN 0)
def latG (I : St) (g : List Nat) : Int32 × Int32 := g.foldl (fun a p => if a.1 ≤ I 14 0 p then (I 14 0 p, I 13 0 p) else a) (nI 0, nI 0)
def mosG (I : St) (g : List Nat) : Int32 := g.foldl (fun a p => mx a (I 13 0 p)) (-2147483648)
/-- those of values between two are heard by a store -/
def hearf (I : St) (lo hi : Int32) (ib : Nat) (S : St) (p : Nat) : St := if lo ≤ I 13 0 p ∧ I 13 0 p ≤ hi then up3 S 10 ib (p / 31) (S 10 ib (p / 31) ||| b1 (p % 31)) else S
def mbS (I : St) (lo hi : Int32) (ib : Nat) (S : St) (g : List Nat) : St := g.foldl (hearf I lo hi ib) S
theorem mbS_n {I S : St} {lo hi : Int32} {ib f i j : Nat} (hf : f ≠ 10) : ∀ g : List Nat, mbS I lo hi ib S g f i j = S f i j := by
  intro g
  induction g generalizing S with
  | nil => rfl
  | cons p g ih =>
    show mbS I lo hi ib (hearf I lo hi ib S p) g f i j = _
    rw [ih]
    unfold hearf
    split
    · simp [up3, hf]
    · rfl
theorem mbS_s {I S : St} {lo hi : Int32} {ib p : Nat} (g : List Nat) : mbS I lo hi ib S (g ++ [p]) = hearf I lo hi ib (mbS I lo hi ib S g) p := by simp [mbS]
def mb (I : St) (ia o : Nat) (lo hi : Int32) (ib : Nat) : St := mbS I lo hi ib (gst I (gl I ia o)) (gl I ia o)
def same0 (I : St) (a b : Nat) : Bool := decide (oth (I 10 a) (I 10 b) 4 = 0) && decide (oth (I 11 a) (I 11 b) 4 = 0)
theorem up3_f {I : St} {f i j f' i' j' : Nat} {x : Int32} (h : f' ≠ f) : up3 I f i j x f' i' j' = I f' i' j' := by simp [up3, h]
theorem hearf_y {W I : St} {lo hi v : Int32} {ib p : Nat} (e : v = I 13 0 p) (h1 : ¬ v < lo) (h2 : ¬ hi < v) : up3 W 10 ib (p / 31) (W 10 ib (p / 31) ||| b1 (p % 31)) = hearf I lo hi ib W p := by
  rw [hearf, ← e, if_pos ⟨Int32.not_lt.mp h1, Int32.not_lt.mp h2⟩]
theorem hearf_a {W I : St} {lo hi v : Int32} {ib p : Nat} (e : v = I 13 0 p) (h1 : v < lo) : W = hearf I lo hi ib W p := by
  rw [hearf, ← e, if_neg (fun q => absurd h1 (Int32.not_lt.mpr q.1))]
theorem hearf_b {W I : St} {lo hi v : Int32} {ib p : Nat} (e : v = I 13 0 p) (h2 : hi < v) : W = hearf I lo hi ib W p := by
  rw [hearf, ← e, if_neg (fun q => absurd h2 (Int32.not_lt.mpr q.2))]
theorem mbS_t {I S : St} {lo hi : Int32} {ib i : Nat} {g : List Nat} (h : i < g.length) : mbS I lo hi ib S (g.take (i + 1)) = hearf I lo hi ib (mbS I lo hi ib S (g.take i)) (g.getD i 0) := by
  rw [take_s h, mbS_s]
def mosR (I : St) (g : List Nat) : Int32 := if g.length = 0 then nI 0 else mosG I g
def fsum (I : St) (g : List Nat) : UInt32 := g.foldl (fun a p => FP.fadd a (FP.i2f (I 13 0 p))) FP.fconst0
def menR (I : St) (g : List Nat) : Int32 := if g.length = 0 then nI 0 else (FP.fdiv (fsum I g) (FP.i2f (nI g.length))).toInt32
theorem fold_t {α : Type} {f : α → Nat → α} {a : α} {g : List Nat} {i : Nat} (h : i < g.length) : (g.take (i + 1)).foldl f a = f ((g.take i).foldl f a) (g.getD i 0) := by
  rw [take_s h, List.foldl_append]
  rfl
theorem sumG_t {I : St} {g : List Nat} {i : Nat} (h : i < g.length) : sumG I (g.take (i + 1)) = sumG I (g.take i) + (I 13 0 (g.getD i 0)).toInt64 := fold_t h
theorem mosG_t {I : St} {g : List Nat} {i : Nat} (h : i < g.length) : mosG I (g.take (i + 1)) = mx (mosG I (g.take i)) (I 13 0 (g.getD i 0)) := fold_t h
theorem latG_t {I : St} {g : List Nat} {i : Nat} (h : i < g.length) : latG I (g.take (i + 1)) = if (latG I (g.take i)).1 ≤ I 14 0 (g.getD i 0) then (I 14 0 (g.getD i 0), I 13 0 (g.getD i 0)) else latG I (g.take i) := fold_t h
theorem sumG_g (I : St) (h g : List Nat) : sumG (gst I h) g = sumG I g := by simp [sumG, gst_n]
theorem latG_g (I : St) (h g : List Nat) : latG (gst I h) g = latG I g := by simp [latG, gst_n]
theorem mosG_g (I : St) (h g : List Nat) : mosG (gst I h) g = mosG I g := by simp [mosG, gst_n]
theorem mosR_g (I : St) (h g : List Nat) : mosR (gst I h) g = mosR I g := by simp [mosR, mosG_g]
theorem fsum_g (I : St) (h g : List Nat) : fsum (gst I h) g = fsum I g := by simp [fsum, gst_n]
theorem menR_g (I : St) (h g : List Nat) : menR (gst I h) g = menR I g := by simp [menR, fsum_g]
/-- what an object is worth in a store, taken for kind k -/
def wth (I : St) (ia o k : Nat) : Int64 := if k = 2 then sumG I (gl I ia o) else if k = 3 then (latG I (gl I ia o)).2.toInt64 else if k = 4 then (mosR I (gl I ia o)).toInt64 else if k = 5 then (menR I (gl I ia o)).toInt64 else (nI (gl I ia o).length).toInt64
/-- a dot is made -/
def mkd (I : St) (r ia o : Nat) (v : Int32) : St := up3 (up3 (up3 (up3 I 14 0 (r * 31 + mk I r) (nI 1 + gsr I ia 4)) 13 0 (r * 31 + mk I r) v) 15 0 (r * 31 + mk I r) (nI o)) 12 0 r (nI (mk I r + 1))
/-- dots a take the place of dots b -/
def dcp (I : St) (b a : Nat) : St := cp3 (cp3 (cp3 (cp3 I 12 b 12 a 0 0 4) 13 b 13 a 0 0 124) 14 b 14 a 0 0 124) 15 b 15 a 0 0 124
theorem sw_rng {x : Int32} (lo hi : Nat) (hb : hi < 2147483648) (h : ∀ j, lo ≤ j → j ≤ hi → ¬ x = nI j) : x.toInt < (lo : Int) ∨ (hi : Int) < x.toInt := by
  rcases Int.lt_or_le x.toInt 0 with q | q
  · left; omega
  · obtain ⟨j, hj, rfl⟩ := nI_of (x := x) (fun z => by
      rw [Int32.lt_iff_toInt_lt, Int32.toInt_zero] at z
      omega)
    rw [nI_toInt hj]
    by_cases h1 : lo ≤ j
    · by_cases h2 : j ≤ hi
      · exact absurd rfl (h j h1 h2)
      · right; omega
    · left; omega
theorem gp_a {I : St} {ia o r k : Nat} {b x y : Int32} (h1 : (r * 31 + k) / 31 = r) (h2 : (r * 31 + k) % 31 = k) (eb : b = I 11 ia r) (ex : x = us b (nI k)) (ey : y = x &&& nI 1) (c : ¬ y = nI 1) : ¬ gp I ia o (r * 31 + k) = true := by
  subst ey ex eb
  simp [gp, h1, h2, tb, c]
theorem gp_b {I : St} {ia o r k : Nat} {q : Int32} (eq : q = I 15 0 (r * 31 + k)) (c : ¬ q = nI o) : ¬ gp I ia o (r * 31 + k) = true := by
  subst eq
  simp [gp, c]
theorem gp_y {I : St} {ia o r k : Nat} {b x y q : Int32} (h1 : (r * 31 + k) / 31 = r) (h2 : (r * 31 + k) % 31 = k) (eb : b = I 11 ia r) (ex : x = us b (nI k)) (ey : y = x &&& nI 1) (c : y = nI 1) (eq : q = I 15 0 (r * 31 + k)) (c2 : q = nI o) : gp I ia o (r * 31 + k) = true := by
  subst ey ex eb eq
  simp [gp, h1, h2, tb, c, c2]
/-- how many messages wait -/
def wt (I : St) : Nat := (I 1 0 6).toNatClampNeg
def okT (I : St) : Prop := I 1 0 6 = nI (wt I) ∧ wt I ≤ 6
def okW (I : St) : Prop := ∀ n j, n < 2 → j < 6 → (I 6 n j).toNatClampNeg < 6
def ph (I : St) (j : Nat) : Nat := (I 6 0 j).toNatClampNeg
/-- a message is written -/
def mset (I : St) (q : Nat) (a b : Int32) (ia fm ic : Nat) : St := cp3 (cpy (up3 (up3 I 8 q 0 a) 8 q 1 b) (q + 20) ia) fm ic 18 q 0 0 4
theorem mset_n {I : St} {q ia fm ic f i j : Nat} {a b : Int32} (h8 : f ≠ 8) (h10 : f ≠ 10) (h11 : f ≠ 11) (h18 : f ≠ 18) : mset I q a b ia fm ic f i j = I f i j := by simp [mset, cp3, cpy, cpyP, up3, h8, h10, h11, h18]
def psd (I : St) (fr to ia : Nat) : St := up3 (mset I (ph I (wt I)) (nI fr) (nI to) ia 10 fr) 1 0 6 (nI (wt I + 1))
/-- a message goes, those behind it are one less -/
def drP (I : St) (m n : Nat) : St := fun f i j => if f = 6 ∧ i = 0 ∧ m ≤ j ∧ j < n then I 6 0 (j + 1) else I f i j
def dr (I : St) (m : Nat) : St := up3 (up3 (drP I m (wt I - 1)) 1 0 6 (nI (wt I - 1))) 6 0 (wt I - 1) (I 6 0 m)
theorem drP_0 (I : St) (m : Nat) : drP I m m = I := by
  funext f i j
  have : ¬ (m ≤ j ∧ j < m) := by omega
  simp only [drP]
  rw [if_neg (fun q => this q.2.2)]
theorem drP_n {I : St} {m n f i j : Nat} (h : f ≠ 6) : drP I m n f i j = I f i j := by simp [drP, h]
theorem drP_r (I : St) (m n : Nat) {j : Nat} (h : n ≤ j) : drP I m n 6 0 j = I 6 0 j := by
  have : ¬ j < n := by omega
  simp [drP, this]
theorem drP_s (I : St) (m n : Nat) (h : m ≤ n) : up3 (drP I m n) 6 0 n (drP I m n 6 0 (n + 1)) = drP I m (n + 1) := by
  rw [drP_r I m n (Nat.le_succ n)]
  funext f i j
  by_cases hf : f = 6 ∧ i = 0
  · obtain ⟨rfl, rfl⟩ := hf
    by_cases hj : j = n
    · subst hj; simp [up3, drP, h]
    · have : j < n + 1 ↔ j < n := by omega
      simp [up3, drP, hj, this]
  · have h1 : ¬ (f = 6 ∧ i = 0 ∧ j = n) := fun q => hf ⟨q.1, q.2.1⟩
    have h2 : ¬ (f = 6 ∧ i = 0 ∧ m ≤ j ∧ j < n) := fun q => hf ⟨q.1, q.2.1⟩
    have h3 : ¬ (f = 6 ∧ i = 0 ∧ m ≤ j ∧ j < n + 1) := fun q => hf ⟨q.1, q.2.1⟩
    simp only [up3, drP, h1, h2, h3, if_false]
/-- what was had is known -/
def lrP (I : St) (q b n : Nat) : St := fun f i j => if f = 17 ∧ i = 0 ∧ b ≤ j ∧ j < b + n then I 17 0 j ||| I 18 q (j - b) else I f i j
theorem lrP_0 (I : St) (q b : Nat) : lrP I q b 0 = I := by
  funext f i j
  have : ¬ (b ≤ j ∧ j < b + 0) := by omega
  simp only [lrP]
  rw [if_neg (fun q => this q.2.2)]
theorem lrP_s (I : St) (q b n : Nat) : up3 (lrP I q b n) 17 0 (b + n) (lrP I q b n 17 0 (b + n) ||| lrP I q b n 18 q n) = lrP I q b (n + 1) := by
  funext f i j
  by_cases hf : f = 17 ∧ i = 0
  · obtain ⟨rfl, rfl⟩ := hf
    by_cases hj : j = b + n
    · subst hj
      have : b + n < b + (n + 1) := by omega
      simp [up3, lrP]
    · have : j < b + (n + 1) ↔ j < b + n := by omega
      simp [up3, lrP, hj, this]
  · have h1 : ¬ (f = 17 ∧ i = 0 ∧ j = b + n) := fun q => hf ⟨q.1, q.2.1⟩
    have h2 : ¬ (f = 17 ∧ i = 0 ∧ b ≤ j ∧ j < b + n) := fun q => hf ⟨q.1, q.2.1⟩
    have h3 : ¬ (f = 17 ∧ i = 0 ∧ b ≤ j ∧ j < b + (n + 1)) := fun q => hf ⟨q.1, q.2.1⟩
    simp only [up3, lrP, h1, h2, h3, if_false]
/-- what is known, stable, a tag -/
def kb (I : St) (r o x : Nat) : Int32 := if o = r then I 10 r x else I 17 0 ((r * 4 + o) * 4 + x)
def stb (I : St) (r x : Nat) : Nat → Int32
  | 0 => I 10 r x
  | n + 1 => stb I r x n &&& kb I r n x
def tga (I : St) (r x : Nat) : Int32 := (I 10 r x &&& (I 11 r x ^^^ (-1))) &&& (stb I r x 4 ^^^ (-1))
def tgr (I : St) (r : Nat) (d : Int32) : Nat → Int32
  | 0 => d
  | n + 1 => tgr I r d n + bc (tga I r n)
def tgs (I : St) : Nat → Int32
  | 0 => nI 0
  | r + 1 => tgr I r (tgs I r) 4
def kd (I : St) (o : Nat) : Nat := (I 16 0 o).toNatClampNeg
def okK (I : St) : Prop := ∀ o, o < 12 → I 16 0 o = nI (kd I o) ∧ kd I o < 6
/-- a replica's store and its parcels are joined with what is new -/
def jwP (I : St) (r w : Nat) : Nat → St
  | 0 => jn I r w
  | n + 1 => if n = r then jwP I r w n else jn (jwP I r w n) (r * 4 + n + 4) w
def itr (f : Nat → St → St) (S : St) : Nat → St
  | 0 => S
  | n + 1 => f n (itr f S n)
/-- network a takes the place of b -/
def nb1 (I : St) (b a : Nat) : St := cp3 (cp3 (dcp I b a) 16 b 16 a 0 0 12) 17 b 17 a 0 0 64
def nb2 (I : St) (b a sb sa n : Nat) : St := itr (fun i S => cpy S (i + sa) (i + sb)) (nb1 I b a) n
def nb3 (I : St) (b a sb sa pb pa n : Nat) : St := itr (fun i S => cpy S (i + pa) (i + pb)) (nb2 I b a sb sa 4) n
def nbq (b a : Nat) (i : Nat) (S : St) : St := mset S ((S 6 a i).toNatClampNeg + 6 * a) (S 8 ((S 6 b i).toNatClampNeg + 6 * b) 0) (S 8 ((S 6 b i).toNatClampNeg + 6 * b) 1) ((S 6 b i).toNatClampNeg + 6 * b + 20) 18 ((S 6 b i).toNatClampNeg + 6 * b)
def nb4 (I : St) (b a sb sa pb pa n : Nat) : St := itr (nbq b a) (nb3 I b a sb sa pb pa 16) n
def nbk (I : St) (b a sb sa pb pa : Nat) : St := up3 (nb4 I b a sb sa pb pa 6) 1 a 6 (nb4 I b a sb sa pb pa 6 1 b 6)
theorem itr_cpy_n {f i j sa sb : Nat} (h10 : f ≠ 10) (h11 : f ≠ 11) (S : St) : ∀ n, itr (fun i S => cpy S (i + sa) (i + sb)) S n f i j = S f i j
  | 0 => rfl
  | n + 1 => by
    show cpy _ _ _ f i j = _
    simp only [cpy, cpyP, h10, h11, false_or, false_and, if_false]
    exact itr_cpy_n h10 h11 S n
theorem itr_nbq_n {f i j b a : Nat} (h8 : f ≠ 8) (h10 : f ≠ 10) (h11 : f ≠ 11) (h18 : f ≠ 18) (S : St) : ∀ n, itr (nbq b a) S n f i j = S f i j
  | 0 => rfl
  | n + 1 => by
    show nbq b a n _ f i j = _
    rw [nbq, mset_n h8 h10 h11 h18]
    exact itr_nbq_n h8 h10 h11 h18 S n
theorem nb4_6 (I : St) (b a sb sa pb pa n i j : Nat) : nb4 I b a sb sa pb pa n 6 i j = I 6 i j := by
  rw [nb4, itr_nbq_n (by decide) (by decide) (by decide) (by decide), nb3, itr_cpy_n (by decide) (by decide), nb2, itr_cpy_n (by decide) (by decide)]
  simp [nb1, dcp, cp3]
/-- a sheet -/
def shP (I : St) (i n : Nat) : St := fun f a b => if f = 19 ∧ a = i ∧ b < n then nI 0 else I f a b
theorem shP_0 (I : St) (i : Nat) : shP I i 0 = I := by funext f a b; simp [shP]
theorem shP_s (I : St) (i n : Nat) : up3 (shP I i n) 19 i n (nI 0) = shP I i (n + 1) := by
  funext f a b
  simp only [up3, shP]
  grind
def shb (I : St) (i : Nat) (so le : Int32) : St := shP (up3 (up3 I 7 i 0 so) 7 i 1 le) i 40
def hld (I : St) (i : Nat) (a n : Int32) : Bool := !decide (a < 0) && !decide (n < 0) && !decide (I 7 i 1 < n) && !decide (I 7 i 1 - n < a)
section MSG
variable {p : Program} {l : Launch} {e : Env} {R : Room} {s : State} {m : MethodId} {args : Array Value} {below : List Frame} {meth : Method} {c : Code} {H : Heap} {locs : List Loc} {cells slots : Nat} {Q : State → Prop}
variable {cc : ByteArray} {pc : Nat} {ls : Array Slot} {rest : List Value} {D : va_G} {G : Nat → ClassId} {ad : Nat → Nat → Nat} {H0 : Heap} {I : St}
theorem rC_aast (hexec : p.tables.exec = Jvm.exec) (hb : c.code = cc) (hK : KK D G s) (hI : wI LC ad) (hW : va_P D vwCl (wS LC ad (wC G ad I)) H) (hS : va_S (wA LC ad) H0 H locs) (j : Nat) (v : Int32) (hj : j < 6) (hv : v.toNatClampNeg < 12) {x : Int32} (hx : x = nI j) (hdg : decode cc pc = .ok (.aastore, 1))
    (kk : ∀ (I' : St) (H1 : Heap) (locs1 : List Loc), I' = up3 I 6 0 j v → va_P D vwCl (wS LC ad (wC G ad I')) H1 → va_S (wA LC ad) H0 H1 locs1 → W p l e R s m args below meth c H1 locs1 cells slots Q (F0 m (pc + 1) ls rest)) : W p l e R s m args below meth c H locs cells slots Q (F0 m pc ls (.ref (ad 8 v.toNatClampNeg) :: .int x :: .ref (ad 6 0) :: rest)) := by
  refine r_aast (wd := wC G ad) hexec hb hK hI hW hS 2 1 6 0 j 8 v.toNatClampNeg (mC (by decide) (by decide)) (h := fun j => some (ad 8 ((I 6 0 j).toNatClampNeg + 6 * 0))) rfl (r := (RX1, TX1, 4)) rfl rfl (mC (by decide) hv) rfl hj (by decide) hx (I' := up3 I 6 0 j v) ?_ (fun f' i' _ hn => wC_up f' i' hn) hdg (fun H1 locs1 h1 h2 => kk _ H1 locs1 rfl h1 h2)
  show (Sum.inl (G 2, 6, refs (fun k => ad 8 ((up3 I 6 0 j v 6 0 k).toNatClampNeg + 6 * 0))) : va_E) = _
  refine congrArg (fun z => (Sum.inl (G 2, 6, Sum.inr (Sum.inr (Sum.inr (Sum.inr z)))) : va_E)) (funext fun k => ?_)
  by_cases hk : k = j
  · subst hk; simp [up3, va_up]
  · simp [up3, va_up, hk]
end MSG
