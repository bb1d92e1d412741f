/-! ===== the model's side: words ===== -/
/-- the model's cells as those of JoinedStores, the messages in the order of their numbers -/
def V (J : St) : St := fun f i j => match f with
  | 1 => J 0 0 8
  | 6 => nI j
  | 7 => if j = 0 then J 23 0 i else J 24 0 i
  | 8 => if j = 0 then J 21 0 i else J 22 0 i
  | 13 => J 13 (j / 31) (j % 31)
  | 14 => J 14 (j / 31) (j % 31)
  | 15 => J 15 (j / 31) (j % 31)
  | 17 => J 17 (j / 4) (j % 4)
  | f => J f i j
def inL (v lo hi : Int64) : Bool := !decide (v < lo) && !decide (hi < v)
theorem inL_N {k : Nat} (hk : k < 2147483648) {hi : Int64} (h : hi.toInt = (k : Int) - 1) (x : Int32) : inL x.toInt64 (lN 0) hi = okN (nI k) x := by
  have e1 : decide (x.toInt64 < lN 0) = decide (x < 0) := by
    apply decide_eq_decide.mpr
    rw [Int64.lt_iff_toInt_lt, Int32.lt_iff_toInt_lt, Int32.toInt_toInt64]
    rfl
  have e2 : decide (hi < x.toInt64) = decide (nI k ≤ x) := by
    apply decide_eq_decide.mpr
    rw [Int64.lt_iff_toInt_lt, Int32.le_iff_toInt_le, Int32.toInt_toInt64, h, nI_toInt hk]
    omega
  rw [inL, okN, e1, e2]
theorem inL_R {lo hi : Int64} {l k : Int32} (h1 : lo.toInt = l.toInt) (h2 : hi.toInt = k.toInt) (x : Int32) : inL x.toInt64 lo hi = okR l k x := by
  have e1 : decide (x.toInt64 < lo) = decide (x < l) := by
    apply decide_eq_decide.mpr
    rw [Int64.lt_iff_toInt_lt, Int32.lt_iff_toInt_lt, Int32.toInt_toInt64, h1]
  have e2 : decide (hi < x.toInt64) = decide (k < x) := by
    apply decide_eq_decide.mpr
    rw [Int64.lt_iff_toInt_lt, Int32.lt_iff_toInt_lt, Int32.toInt_toInt64, h2]
  rw [inL, okR, e1, e2]
theorem dec_toInt64 {n : Nat} (h : n < 2147483648) : (nI n - nI 1).toInt64.toInt = (n : Int) - 1 := by
  rw [Int32.toInt_toInt64]
  rcases Nat.eq_zero_or_pos n with rfl | q
  · decide +kernel
  · rw [pk_sub q, nI_toInt (by omega)]
    omega
theorem cpy_cp3 (J : St) (s w : Nat) : cp3 (cp3 J 10 w 10 s 0 0 4) 11 w 11 s 0 0 4 = cpy J s w := by
  funext f i j
  simp only [cp3, cpy, cpyP]
  grind
/-- those like one another -/
def sam (J : St) (a b : Nat) : Nat → Bool
  | 0 => true
  | n + 1 => sam J a b n && (decide (J 10 a n = J 10 b n) && decide (J 11 a n = J 11 b n))
def mtM (J : St) (n : Nat) : St := itr (fun i S => jn S 26 (i + 1)) (cpy J 26 0) n
/-- whether a dot goes -/
def isg (act v x : Int32) : Bool := decide (act = nI 1) || (decide (act = nI 2) && decide (x = v)) || (decide (act = nI 3) && decide (x ≤ v))
def ofO (J : St) (rm : Nat) (ob : Int32) (r k : Nat) : Bool := if ob < 0 then decide (J 15 r k / nI 4 = nI rm) else decide (J 15 r k = ob)
def gop (J : St) (s rm : Nat) (ob act v : Int32) (p : Nat) : Bool := sb (J 11 s (p / 31)) (p % 31) && ofO J rm ob (p / 31) (p % 31) && isg act v (J 13 (p / 31) (p % 31))
def got (S : St) (p : Nat) : St := up3 S 10 27 (p / 31) (S 10 27 (p / 31) ||| b1 (p % 31))
def goL (J : St) (s rm : Nat) (ob act v : Int32) (l : List Nat) : List Nat := l.filter (gop J s rm ob act v)
def goS (J : St) (s rm : Nat) (ob act v : Int32) (l : List Nat) : St := (goL J s rm ob act v l).foldl got (clr J 27)
def goA (J : St) (s rm : Nat) (ob act v : Int32) : St := goS J s rm ob act v (als J 4)
def goN (J : St) (s rm : Nat) (ob act v : Int32) : Int32 := nI (goL J s rm ob act v (als J 4)).length
theorem got_n {f i j : Nat} (h : ¬ (f = 10 ∧ i = 27)) : ∀ (l : List Nat) (S : St), l.foldl got S f i j = S f i j
  | [], _ => rfl
  | p :: l, S => by
    show l.foldl got (got S p) f i j = _
    rw [got_n h l, got, up3_n (fun q => h ⟨q.1, q.2.1⟩)]
theorem goS_n {J : St} {s rm : Nat} {ob act v : Int32} {l : List Nat} {f i j : Nat} (h10 : f ≠ 10) (h11 : f ≠ 11) : goS J s rm ob act v l f i j = J f i j := by
  rw [goS, got_n (fun q => h10 q.1), clr_n h10 h11]
theorem goS_i {J : St} {s rm : Nat} {ob act v : Int32} {l : List Nat} {f i j : Nat} (h : i ≠ 27) : goS J s rm ob act v l f i j = J f i j := by
  rw [goS, got_n (fun q => h q.2), clr_i h]
theorem goA_n {J : St} {s rm : Nat} {ob act v : Int32} {f i j : Nat} (h10 : f ≠ 10) (h11 : f ≠ 11) : goA J s rm ob act v f i j = J f i j := goS_n h10 h11
theorem goL_y {J : St} {s rm : Nat} {ob act v : Int32} {l : List Nat} {p : Nat} (h : gop J s rm ob act v p = true) : goL J s rm ob act v (l ++ [p]) = goL J s rm ob act v l ++ [p] := by simp [goL, h]
theorem goL_x {J : St} {s rm : Nat} {ob act v : Int32} {l : List Nat} {p : Nat} (h : gop J s rm ob act v p = false) : goL J s rm ob act v (l ++ [p]) = goL J s rm ob act v l := by simp [goL, h]
theorem goS_y {J : St} {s rm : Nat} {ob act v : Int32} {l : List Nat} {p : Nat} (h : gop J s rm ob act v p = true) : goS J s rm ob act v (l ++ [p]) = got (goS J s rm ob act v l) p := by simp [goS, goL_y h]
theorem goS_x {J : St} {s rm : Nat} {ob act v : Int32} {l : List Nat} {p : Nat} (h : gop J s rm ob act v p = false) : goS J s rm ob act v (l ++ [p]) = goS J s rm ob act v l := by rw [goS, goL_x h, goS]
/-- what is new is joined to a replica's store and to its parcels -/
def inP (J : St) (r : Nat) : Nat → St
  | 0 => jn J r 27
  | n + 1 => if n = r then inP J r n else jn (inP J r n) (4 + 4 * r + n) 27
def inS (J : St) (r : Nat) : St := inP J r 4
theorem inP_n {J : St} {r f i j : Nat} (h10 : f ≠ 10) (h11 : f ≠ 11) : ∀ n, inP J r n f i j = J f i j
  | 0 => jn_n h10 h11
  | n + 1 => by
    rw [inP]
    split
    · exact inP_n h10 h11 n
    · rw [jn_n h10 h11]; exact inP_n h10 h11 n
/-- the greatest stamp heard -/
def sak (J : St) (s r : Nat) (g : Int32) : Nat → Int32
  | 0 => g
  | k + 1 => if sb (J 10 s r) k = true then mx (sak J s r g k) (J 14 r k) else sak J s r g k
def sar (J : St) (s : Nat) : Nat → Int32
  | 0 => nI 0
  | r + 1 => sak J s r (sar J s r) (mk J r)
/-- what an add makes go -/
def acF (k : Int32) : Int32 := if k = nI 3 ∨ k = nI 5 then nI 1 else if k = nI 1 then nI 2 else if k = nI 4 then nI 3 else nI 0
def mdM (J S : St) (r o : Nat) (v : Int32) : St := up3 (up3 (up3 (up3 S 14 r (mk J r) (sar S r 4 + nI 1)) 13 r (mk J r) v) 15 r (mk J r) (nI o)) 12 0 r (nI (mk J r + 1))
def hv (S : St) (f r k : Nat) : St := up3 S f 27 r (S f 27 r ||| b1 k)
def adM (J : St) (r rm o : Nat) (v : Int32) : St := inS (hv (hv (mdM J (goA J r rm (nI o) (acF (J 16 0 o)) v) r o v) 10 r (mk J r)) 11 r (mk J r)) r
theorem sam_x {J : St} {a b i : Nat} (h : (decide (J 10 a i = J 10 b i) && decide (J 11 a i = J 11 b i)) = false) : ∀ {n : Nat}, i < n → sam J a b n = false
  | 0, q => absurd q (by omega)
  | n + 1, q => by
    by_cases e : i = n
    · subst e; rw [sam, h, Bool.and_false]
    · rw [sam, sam_x h (by omega), Bool.false_and]
theorem sb_0 {x : Int32} {k : Nat} : sb x k = decide (x >>> (nI k &&& 31) &&& nI 1 = nI 1) := rfl
theorem b01 {x : Int32} : (x &&& nI 1 = 0) ↔ ¬ (x &&& nI 1 = nI 1) := by
  have e : nI 1 = 1 := nI_one
  rw [e]
  have h : x &&& 1 = 0 ∨ x &&& 1 = 1 := by
    have h1 : (x &&& 1).toBitVec.toNat = x.toBitVec.toNat % 2 := by
      show (x.toBitVec &&& 1#32).toNat = _
      rw [BitVec.toNat_and]
      exact Nat.and_one_is_mod _
    rcases Nat.mod_two_eq_zero_or_one x.toBitVec.toNat with q | q
    · exact Or.inl (Int32.toBitVec.inj (BitVec.eq_of_toNat_eq (h1.trans q)))
    · exact Or.inr (Int32.toBitVec.inj (BitVec.eq_of_toNat_eq (h1.trans q)))
  rcases h with h | h <;> rw [h] <;> decide
theorem mk_o {I u : St} (h : ∀ r, u 12 0 r = I 12 0 r) (r : Nat) : u 12 0 r = I 12 0 r := h r
theorem itr_jn_n {f i j s k : Nat} (h10 : f ≠ 10) (h11 : f ≠ 11) (S : St) : ∀ n, itr (fun i S => jn S s (i + k)) S n f i j = S f i j
  | 0 => rfl
  | n + 1 => by
    show jn _ _ _ f i j = _
    rw [jn_n h10 h11]
    exact itr_jn_n h10 h11 S n
theorem mtM_n {J : St} {n f i j : Nat} (h10 : f ≠ 10) (h11 : f ≠ 11) : mtM J n f i j = J f i j := (itr_jn_n h10 h11 _ n).trans (cpy_n h10 h11)
theorem k31 : ∀ k, k < 32 → (nI k &&& 31 = nI k ∧ (((nI k).toUInt32 &&& Int32.toUInt32 31).toBitVec % 32).toNat = k ∧ ((nI k).toBitVec.smod 32).toNat = k) := by decide +kernel
theorem tb_sb {x : Int32} {k : Nat} (h : k < 32) : tb x k = sb x k := by
  obtain ⟨h31, hu, hs⟩ := k31 k h
  have e : us x (nI k) &&& nI 1 = x >>> (nI k &&& 31) &&& nI 1 := by
    have e1 : (us x (nI k)).toBitVec = x.toBitVec >>> k := by
      apply BitVec.eq_of_toNat_eq
      rw [us, pk_ushr x (nI k) k hu]
      rw [BitVec.toNat_ushiftRight, Nat.shiftRight_eq_div_pow]
    have e2 : (x >>> (nI k &&& 31)).toBitVec = x.toBitVec.sshiftRight k := by
      rw [h31]
      show x.toBitVec.sshiftRight ((nI k).toBitVec.smod 32).toNat = _
      rw [hs]
    apply Int32.toBitVec.inj
    show (us x (nI k)).toBitVec &&& (nI 1).toBitVec = (x >>> (nI k &&& 31)).toBitVec &&& (nI 1).toBitVec
    rw [e1, e2]
    apply BitVec.eq_of_getLsbD_eq
    intro i hi
    rw [BitVec.getLsbD_and, BitVec.getLsbD_and]
    by_cases h0 : i = 0
    · subst h0
      rw [BitVec.getLsbD_ushiftRight, BitVec.getLsbD_sshiftRight]
      simp [h]
    · have h1 : (nI 1).toBitVec.getLsbD i = false := by
        have : (nI 1).toBitVec = 1#32 := by decide +kernel
        rw [this]
        simp [BitVec.getLsbD_one, h0]
      rw [h1, Bool.and_false, Bool.and_false]
  rw [tb, sb, e]
