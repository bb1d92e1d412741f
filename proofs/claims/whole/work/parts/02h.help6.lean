/-! ===== the model's side: words, two ===== -/
/-- what is gathered of an object in a store, as the model counts it -/
def WI (J : St) (g : List Nat) (z : Nat) (sm : Int64) (mo la sp : Int32) (fl : UInt32) : Prop := z = g.length ∧ sm = sumG (V J) g ∧ mo = mosR (V J) g ∧ (sp, la) = latG (V J) g ∧ fl = fsum (V J) g
theorem WI.z {J : St} {g : List Nat} {z : Nat} {sm : Int64} {mo la sp : Int32} {fl : UInt32} (h : WI J g z sm mo la sp fl) : z = g.length := h.1
theorem WI.s {J : St} {g : List Nat} {z : Nat} {sm : Int64} {mo la sp : Int32} {fl : UInt32} (h : WI J g z sm mo la sp fl) : sm = sumG (V J) g := h.2.1
theorem WI.m {J : St} {g : List Nat} {z : Nat} {sm : Int64} {mo la sp : Int32} {fl : UInt32} (h : WI J g z sm mo la sp fl) : mo = mosR (V J) g := h.2.2.1
theorem WI.l {J : St} {g : List Nat} {z : Nat} {sm : Int64} {mo la sp : Int32} {fl : UInt32} (h : WI J g z sm mo la sp fl) : (sp, la) = latG (V J) g := h.2.2.2.1
theorem WI.f {J : St} {g : List Nat} {z : Nat} {sm : Int64} {mo la sp : Int32} {fl : UInt32} (h : WI J g z sm mo la sp fl) : fl = fsum (V J) g := h.2.2.2.2
theorem WI_0 (J : St) : WI J [] 0 (lN 0) (nI 0) (nI 0) (nI 0) FP.fconst0 := ⟨rfl, rfl, rfl, rfl, rfl⟩
theorem mx_min (v : Int32) : mx (-2147483648) v = v := by
  unfold mx
  split
  · rfl
  · rename_i h
    have h1 := Int32.not_lt.mp h
    have h2 : (-2147483648 : Int32) ≤ v := by
      rw [Int32.le_iff_toInt_le]
      exact Int32.le_toInt v
    exact Int32.le_antisymm h2 h1
theorem mosR_s {I : St} {g : List Nat} {p : Nat} : mosR I (g ++ [p]) = if g.length = 0 then I 13 0 p else mx (mosR I g) (I 13 0 p) := by
  rw [mosR, if_neg (by simp)]
  have e : mosG I (g ++ [p]) = mx (mosG I g) (I 13 0 p) := by simp [mosG]
  rw [e]
  split
  · rename_i h
    have h0 : g = [] := List.length_eq_zero_iff.mp h
    subst h0
    exact mx_min _
  · rename_i h
    rw [mosR, if_neg h]
theorem WI_s {J : St} {g : List Nat} {z : Nat} {sm : Int64} {mo la sp mo' la' sp' v st : Int32} {fl : UInt32} {p : Nat} (h : WI J g z sm mo la sp fl) (hv : v = V J 13 0 p) (hs : st = V J 14 0 p)
    (hm : mo' = if z = 0 then v else mx mo v) (hl : (sp', la') = if sp ≤ st then (st, v) else (sp, la)) : WI J (g ++ [p]) (z + 1) (sm + v.toInt64) mo' la' sp' (FP.fadd fl (FP.i2f v)) := by
  obtain ⟨h1, h2, h3, h4, h5⟩ := h
  subst hv hs
  refine ⟨by simp [h1], ?_, ?_, ?_, ?_⟩
  · rw [h2]; simp [sumG]
  · rw [hm, mosR_s, h1, h3]
  · have e : latG (V J) (g ++ [p]) = if (latG (V J) g).1 ≤ V J 14 0 p then (V J 14 0 p, V J 13 0 p) else latG (V J) g := by
      rw [latG, List.foldl_append]
      rfl
    rw [hl, e, ← h4]
  · rw [h5]; simp [fsum]
theorem gpV {J : St} {a o r k : Nat} (hd1 : (r * 31 + k) / 31 = r) (hd2 : (r * 31 + k) % 31 = k) : gp (V J) a o (r * 31 + k) = (sb (J 11 a r) k && decide (J 15 r k = nI o)) := by
  have hk : k < 32 := by omega
  rw [gp]
  show (tb (J 11 a ((r * 31 + k) / 31)) ((r * 31 + k) % 31) && decide (J 15 ((r * 31 + k) / 31) ((r * 31 + k) % 31) = nI o)) = _
  rw [hd1, hd2, tb_sb hk]
theorem V13 {J : St} {r k : Nat} (hd1 : (r * 31 + k) / 31 = r) (hd2 : (r * 31 + k) % 31 = k) : J 13 r k = V J 13 0 (r * 31 + k) := by
  show _ = J 13 ((r * 31 + k) / 31) ((r * 31 + k) % 31)
  rw [hd1, hd2]
theorem V14 {J : St} {r k : Nat} (hd1 : (r * 31 + k) / 31 = r) (hd2 : (r * 31 + k) % 31 = k) : J 14 r k = V J 14 0 (r * 31 + k) := by
  show _ = J 14 ((r * 31 + k) / 31) ((r * 31 + k) % 31)
  rw [hd1, hd2]
/-- what is stable, as the model finds it -/
def smb (J : St) (r x : Nat) : Nat → Int32
  | 0 => J 10 r x
  | n + 1 => if n = r then smb J r x n else smb J r x n &&& J 17 (4 * r + n) x
def tgM (J : St) (r x : Nat) : Int32 := (J 10 r x &&& (J 11 r x ^^^ (-1))) &&& (smb J r x 4 ^^^ (-1))
def tldM (J : St) (r o w : Nat) : Int32 := if w = 0 then J 10 r o else if w = 1 then J 11 r o else if w = 2 then smb J r o 4 else if w = 3 then tgM J r o else if o = r then J 10 r (w - 10) else J 17 (4 * r + o) (w - 10)
def dtM (J : St) (r k w : Nat) : Int32 := if w = 0 then J 13 r k else if w = 1 then J 14 r k else nI 10 * (J 15 r k / nI 4) + (J 15 r k - J 15 r k / nI 4 * nI 4)
theorem okR_nI {l k : Nat} (hl : l < 2147483648) (hk : k < 2147483648) {x : Int32} (h : okR (nI l) (nI k) x = true) : ∃ n, l ≤ n ∧ n ≤ k ∧ x = nI n := by
  simp only [okR, Bool.and_eq_true, Bool.not_eq_true', decide_eq_false_iff_not] at h
  obtain ⟨h1, h2⟩ := h
  have h1 := Int32.not_lt.mp h1
  have h2 := Int32.not_lt.mp h2
  rw [Int32.le_iff_toInt_le, nI_toInt hl] at h1
  rw [Int32.le_iff_toInt_le, nI_toInt hk] at h2
  obtain ⟨n, hn, rfl⟩ := nI_of (x := x) (fun z => by
    rw [Int32.lt_iff_toInt_lt, Int32.toInt_zero] at z
    omega)
  rw [nI_toInt hn] at h1 h2
  exact ⟨n, by omega, by omega, rfl⟩
theorem okR_nN {l k n : Nat} (hl : l < 2147483648) (hk : k < 2147483648) (h1 : l ≤ n) (h2 : n ≤ k) : okR (nI l) (nI k) (nI n) = true := by
  have hn : n < 2147483648 := by omega
  simp only [okR, Bool.and_eq_true, Bool.not_eq_true', decide_eq_false_iff_not]
  constructor
  · refine Int32.not_lt.mpr ?_
    rw [Int32.le_iff_toInt_le, nI_toInt hl, nI_toInt hn]; omega
  · refine Int32.not_lt.mpr ?_
    rw [Int32.le_iff_toInt_le, nI_toInt hk, nI_toInt hn]; omega
/-- one message takes another's place -/
def hnM (J : St) (a b : Nat) : St := cp3 (cpy (up3 (up3 J 21 0 b (J 21 0 a)) 22 0 b (J 22 0 a)) (20 + b) (20 + a)) 18 a 18 b 0 0 4
theorem hnM_n {J : St} {a b f i j : Nat} (h10 : f ≠ 10) (h11 : f ≠ 11) (h18 : f ≠ 18) (h21 : f ≠ 21) (h22 : f ≠ 22) : hnM J a b f i j = J f i j := by simp [hnM, cp3, cpy, cpyP, up3, h10, h11, h18, h21, h22]
def gaP (J : St) (m : Nat) : Nat → St
  | 0 => J
  | n + 1 => hnM (gaP J m n) (m + 1 + n) (m + n)
theorem gaP_n {J : St} {m f i j : Nat} (h10 : f ≠ 10) (h11 : f ≠ 11) (h18 : f ≠ 18) (h21 : f ≠ 21) (h22 : f ≠ 22) : ∀ n, gaP J m n f i j = J f i j
  | 0 => rfl
  | n + 1 => by rw [gaP, hnM_n h10 h11 h18 h21 h22]; exact gaP_n h10 h11 h18 h21 h22 n
def gaS (J : St) (m : Nat) : St := up3 (gaP J m (wt (V J) - (m + 1))) 0 0 8 (nI (wt (V J) - 1))
def snM (J : St) (fr to w : Nat) : St :=
  let I1 := up3 (up3 J 21 0 (wt (V J)) (nI fr)) 22 0 (wt (V J)) (nI to)
  let I2 := if w = 0 then cpy I1 (20 + wt (V J)) fr else clr (cpy I1 (20 + wt (V J)) (4 + 4 * fr + to)) (4 + 4 * fr + to)
  up3 (cp3 I2 10 fr 18 (wt (V J)) 0 0 4) 0 0 8 (nI (wt (V J) + 1))
def lnP (J : St) (q m n : Nat) : St := fun f i j => if f = 17 ∧ i = q ∧ j < n then J 17 q j ||| J 18 m j else J f i j
theorem lnP_0 (J : St) (q m : Nat) : lnP J q m 0 = J := by funext f i j; simp [lnP]
theorem lnP_s (J : St) (q m n : Nat) : up3 (lnP J q m n) 17 q n (lnP J q m n 17 q n ||| lnP J q m n 18 m n) = lnP J q m (n + 1) := by
  funext f i j
  simp only [up3, lnP]
  grind
theorem lnP_n {J : St} {q m n f i j : Nat} (h : f ≠ 17) : lnP J q m n f i j = J f i j := by simp [lnP, h]
def mfM (J : St) (m : Nat) : Nat := tn (J 21 0 m)
def mtoM (J : St) (m : Nat) : Nat := tn (J 22 0 m)
def okA (J : St) : Prop := ∀ j, j < wt (V J) → J 21 0 j = nI (mfM J j) ∧ mfM J j < 4 ∧ J 22 0 j = nI (mtoM J j) ∧ mtoM J j < 4
def cmM (J : St) (m : Nat) : St := gaS (lnP (jn J (mtoM J m) (20 + m)) (4 * mtoM J m + mfM J m) m 4) m
def twM (J : St) (m : Nat) : St := up3 (hnM J m (wt (V J))) 0 0 8 (nI (wt (V J) + 1))
def ltM (J : St) (m w : Nat) : Int32 := if w = 0 then J 21 0 m else if w = 1 then J 22 0 m else if w = 2 then bcs (J 10 (20 + m)) 4 else bcs (J 11 (20 + m)) 4
theorem cp3_n {I : St} {f0 i0 f i sp dp n f' i' j' : Nat} (h : f' ≠ f) : cp3 I f0 i0 f i sp dp n f' i' j' = I f' i' j' := by simp [cp3, h]
theorem lt_o {J : St} {x : Int32} (h : x = J 0 0 8) (hT : okT (V J)) : x = nI (wt (V J)) := h.trans hT.1
theorem dec_nI (m i : Nat) : nI (m + 1 + i) - nI 1 = nI (m + i) := by
  rw [pk_sub (by omega)]
  congr 1
  omega
