/-! ===== what changes where: rows for JoinedStores itself ===== -/
theorem clr_n {I : St} {s f i j : Nat} (h10 : f ≠ 10) (h11 : f ≠ 11) : clr I s f i j = I f i j := by simp [clr, clrP, h10, h11]
theorem clr_i {I : St} {s f i j : Nat} (h : i ≠ s) : clr I s f i j = I f i j := by simp [clr, clrP, h]
theorem cpy_n {I : St} {s w f i j : Nat} (h10 : f ≠ 10) (h11 : f ≠ 11) : cpy I s w f i j = I f i j := by simp [cpy, cpyP, h10, h11]
theorem cpy_i {I : St} {s w f i j : Nat} (h : i ≠ s) : cpy I s w f i j = I f i j := by simp [cpy, cpyP, h]
theorem jn_n {I : St} {s w f i j : Nat} (h10 : f ≠ 10) (h11 : f ≠ 11) : jn I s w f i j = I f i j := by simp [jn, jnP, h10, h11]
theorem jn_i {I : St} {s w f i j : Nat} (h : i ≠ s) : jn I s w f i j = I f i j := by simp [jn, jnP, h]
theorem mb_n {I : St} {ia o ib f i j : Nat} {lo hi : Int32} (h10 : f ≠ 10) (h20 : f ≠ 20) : mb I ia o lo hi ib f i j = I f i j := by
  rw [mb, mbS_n h10, gst_n h20]
theorem jwP_n {I : St} {r w f i j : Nat} (h10 : f ≠ 10) (h11 : f ≠ 11) : ∀ n, jwP I r w n f i j = I f i j
  | 0 => jn_n h10 h11
  | n + 1 => by
    rw [jwP]
    split
    · exact jwP_n h10 h11 n
    · rw [jn_n h10 h11]; exact jwP_n h10 h11 n
/-- the same but at some cells -/
def Sm (P : Nat → Nat → Prop) (I u : St) : Prop := ∀ f i j, ¬ P f i → u f i j = I f i j
def gG : Nat → Nat → Prop := fun f _ => f = 20
def gC : Nat → Nat → Prop := fun f i => f = 20 ∨ ((f = 10 ∨ f = 11) ∧ 32 ≤ i ∧ i ≤ 38)
theorem Sm.rf {P : Nat → Nat → Prop} {I : St} : Sm P I I := fun _ _ _ _ => rfl
theorem Sm.tr {P : Nat → Nat → Prop} {I u v : St} (h : Sm P I u) (k : Sm P u v) : Sm P I v := fun f i j hn => (k f i j hn).trans (h f i j hn)
theorem Sm.GC {I u : St} (h : Sm gG I u) : Sm gC I u := fun f i j hn => h f i j (fun q => hn (Or.inl q))
theorem Sm.gst {P : Nat → Nat → Prop} (hP : ∀ i, P 20 i) {I u : St} (h : Sm P I u) (g : List Nat) : Sm P I (gst u g) := fun f i j hn => (gst_n (fun q => hn (by rw [q]; exact hP i))).trans (h f i j hn)
theorem Sm.clr {I u : St} (h : Sm gC I u) {s : Nat} (h1 : 32 ≤ s) (h2 : s ≤ 38) : Sm gC I (clr u s) := fun f i j hn => by
  by_cases hi : i = s
  · subst hi
    rw [clr_n (fun q => hn (Or.inr ⟨Or.inl q, h1, h2⟩)) (fun q => hn (Or.inr ⟨Or.inr q, h1, h2⟩))]
    exact h f i j hn
  · rw [clr_i hi]; exact h f i j hn
theorem Sm.cpy {I u : St} (h : Sm gC I u) {s w : Nat} (h1 : 32 ≤ s) (h2 : s ≤ 38) : Sm gC I (cpy u s w) := fun f i j hn => by
  by_cases hi : i = s
  · subst hi
    rw [cpy_n (fun q => hn (Or.inr ⟨Or.inl q, h1, h2⟩)) (fun q => hn (Or.inr ⟨Or.inr q, h1, h2⟩))]
    exact h f i j hn
  · rw [cpy_i hi]; exact h f i j hn
theorem Sm.jn {I u : St} (h : Sm gC I u) {s w : Nat} (h1 : 32 ≤ s) (h2 : s ≤ 38) : Sm gC I (jn u s w) := fun f i j hn => by
  by_cases hi : i = s
  · subst hi
    rw [jn_n (fun q => hn (Or.inr ⟨Or.inl q, h1, h2⟩)) (fun q => hn (Or.inr ⟨Or.inr q, h1, h2⟩))]
    exact h f i j hn
  · rw [jn_i hi]; exact h f i j hn
theorem Sm.itr {P : Nat → Nat → Prop} {I u : St} {f : Nat → St → St} (h : Sm P I u) (hf : ∀ i S, Sm P I S → Sm P I (f i S)) : ∀ n, Sm P I (itr f u n)
  | 0 => h
  | n + 1 => hf n _ (Sm.itr h hf n)
/-- at other families nothing of this counts -/
theorem Sm.e {I u : St} (h : Sm gC I u) {f i j : Nat} (h10 : f ≠ 10) (h11 : f ≠ 11) (h20 : f ≠ 20) : u f i j = I f i j := h f i j (fun q => q.elim h20 (fun q => q.1.elim h10 h11))
theorem mk_e {I u : St} (h : ∀ r, u 12 0 r = I 12 0 r) (r : Nat) : mk u r = mk I r := by rw [mk, mk, h]
theorem okM_e {I u : St} (h : ∀ r, u 12 0 r = I 12 0 r) (k : okM I) : okM u := fun r hr => by
  rw [mk_e h, h]
  exact k r hr
theorem okT_e {I u : St} (h : u 1 0 6 = I 1 0 6) (k : okT I) : okT u := by
  unfold okT wt
  rw [h]
  exact k
theorem wt_e {I u : St} (h : u 1 0 6 = I 1 0 6) : wt u = wt I := by rw [wt, wt, h]
theorem okW_e {I u : St} (h : ∀ n j, u 6 n j = I 6 n j) (k : okW I) : okW u := fun n j hn hj => by rw [h]; exact k n j hn hj
theorem kd_e {I u : St} (h : ∀ o, u 16 0 o = I 16 0 o) (o : Nat) : kd u o = kd I o := by rw [kd, kd, h]
theorem okK_e {I u : St} (h : ∀ o, u 16 0 o = I 16 0 o) (k : okK I) : okK u := fun o ho => by
  rw [kd_e h, h]
  exact k o ho
theorem Sm.M {I u : St} (h : Sm gC I u) (k : okM I) : okM u := okM_e (fun _ => h.e (by decide) (by decide) (by decide)) k
theorem Sm.T {I u : St} (h : Sm gC I u) (k : okT I) : okT u := okT_e (h.e (by decide) (by decide) (by decide)) k
theorem Sm.W {I u : St} (h : Sm gC I u) (k : okW I) : okW u := okW_e (fun _ _ => h.e (by decide) (by decide) (by decide)) k
theorem Sm.K {I u : St} (h : Sm gC I u) (k : okK I) : okK u := okK_e (fun _ => h.e (by decide) (by decide) (by decide)) k
theorem Sm.mk {I u : St} (h : Sm gC I u) (r : Nat) : mk u r = mk I r := mk_e (fun _ => h.e (by decide) (by decide) (by decide)) r
theorem Sm.wt {I u : St} (h : Sm gC I u) : wt u = wt I := wt_e (h.e (by decide) (by decide) (by decide))
theorem Sm.kd {I u : St} (h : Sm gC I u) (o : Nat) : kd u o = kd I o := kd_e (fun _ => h.e (by decide) (by decide) (by decide)) o
/-- what is worth hangs on the dots and on what is alive alone -/
theorem als_e {I u : St} (h : ∀ r, mk u r = mk I r) : ∀ n, als u n = als I n
  | 0 => rfl
  | n + 1 => by rw [als, als, als_e h n, h]
theorem gl_e {I u : St} {ia ib o : Nat} (hm : ∀ r, mk u r = mk I r) (ho : ∀ p, u 15 0 p = I 15 0 p) (ha : ∀ r, r < 4 → u 11 ia r = I 11 ib r) (hM : okM I) : gl u ia o = gl I ib o := by
  rw [gl, gl, als_e hm, flt, flt]
  apply List.filter_congr
  intro p hp
  have := als_lt hM 4 (by omega) p hp
  rw [gp, gp, ho, ha _ (by omega)]
theorem sumG_e {I u : St} (h : ∀ p, u 13 0 p = I 13 0 p) (g : List Nat) : sumG u g = sumG I g := by simp [sumG, h]
theorem latG_e {I u : St} (h : ∀ p, u 13 0 p = I 13 0 p) (h2 : ∀ p, u 14 0 p = I 14 0 p) (g : List Nat) : latG u g = latG I g := by simp [latG, h, h2]
theorem mosR_e {I u : St} (h : ∀ p, u 13 0 p = I 13 0 p) (g : List Nat) : mosR u g = mosR I g := by simp [mosR, mosG, h]
theorem menR_e {I u : St} (h : ∀ p, u 13 0 p = I 13 0 p) (g : List Nat) : menR u g = menR I g := by simp [menR, fsum, h]
theorem wth_e {I u : St} {ia ib o k : Nat} (hm : ∀ r, mk u r = mk I r) (hv : ∀ p, u 13 0 p = I 13 0 p) (hs : ∀ p, u 14 0 p = I 14 0 p) (ho : ∀ p, u 15 0 p = I 15 0 p) (ha : ∀ r, r < 4 → u 11 ia r = I 11 ib r) (hM : okM I) : wth u ia o k = wth I ib o k := by
  rw [wth, wth, gl_e hm ho ha hM, sumG_e hv, latG_e hv hs, mosR_e hv, menR_e hv]
theorem Sm.wth {I u : St} (h : Sm gC I u) (hM : okM I) {ia ib o k : Nat} (ha : ∀ r, r < 4 → u 11 ia r = I 11 ib r) : wth u ia o k = wth I ib o k :=
  wth_e h.mk (fun _ => h.e (by decide) (by decide) (by decide)) (fun _ => h.e (by decide) (by decide) (by decide)) (fun _ => h.e (by decide) (by decide) (by decide)) ha hM
theorem Sm.wthG {I u : St} (h : Sm gG I u) (hM : okM I) {ia o k : Nat} : _root_.Jvm.Pilot.@@N@@.wth u ia o k = _root_.Jvm.Pilot.@@N@@.wth I ia o k :=
  h.GC.wth hM (fun r _ => h 11 ia r (fun q => absurd (show (11 : Nat) = 20 from q) (by decide)))
/-- who is gone when v is added -/
def mg (I : St) (ia o : Nat) (v : Int32) : St := if kd I o = 1 then mb I ia o v v 33 else if kd I o = 4 then mb I ia o (-2147483648) v 33 else if kd I o = 3 ∨ kd I o = 5 then mb I ia o (-2147483648) 2147483647 33 else I
/-- MET's store: of the four from b on -/
def mtP (I : St) (b n : Nat) : St := itr (fun i S => jn S 32 (i + b)) (clr I 32) n
def cntS (I : St) (b : Nat) : Nat → Nat
  | 0 => 0
  | n + 1 => if same0 (mtP I b 4) (n + b) 32 = true then cntS I b n + 1 else cntS I b n
theorem cntS_le (I : St) (b : Nat) : ∀ n, cntS I b n ≤ n
  | 0 => Nat.le_refl 0
  | n + 1 => by
    have := cntS_le I b n
    rw [cntS]
    split <;> omega
def ahS (I : St) (ia ib : Nat) : St := jn (cpy I 34 ia) 34 ib
def mtoP (I : St) (r : Nat) : Nat → Int32
  | 0 => nI 0
  | n + 1 => if I 8 (I 6 0 n).toNatClampNeg 1 = nI r then mtoP I r n ||| b1 n else mtoP I r n
/-- the messages of a set have come, in thought -/
def tcP (I : St) (r : Nat) (x : Int32) : Nat → St
  | 0 => cpy I 34 r
  | n + 1 => if tb x n = true then jn (tcP I r x n) 34 ((tcP I r x n 6 0 n).toNatClampNeg + 20) else tcP I r x n
theorem tcP_n {I : St} {r f i j : Nat} {x : Int32} (h10 : f ≠ 10) (h11 : f ≠ 11) : ∀ n, tcP I r x n f i j = I f i j
  | 0 => cpy_n h10 h11
  | n + 1 => by
    rw [tcP]
    split
    · rw [jn_n h10 h11]; exact tcP_n h10 h11 n
    · exact tcP_n h10 h11 n
theorem tcP_i {I : St} {r f i j : Nat} {x : Int32} (h : i ≠ 34) : ∀ n, tcP I r x n f i j = I f i j
  | 0 => cpy_i h
  | n + 1 => by
    rw [tcP]
    split
    · rw [jn_i h]; exact tcP_i h n
    · exact tcP_i h n
theorem Sm.tcP {I u : St} (h : Sm gC I u) (r : Nat) (x : Int32) : ∀ n, Sm gC I (tcP u r x n)
  | 0 => Sm.cpy h (by decide) (by decide)
  | n + 1 => by
    rw [_root_.Jvm.Pilot.@@N@@.tcP]
    split
    · exact Sm.jn (Sm.tcP h r x n) (by decide) (by decide)
    · exact Sm.tcP h r x n
/-- draws -/
def rd (z : Int32) : Nat := z.toBitVec.toNat / 512 % 4
theorem rd_lt (z : Int32) : rd z < 4 := Nat.mod_lt _ (by decide)
def nz (z : Int32) : Int32 := z * 1103515245 + 12345
def zs (z : Int32) : Nat → Int32
  | 0 => z
  | n + 1 => nz (nz (zs z n))
def adP (I : St) (n : Nat) : St := itr (fun i S => cpy S (i + 35) i) I n
def dwP (I : St) (z : Int32) : Nat → St
  | 0 => adP I 4
  | n + 1 => jn (dwP I z n) (rd (nz (nz (zs z n))) + 35) (rd (nz (zs z n)) + 35)
def gdv (m g : Nat) : Nat → Nat
  | 0 => 1
  | d + 1 => if d = 0 then 1 else if m % (d + 1) = 0 ∧ g % (d + 1) = 0 then d + 1 else gdv m g d
theorem us9 (z : Int32) : us z (nI 9) = nI (z.toBitVec.toNat / 512) := by
  apply Int32.toBitVec.inj
  apply BitVec.eq_of_toNat_eq
  have h1 := pk_ushr z (nI 9) 9 (by decide)
  have h2 := pk_tn (n := z.toBitVec.toNat / 512) (by have := z.toBitVec.isLt; omega)
  rw [h2, us, h1]
/-- the first that is otherwise -/
def fow (P : Nat → Bool) (n : Nat) : Int32 := match (List.range n).find? P with
  | some j => nI j
  | none => -1
theorem fow_y {P : Nat → Bool} {n i : Nat} (hi : i < n) (hp : P i = true) (h : ∀ j, j < i → P j = false) : fow P n = nI i := by
  have e : (List.range n).find? P = some i := by
    rw [List.find?_range_eq_some]
    exact ⟨hp, List.mem_range.mpr hi, fun j hj => by simp [h j hj]⟩
  rw [fow, e]
theorem fow_n {P : Nat → Bool} {n : Nat} (h : ∀ j, j < n → P j = false) : fow P n = -1 := by
  have e : (List.range n).find? P = none := by
    rw [List.find?_eq_none]
    intro j hj
    simp [h j (List.mem_range.mp hj)]
  rw [fow, e]
def foq (I : St) (i ia rm kf : Nat) (j : Nat) : Bool := decide (¬ I 19 i j = (wth I ia (rm * 4 + j) (if j = 0 then kf else kd I (rm * 4 + j))).toInt32)
def fo (I : St) (i ia rm kf L : Nat) : Int32 := fow (foq I i ia rm kf) L
theorem Sm.fo {I u : St} (h : Sm gC I u) (hM : okM I) {i ia ib rm kf L : Nat} (ha : ∀ r, r < 4 → u 11 ia r = I 11 ib r) : fo u i ia rm kf L = fo I i ib rm kf L := by
  have e : foq u i ia rm kf = foq I i ib rm kf := by
    funext j
    rw [foq, foq, h.e (by decide) (by decide) (by decide), h.kd, h.wth hM ha]
  rw [_root_.Jvm.Pilot.@@N@@.fo, _root_.Jvm.Pilot.@@N@@.fo, e]
/-- bits of those below n of which P holds -/
def bits (P : Nat → Bool) : Nat → Int32
  | 0 => nI 0
  | n + 1 => if P n = true then bits P n ||| b1 n else bits P n
theorem gC_lo {f i : Nat} (hf : f ≠ 20) (h : i < 32) : ¬ gC f i := fun q => q.elim hf (fun q => by omega)
theorem tcP_34 {I v : St} (hu : Sm gC I v) (hWt : okW I) {r : Nat} (hr : r < 4) (x : Int32) {f : Nat} (hf : f = 10 ∨ f = 11) {j : Nat} (hj : j < 4) : ∀ n, n ≤ 6 → tcP v r x n f 34 j = tcP I r x n f 34 j := by
  have key : ∀ n, n ≤ 6 → tcP v r x n 10 34 j = tcP I r x n 10 34 j ∧ tcP v r x n 11 34 j = tcP I r x n 11 34 j := by
    intro n
    induction n with
    | zero =>
      intro _
      have h1 := hu 10 r j (gC_lo (by decide) (by omega))
      have h2 := hu 11 r j (gC_lo (by decide) (by omega))
      simp [tcP, cpy, cpyP, hj, h1, h2]
    | succ n ih =>
      intro hn
      obtain ⟨i1, i2⟩ := ih (by omega)
      rw [tcP, tcP]
      split
      · have e6 : tcP v r x n 6 0 n = tcP I r x n 6 0 n := by rw [tcP_n (by decide) (by decide), tcP_n (by decide) (by decide)]; exact hu 6 0 n (gC_lo (by decide) (by decide))
        rw [e6]
        have hq : (tcP I r x n 6 0 n).toNatClampNeg < 6 := by rw [tcP_n (by decide) (by decide)]; exact hWt 0 n (by decide) (by omega)
        generalize (tcP I r x n 6 0 n).toNatClampNeg = q at hq
        have h1 : tcP v r x n 10 (q + 20) j = tcP I r x n 10 (q + 20) j := by rw [tcP_i (by omega), tcP_i (by omega)]; exact hu 10 _ j (gC_lo (by decide) (by omega))
        have h2 : tcP v r x n 11 (q + 20) j = tcP I r x n 11 (q + 20) j := by rw [tcP_i (by omega), tcP_i (by omega)]; exact hu 11 _ j (gC_lo (by decide) (by omega))
        simp [jn, jnP, hj, jH, jA, i1, i2, h1, h2]
      · exact ⟨i1, i2⟩
  intro n hn
  rcases hf with rfl | rfl
  · exact (key n hn).1
  · exact (key n hn).2
theorem tcP_wth {I v : St} (hu : Sm gC I v) (hM : okM I) (hWt : okW I) {r : Nat} (hr : r < 4) (x : Int32) {n : Nat} (hn : n ≤ 6) (o k : Nat) : wth (tcP v r x n) 34 o k = wth (tcP I r x n) 34 o k := by
  have h0 : Sm gC (tcP I r x n) (tcP v r x n) := fun f i j hq => by
    rw [Sm.tcP hu r x n f i j hq, Sm.tcP Sm.rf r x n f i j hq]
  exact h0.wth (Sm.M (Sm.tcP Sm.rf r x n) hM) (fun j hj => tcP_34 hu hWt hr x (Or.inr rfl) hj n hn)
theorem tcP_fo {I v : St} (hu : Sm gC I v) (hM : okM I) (hWt : okW I) {r : Nat} (hr : r < 4) (x : Int32) {n : Nat} (hn : n ≤ 6) (i rm kf L : Nat) : fo (tcP v r x n) i 34 rm kf L = fo (tcP I r x n) i 34 rm kf L := by
  have h0 : Sm gC (tcP I r x n) (tcP v r x n) := fun f i j hq => by
    rw [Sm.tcP hu r x n f i j hq, Sm.tcP Sm.rf r x n f i j hq]
  exact h0.fo (Sm.M (Sm.tcP Sm.rf r x n) hM) (fun j hj => tcP_34 hu hWt hr x (Or.inr rfl) hj n hn)
theorem lg_cmp_0 {x y : Int64} : lg_cmp x y = 0 ↔ x = y := by
  unfold lg_cmp
  by_cases h : x > y
  · have hne : ¬ x = y := fun q => by
      subst q
      exact Int64.lt_irrefl h
    simp [h, hne]
  · by_cases h2 : x = y
    · simp [h, h2]
    · simp [h, h2]
/-- the least set of fewest messages by whose coming it would be so -/
def ftb (I : St) (r o : Nat) (w : Int64) (m : Int32) : Nat → Int32
  | 0 => -1
  | k + 1 => if (nI k &&& (m ^^^ (-1))) = 0 ∧ (ftb I r o w m k = -1 ∨ bc (nI k) < bc (ftb I r o w m k)) ∧ wth (tcP I r (nI k) (wt I)) 34 o (kd I o) = w then nI k else ftb I r o w m k
def okR (lo hi x : Int32) : Bool := !decide (x < lo) && !decide (hi < x)
theorem rng {x : Int32} {k : Nat} (hk : k < 2147483648) (h1 : ¬ x < 0) (h2 : ¬ nI k < x) : ∃ n, n ≤ k ∧ x = nI n := by
  obtain ⟨j, hj, rfl⟩ := nI_of h1
  exact ⟨j, Nat.not_lt.mp (fun q => h2 ((nI_ltI hk hj).mpr q)), rfl⟩
theorem rng1 {x : Int32} {k : Nat} (hk : k < 2147483648) (h1 : ¬ x < nI 1) (h2 : ¬ nI k < x) : ∃ n, 1 ≤ n ∧ n ≤ k ∧ x = nI n := by
  have h0 : ¬ x < 0 := fun q => h1 (by
    rw [Int32.lt_iff_toInt_lt] at q ⊢
    rw [Int32.toInt_zero] at q
    rw [nI_toInt (by decide)]
    omega)
  obtain ⟨j, hj, rfl⟩ := rng hk h0 h2
  exact ⟨j, Nat.not_lt.mp (fun q => h1 ((nI_ltI (by omega) (by decide)).mpr q)), hj, rfl⟩
theorem okR_of {k n : Nat} (hk : k < 2147483648) (hn : n ≤ k) : okR 0 (nI k) (nI n) = true := by
  simp only [okR, Bool.and_eq_true, Bool.not_eq_true', decide_eq_false_iff_not]
  exact ⟨nI_pos (by omega), nI_nlt hn hk⟩
theorem okR_of1 {k n : Nat} (hk : k < 2147483648) (h1 : 1 ≤ n) (hn : n ≤ k) : okR (nI 1) (nI k) (nI n) = true := by
  simp only [okR, Bool.and_eq_true, Bool.not_eq_true', decide_eq_false_iff_not]
  exact ⟨nI_nlt h1 (by omega), nI_nlt hn hk⟩
theorem okR_a {lo hi x : Int32} (h : x < lo) : okR lo hi x = false := by simp [okR, h]
theorem okR_b {lo hi x : Int32} (h : hi < x) : okR lo hi x = false := by simp [okR, h]
def tn (x : Int32) : Nat := x.toNatClampNeg
theorem tn_nI {n : Nat} (h : n < 2147483648) : tn (nI n) = n := nI_clamp h
def mfr (I : St) (q : Nat) : Nat := tn (I 8 q 0)
def mto (I : St) (q : Nat) : Nat := tn (I 8 q 1)
def okL (I : St) : Prop := ∀ j, j < wt I → I 8 (I 6 0 j).toNatClampNeg 0 = nI (mfr I (I 6 0 j).toNatClampNeg) ∧ mfr I (I 6 0 j).toNatClampNeg < 4 ∧ I 8 (I 6 0 j).toNatClampNeg 1 = nI (mto I (I 6 0 j).toNatClampNeg) ∧ mto I (I 6 0 j).toNatClampNeg < 4
theorem hearf_Sm {P : Nat → Nat → Prop} {ib : Nat} (hP : P 10 ib) {I u J : St} {lo hi : Int32} (h : Sm P I u) (p : Nat) : Sm P I (hearf J lo hi ib u p) := fun f i j hn => by
  rw [hearf]
  split
  · rw [up3_n (fun q => hn (by rw [q.1, q.2.1]; exact hP))]
    exact h f i j hn
  · exact h f i j hn
theorem mbS_Sm {P : Nat → Nat → Prop} {ib : Nat} (hP : P 10 ib) {I J : St} {lo hi : Int32} : ∀ (g : List Nat) (u : St), Sm P I u → Sm P I (mbS J lo hi ib u g)
  | [], _, h => h
  | p :: g, u, h => mbS_Sm hP g _ (hearf_Sm hP h p)
theorem Sm.mb {I u : St} (h : Sm gC I u) {ia o ib : Nat} {lo hi : Int32} (h1 : 32 ≤ ib) (h2 : ib ≤ 38) : Sm gC I (mb u ia o lo hi ib) :=
  mbS_Sm (Or.inr ⟨Or.inl rfl, h1, h2⟩) _ _ (Sm.gst (fun _ => Or.inl rfl) h _)
theorem Sm.mtP {I u : St} (h : Sm gC I u) (b n : Nat) : Sm gC I (mtP u b n) := Sm.itr (Sm.clr h (by decide) (by decide)) (fun _ _ k => Sm.jn k (by decide) (by decide)) n
theorem Sm.ahS {I u : St} (h : Sm gC I u) (a b : Nat) : Sm gC I (ahS u a b) := Sm.jn (Sm.cpy h (by decide) (by decide)) (by decide) (by decide)
theorem Sm.adP {I u : St} (h : Sm gC I u) : ∀ n, n ≤ 4 → Sm gC I (adP u n)
  | 0, _ => h
  | n + 1, hn => Sm.cpy (Sm.adP h n (by omega)) (by omega) (by omega)
theorem Sm.dwP {I u : St} (h : Sm gC I u) (z : Int32) : ∀ n, Sm gC I (dwP u z n)
  | 0 => Sm.adP h 4 (by omega)
  | n + 1 => by
    have := rd_lt (nz (nz (zs z n)))
    exact Sm.jn (Sm.dwP h z n) (by omega) (by omega)
/-- the calls, as they leave the cells -/
def adS (I : St) (r o : Nat) (v : Int32) : St := jwP (up3 (up3 (mkd (mg (clr I 33) r o v) r r o v) 10 33 r (mkd (mg (clr I 33) r o v) r r o v 10 33 r ||| b1 (mk I r))) 11 33 r (up3 (mkd (mg (clr I 33) r o v) r r o v) 10 33 r (mkd (mg (clr I 33) r o v) r r o v 10 33 r ||| b1 (mk I r)) 11 33 r ||| b1 (mk I r))) r 33 4
def tkS (I : St) (r o : Nat) (v : Int32) : St := jwP (mb (clr I 33) r o v v 33) r 33 4
def rsP (I : St) (r rm n : Nat) : St := itr (fun j S => mb S r (rm * 4 + j) (-2147483648) 2147483647 33) (clr I 33) n
def rsS (I : St) (r rm : Nat) : St := jwP (rsP I r rm 4) r 33 4
theorem itr_mb_n {r rm f i j : Nat} {S : St} (h10 : f ≠ 10) (h20 : f ≠ 20) : ∀ n, itr (fun j S => mb S r (rm * 4 + j) (-2147483648) 2147483647 33) S n f i j = S f i j
  | 0 => rfl
  | n + 1 => (mb_n h10 h20).trans (itr_mb_n h10 h20 n)
theorem rsP_n {I : St} {r rm f i j n : Nat} (h10 : f ≠ 10) (h11 : f ≠ 11) (h20 : f ≠ 20) : rsP I r rm n f i j = I f i j := (itr_mb_n h10 h20 n).trans (clr_n h10 h11)
theorem mg_n {I : St} {ia o f i j : Nat} {v : Int32} (h10 : f ≠ 10) (h20 : f ≠ 20) : mg I ia o v f i j = I f i j := by
  rw [mg]
  split
  · exact mb_n h10 h20
  · split
    · exact mb_n h10 h20
    · split
      · exact mb_n h10 h20
      · rfl
def snS (I : St) (fr to w : Nat) : St := if w = 0 then psd I fr to fr else clr (psd I fr to (fr * 4 + to + 4)) (fr * 4 + to + 4)
def cmS (I : St) (m q : Nat) : St := dr (lrP (jn I (mto I q) (q + 20)) q ((mto I q * 4 + mfr I q) * 4) 4) m
def twS (I : St) (q : Nat) : St := up3 (mset I (I 6 0 (wt I)).toNatClampNeg (I 8 q 0) (I 8 q 1) (q + 20) 18 q) 1 0 6 (nI (wt I + 1))
theorem psd_w (I : St) (fr to ia : Nat) : psd I fr to ia 1 0 6 = nI (wt I + 1) := up3_s _ _ _ _ _
theorem dr_n {I : St} {m f i j : Nat} (h1 : f ≠ 1) (h6 : f ≠ 6) : dr I m f i j = I f i j := by
  rw [dr, up3_f h6, up3_f h1, drP_n h6]
theorem lrP_n {I : St} {q b n f i j : Nat} (h : f ≠ 17) : lrP I q b n f i j = I f i j := by simp [lrP, h]
def tld (I : St) (r o : Nat) (w : Int32) : Int32 := if w = nI 0 then I 10 r o else if w = nI 1 then I 11 r o else if w = nI 2 then stb I r o 4 else if w = nI 3 then tga I r o else if w < nI 10 then -2 else if okN (nI 4) (w - nI 10) = true then kb I r o (tn (w - nI 10)) else -2
def lte (I : St) (q : Nat) (w : Int32) : Int32 := if w = nI 0 then I 8 q 0 else if w = nI 1 then I 8 q 1 else if w = nI 2 then bcs (I 10 (q + 20)) 4 else if w = nI 3 then bcs (I 11 (q + 20)) 4 else -2
def apt (I : St) (a b : Nat) (w : Int32) : Int32 := if w = nI 0 then bI (same0 (ahS I a b) 34 a) else if w = nI 1 then bI (same0 (ahS I a b) 34 a && same0 (ahS (ahS I a b) b a) 34 b) else if w = nI 2 then oth (I 10 a) (I 10 b) 4 else if w = nI 3 then oth (I 11 a) (I 11 b) 4 else -2
def rfi (I : St) (s i : Int32) : Int32 := if okN (nI 4) s = true then (if I 7 (tn s) 0 = -1 then -11 else if i < 0 then -12 else if I 7 (tn s) 1 ≤ i then -12 else nI 0) else -2
