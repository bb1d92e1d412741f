/-! ===== the model's side: words, three ===== -/
/-- the model's scratch: MET and those behind it -/
def gM : Nat → Nat → Prop := fun f i => (f = 10 ∨ f = 11) ∧ 26 ≤ i
theorem sq_clr {I u : St} (h : Sm gM I u) {s : Nat} (h1 : 26 ≤ s) : Sm gM I (clr u s) := fun f i j hn => by
  rw [← h f i j hn]
  simp only [clr, clrP]
  rw [if_neg (fun q => hn ⟨q.1, by omega⟩)]
theorem sq_cpy {I u : St} (h : Sm gM I u) {s w : Nat} (h1 : 26 ≤ s) : Sm gM I (cpy u s w) := fun f i j hn => by
  rw [← h f i j hn]
  simp only [cpy, cpyP]
  rw [if_neg (fun q => hn ⟨q.1, by omega⟩)]
theorem sq_jn {I u : St} (h : Sm gM I u) {s w : Nat} (h1 : 26 ≤ s) : Sm gM I (jn u s w) := fun f i j hn => by
  rw [← h f i j hn]
  simp only [jn, jnP]
  rw [if_neg (fun q => hn ⟨Or.inl q.2.2, by omega⟩), if_neg (fun q => hn ⟨Or.inr q.2.2, by omega⟩)]
theorem sq_e {I u : St} (h : Sm gM I u) {f i j : Nat} (h10 : f ≠ 10) (h11 : f ≠ 11) : u f i j = I f i j := h f i j (fun q => q.1.elim h10 h11)
theorem sq_l {I u : St} (h : Sm gM I u) {f i j : Nat} (hi : i < 26) : u f i j = I f i j := h f i j (fun q => by have := q.2; omega)
theorem sq_mt {I u : St} (h : Sm gM I u) (n : Nat) : Sm gM I (mtM u n) := Sm.itr (sq_cpy h (by decide)) (fun _ _ k => sq_jn k (by decide)) n
theorem sq_M {I u : St} (h : Sm gM I u) (k : okM I) : okM u := okM_e (fun _ => sq_e h (by decide) (by decide)) k
theorem sq_K {I u : St} (h : Sm gM I u) (k : okK I) : okK u := okK_e (fun _ => sq_e h (by decide) (by decide)) k
theorem sq_T {I u : St} (h : Sm gM I u) (k : okT (V I)) : okT (V u) := okT_e (I := V I) (u := V u) (show u 0 0 8 = I 0 0 8 from sq_e h (by decide) (by decide)) k
theorem sq_wt {I u : St} (h : Sm gM I u) : wt (V u) = wt (V I) := wt_e (I := V I) (u := V u) (show u 0 0 8 = I 0 0 8 from sq_e h (by decide) (by decide))
theorem sq_kd {I u : St} (h : Sm gM I u) (o : Nat) : kd u o = kd I o := kd_e (fun _ => sq_e h (by decide) (by decide)) o
theorem sq_wth {I u : St} (h : Sm gM I u) (hM : okM I) {ia ib o k : Nat} (ha : ∀ r, r < 4 → u 11 ia r = I 11 ib r) : wth (V u) ia o k = wth (V I) ib o k :=
  wth_e (I := V I) (u := V u) (fun r => mk_e (I := V I) (u := V u) (fun _ => sq_e h (by decide) (by decide)) r) (fun _ => sq_e h (by decide) (by decide)) (fun _ => sq_e h (by decide) (by decide)) (fun _ => sq_e h (by decide) (by decide)) ha hM
def ahM (J : St) (a b : Nat) : St := jn (cpy J 28 a) 28 b
theorem sq_ah {I u : St} (h : Sm gM I u) (a b : Nat) : Sm gM I (ahM u a b) := sq_jn (sq_cpy h (by decide)) (by decide)
def aptM (J : St) (a b w : Nat) : Int32 := if w = 0 then bI (sam (ahM J a b) 28 a 4) else if w = 1 then bI (sam (ahM J a b) 28 a 4 && sam (ahM (ahM J a b) b a) 28 b 4) else if w = 2 then oth (J 10 a) (J 10 b) 4 else oth (J 11 a) (J 11 b) 4
/-- letters of a set have come, in thought -/
def tcM (J : St) (r : Nat) (x : Int32) : Nat → St
  | 0 => cpy J 28 r
  | n + 1 => if sb x n = true then jn (tcM J r x n) 28 (20 + n) else tcM J r x n
theorem tcM_n {J : St} {r f i j : Nat} {x : Int32} (h10 : f ≠ 10) (h11 : f ≠ 11) : ∀ n, tcM J r x n f i j = J f i j
  | 0 => cpy_n h10 h11
  | n + 1 => by
    rw [tcM]
    split
    · rw [jn_n h10 h11]; exact tcM_n h10 h11 n
    · exact tcM_n h10 h11 n
theorem tcM_i {J : St} {r f i j : Nat} {x : Int32} (h : i ≠ 28) : ∀ n, tcM J r x n f i j = J f i j
  | 0 => cpy_i h
  | n + 1 => by
    rw [tcM]
    split
    · rw [jn_i h]; exact tcM_i h n
    · exact tcM_i h n
theorem sq_tc {I u : St} (h : Sm gM I u) (r : Nat) (x : Int32) : ∀ n, Sm gM I (tcM u r x n)
  | 0 => sq_cpy h (by decide)
  | n + 1 => by
    rw [tcM]
    split
    · exact sq_jn (sq_tc h r x n) (by decide)
    · exact sq_tc h r x n
theorem tcM_28 {I v : St} (hu : Sm gM I v) {r : Nat} (hr : r < 4) (x : Int32) : ∀ n, n ≤ 6 → rowE (tcM v r x n) (tcM I r x n) 28
  | 0, _ => fun j hj => by simp [tcM, cpy, cpyP, hj, sq_l hu (show r < 26 by omega)]
  | n + 1, hn => by
    have ih := tcM_28 hu hr x n (by omega)
    rw [tcM, tcM]
    split
    · refine rowE_jn ih ih (fun j hj => ?_)
      rw [tcM_i (by omega), tcM_i (by omega), tcM_i (by omega), tcM_i (by omega)]
      exact ⟨sq_l hu (by omega), sq_l hu (by omega)⟩
    · exact ih
theorem tcM_wth {I v : St} (hu : Sm gM I v) (hM : okM I) {r : Nat} (hr : r < 4) (x : Int32) {n : Nat} (hn : n ≤ 6) (o k : Nat) : wth (V (tcM v r x n)) 28 o k = wth (V (tcM I r x n)) 28 o k :=
  have h1 := tcM_28 hu hr x n hn
  have h2 : ∀ {f i j}, f ≠ 10 → f ≠ 11 → tcM v r x n f i j = tcM I r x n f i j := fun a b => by rw [tcM_n a b, tcM_n a b]; exact sq_e hu a b
  wth_e (I := V (tcM I r x n)) (u := V (tcM v r x n)) (fun q => mk_e (I := V (tcM I r x n)) (u := V (tcM v r x n)) (fun _ => h2 (by decide) (by decide)) q) (fun _ => h2 (by decide) (by decide)) (fun _ => h2 (by decide) (by decide)) (fun _ => h2 (by decide) (by decide)) (fun q hq => (h1 q hq).2) (show okM (tcM I r x n) from sq_M (sq_tc (Sm.rf (P := gM) (I := I)) r x n) hM)
def mnM (J : St) (r : Nat) : Nat → Int32
  | 0 => nI 0
  | n + 1 => if J 22 0 n = nI r then mnM J r n ||| b1 n else mnM J r n
def ftM (J : St) (r o : Nat) (w : Int64) (m : Int32) : Nat → Int32
  | 0 => -1
  | k + 1 => if (nI k &&& (m ^^^ (-1))) = 0 ∧ (ftM J r o w m k = -1 ∨ bc (nI k) < bc (ftM J r o w m k)) ∧ wth (V (tcM J r (nI k) (wt (V J)))) 28 o (kd J o) = w then nI k else ftM J r o w m k
def ndM (b : Int32) (w : Nat) : Int32 := if b = -1 then -1 else if w = 0 then bc b else b
theorem b1_pow : ∀ k, k ≤ 6 → b1 k = nI (2 ^ k) := by decide +kernel
theorem pow64 {k : Nat} (h : k ≤ 6) : 2 ^ k ≤ 64 := Nat.pow_le_pow_right (by decide) h
def cntM (J : St) (b : Nat) : Nat → Nat
  | 0 => 0
  | n + 1 => if sam J (b + n) 26 4 = true then cntM J b n + 1 else cntM J b n
theorem cntM_le (J : St) (b : Nat) : ∀ n, cntM J b n ≤ n
  | 0 => Nat.le_refl 0
  | n + 1 => by
    have := cntM_le J b n
    rw [cntM]
    split <;> omega
def asM (J : St) (n : Nat) : St := itr (fun i S => cpy S (28 + i) i) (mtM J 3) n
def dwM (J : St) (z : Int32) : Nat → St
  | 0 => asM J 4
  | n + 1 => jn (dwM J z n) (28 + rd (nz (nz (zs z n)))) (28 + rd (nz (zs z n)))
theorem n12345 : nI 12345 = 12345 := by decide +kernel
theorem sq_as {I u : St} (h : Sm gM I u) (n : Nat) : Sm gM I (asM u n) := Sm.itr (sq_mt h 3) (fun _ _ k => sq_cpy k (by omega)) n
theorem sq_dw {I u : St} (h : Sm gM I u) (z : Int32) : ∀ n, Sm gM I (dwM u z n)
  | 0 => sq_as h 4
  | n + 1 => sq_jn (sq_dw h z n) (by omega)
def lotM (J : St) (z : Int32) (n : Nat) : Nat := cntM (dwM J z n) 28 4
theorem lotM_le (J : St) (z : Int32) (n : Nat) : lotM J z n ≤ 4 := cntM_le _ _ _
theorem rowE_mtM {u v : St} (h : ∀ a, a < 4 → rowE u v a) : ∀ n, n ≤ 3 → rowE (mtM u n) (mtM v n) 26 ∧ ∀ a, a < 4 → rowE (mtM u n) (mtM v n) a
  | 0, _ => ⟨fun j hj => by have := h 0 (by decide) j hj; simp [mtM, itr, cpy, cpyP, hj, this], fun a ha j hj => by have := h a ha j hj; simp only [mtM, itr]; rw [cpy_i (by omega), cpy_i (by omega), cpy_i (by omega), cpy_i (by omega)]; exact this⟩
  | n + 1, hn => by
    obtain ⟨i1, i2⟩ := rowE_mtM h n (by omega)
    refine ⟨rowE_jn i1 i1 (i2 (n + 1) (by omega)), fun a ha j hj => ?_⟩
    show jn _ _ _ _ _ _ = jn _ _ _ _ _ _ ∧ jn _ _ _ _ _ _ = jn _ _ _ _ _ _
    rw [jn_i (by omega), jn_i (by omega), jn_i (by omega), jn_i (by omega)]
    exact i2 a ha j hj
theorem rowE_asM {u v : St} (h : ∀ a, a < 4 → rowE u v a) : ∀ n, n ≤ 4 → (∀ a, a < n → rowE (asM u n) (asM v n) (28 + a)) ∧ rowE (asM u n) (asM v n) 26 ∧ ∀ a, a < 4 → rowE (asM u n) (asM v n) a
  | 0, _ => ⟨fun a ha => absurd ha (by omega), (rowE_mtM h 3 (by omega)).1, (rowE_mtM h 3 (by omega)).2⟩
  | n + 1, hn => by
    obtain ⟨i1, i2, i3⟩ := rowE_asM h n (by omega)
    refine ⟨fun a ha => ?_, ?_, fun a ha => ?_⟩
    · by_cases e : a = n
      · subst e
        intro j hj
        have := i3 a (by omega) j hj
        show cpy _ _ _ _ _ _ = cpy _ _ _ _ _ _ ∧ cpy _ _ _ _ _ _ = cpy _ _ _ _ _ _
        simp only [cpy, cpyP, hj]
        simp only [asM, cpy] at this
        simpa using this
      · intro j hj
        show cpy _ _ _ _ _ _ = cpy _ _ _ _ _ _ ∧ cpy _ _ _ _ _ _ = cpy _ _ _ _ _ _
        rw [cpy_i (by omega), cpy_i (by omega), cpy_i (by omega), cpy_i (by omega)]
        exact i1 a (by omega) j hj
    · intro j hj
      show cpy _ _ _ _ _ _ = cpy _ _ _ _ _ _ ∧ cpy _ _ _ _ _ _ = cpy _ _ _ _ _ _
      rw [cpy_i (by omega), cpy_i (by omega), cpy_i (by omega), cpy_i (by omega)]
      exact i2 j hj
    · intro j hj
      show cpy _ _ _ _ _ _ = cpy _ _ _ _ _ _ ∧ cpy _ _ _ _ _ _ = cpy _ _ _ _ _ _
      rw [cpy_i (by omega), cpy_i (by omega), cpy_i (by omega), cpy_i (by omega)]
      exact i3 a ha j hj
theorem rowE_dwM {u v : St} (h : ∀ a, a < 4 → rowE u v a) (z : Int32) : ∀ n, (∀ a, a < 4 → rowE (dwM u z n) (dwM v z n) (28 + a)) ∧ rowE (dwM u z n) (dwM v z n) 26
  | 0 => ⟨(rowE_asM h 4 (by omega)).1, (rowE_asM h 4 (by omega)).2.1⟩
  | n + 1 => by
    obtain ⟨i1, i2⟩ := rowE_dwM h z n
    refine ⟨fun a ha => rowE_jn (i1 a ha) (i1 _ (rd_lt _)) (i1 _ (rd_lt _)), fun j hj => ?_⟩
    show jn _ _ _ _ _ _ = jn _ _ _ _ _ _ ∧ jn _ _ _ _ _ _ = jn _ _ _ _ _ _
    rw [jn_i (by omega), jn_i (by omega), jn_i (by omega), jn_i (by omega)]
    exact i2 j hj
theorem sam_e {u v : St} {a b : Nat} (ha : rowE u v a) (hb : rowE u v b) : ∀ n, n ≤ 4 → sam u a b n = sam v a b n
  | 0, _ => rfl
  | n + 1, hn => by rw [sam, sam, sam_e ha hb n (by omega), (ha n (by omega)).1, (ha n (by omega)).2, (hb n (by omega)).1, (hb n (by omega)).2]
theorem cntM_e {u v : St} {b : Nat} (h26 : rowE u v 26) (h : ∀ a, a < 4 → rowE u v (b + a)) : ∀ n, n ≤ 4 → cntM u b n = cntM v b n
  | 0, _ => rfl
  | n + 1, hn => by rw [cntM, cntM, sam_e (h n (by omega)) h26 4 (by omega), cntM_e h26 h n (by omega)]
theorem lotM_e {I v : St} (hu : Sm gM I v) (z : Int32) (n : Nat) : lotM v z n = lotM I z n :=
  have h := rowE_dwM (u := v) (v := I) (fun a ha j _ => ⟨sq_l hu (by omega), sq_l hu (by omega)⟩) z n
  cntM_e h.2 h.1 4 (by omega)
def chM (J : St) (z : Int32) : Nat → Nat
  | 0 => 0
  | n + 1 => if lotM J (z + nI n) 8 = 4 then chM J z n + 1 else chM J z n
theorem chM_le (J : St) (z : Int32) : ∀ n, chM J z n ≤ n
  | 0 => Nat.le_refl 0
  | n + 1 => by
    have := chM_le J z n
    rw [chM]
    split <;> omega
def cvM (J : St) (z : Int32) (m w : Nat) : Int32 := nI ((if w = 0 then chM J z m else m) / Nat.gcd m (chM J z m))
