/-! ===== sheets, what is told: both sides ===== -/
theorem s_u : ∀ n, n < 32 → (((nI n).toUInt32 &&& Int32.toUInt32 31).toBitVec % 32).toNat = n := by decide +kernel
theorem b_us (n : Nat) (hn : n < 32) (x : Int32) (i : Nat) : bt (us x (nI n)) i = bt x (n + i) := by
  show (x.toUInt32 >>> ((nI n).toUInt32 &&& Int32.toUInt32 31)).toBitVec.getLsbD i = x.toUInt32.toBitVec.getLsbD (n + i)
  rw [UInt32.toBitVec_shiftRight]
  show (x.toUInt32.toBitVec >>> (((nI n).toUInt32 &&& Int32.toUInt32 31).toBitVec % 32).toNat).getLsbD i = _
  rw [s_u n hn, BitVec.getLsbD_ushiftRight]
theorem b_1 : ∀ i, i < 32 → bt (nI 1) i = decide (i = 0) := by decide +kernel
theorem tb_b {x : Int32} {k : Nat} (hk : k < 32) : tb x k = bt x k := by
  cases hb : bt x k with
  | true =>
    refine decide_eq_true (b_ext (fun i hi => ?_))
    rw [b_and, b_us k hk, b_1 i hi]
    by_cases e : i = 0
    · subst e; rw [Nat.add_zero, hb]; rfl
    · rw [decide_eq_false e, Bool.and_false]
  | false =>
    refine decide_eq_false (fun q => ?_)
    have z : bt (us x (nI k) &&& nI 1) 0 = true := by rw [q]; decide +kernel
    rw [b_and, b_us k hk, Nat.add_zero, hb] at z
    exact absurd z (by decide)
theorem find_c {P Q : Nat → Bool} : ∀ l : List Nat, (∀ p, p ∈ l → P p = Q p) → l.find? P = l.find? Q
  | [], _ => rfl
  | p :: l, h => by
    rw [List.find?_cons, List.find?_cons, h p List.mem_cons_self, find_c l (fun q hq => h q (List.mem_cons_of_mem _ hq))]
theorem fow_c {P Q : Nat → Bool} {n : Nat} (h : ∀ j, j < n → P j = Q j) : fow P n = fow Q n := by
  rw [fow, fow, find_c _ (fun p hp => h p (List.mem_range.mp hp))]
theorem bits_c {P Q : Nat → Bool} : ∀ n, (∀ j, j < n → P j = Q j) → bits P n = bits Q n
  | 0, _ => rfl
  | n + 1, h => by rw [bits, bits, h n (by omega), bits_c n (fun j hj => h j (by omega))]
theorem fo_e {X Y : St} {k a b rm kf L : Nat} (h19 : ∀ j, j < L → X 19 k j = Y 19 k j) (hw : ∀ o q, wth X a o q = wth (V Y) b o q) (hL : L ≤ 4) (hk0 : kf = kd Y (4 * rm)) (hk : ∀ j, 0 < j → j < 4 → kd X (rm * 4 + j) = kd Y (rm * 4 + j)) : fo X k a rm kf L = foM Y k b rm L := by
  rw [fo, foM]
  refine fow_c (fun j hj => ?_)
  have ek : (if j = 0 then kf else kd X (rm * 4 + j)) = kd Y (4 * rm + j) := by
    by_cases e : j = 0
    · subst e; rw [if_pos rfl, hk0, Nat.add_zero]
    · rw [if_neg e, hk j (by omega) (by omega), Nat.mul_comm]
  rw [foq, foP, ek, hw, h19 j hj, Nat.mul_comm rm 4]
  exact decide_eq_decide.mpr (not_congr eq_comm)
theorem sb_one : ∀ q, q < 6 → ∀ n, n < 6 → sb (b1 q) n = decide (n = q) := by decide +kernel
theorem tcM_one {J : St} {r q : Nat} (hq : q < 6) : ∀ n, n ≤ 6 → tcM J r (b1 q) n = if q < n then thM J r q else cpy J 28 r
  | 0, _ => rfl
  | n + 1, hn => by
    rw [tcM, sb_one q hq n (by omega), tcM_one hq n (by omega)]
    by_cases e : n = q
    · subst e
      rw [if_pos (by simp), if_neg (Nat.lt_irrefl n), if_pos (Nat.lt_succ_self n)]
      rfl
    · rw [if_neg (by simp [e])]
      by_cases c : q < n
      · rw [if_pos c, if_pos (by omega)]
      · rw [if_neg c, if_neg (by omega)]
theorem tells_a {I J : St} (h : Rel I J) {k r a : Nat} (hk : k < 4) (hr : r < 4) (ha : a < 3) (w : Nat) : tls I k r a w = tlM J k r a w := by
  have hsl := h.sl hk
  have h19 := (h.sh k hk).2.2.1
  have hw6 := h.w6
  rw [hsl] at h19
  rw [tls, tlM, hsl]
  by_cases c : 4 < sl (V J) k ∨ (w = 2 ∧ sl (V J) k = 0)
  · rw [if_pos c, if_pos c]
  · rw [if_neg c, if_neg c]
    have hL : sl (V J) k ≤ 4 := by omega
    have ek0 : kd I (a * 4) = kd J (4 * a) := by rw [h.kd (show a * 4 < 12 by omega), Nat.mul_comm]
    have ekj : ∀ j, 0 < j → j < 4 → kd I (a * 4 + j) = kd J (a * 4 + j) := fun j _ hj => h.kd (show a * 4 + j < 12 by omega)
    have e0 : ∀ q, q < 4 → fo I k q a (kd I (a * 4)) (sl (V J) k) = foM J k q a (sl (V J) k) := fun q hq => fo_e h19 (fun o z => h.wth hq o z) hL ek0 ekj
    by_cases c0 : w = 0
    · rw [if_pos c0, if_pos c0]; exact e0 r hr
    · rw [if_neg c0, if_neg c0]
      by_cases c1 : w = 1
      · rw [if_pos c1, if_pos c1]
        refine bits_c 4 (fun q hq => ?_)
        rw [e0 q hq]; rfl
      · rw [if_neg c1, if_neg c1]
        by_cases c2 : w = 2
        · rw [if_pos c2, if_pos c2]
          refine bits_c 6 (fun q hq => ?_)
          have e : fo I k r a q (sl (V J) k) = foM (up3 J 16 0 (4 * a) (nI q)) k r a (sl (V J) k) := by
            refine fo_e (fun j hj => (h19 j hj).trans (up3_f (by decide)).symm) (fun o z => ?_) hL ?_ (fun j h0 hj => ?_)
            · exact wthX h (fun _ _ _ _ _ => rfl) (fun f i j _ _ => up3_f (by omega)) (rowX_e (h.row (show r < 20 by omega)) (fun _ _ _ => rfl) (fun f j _ => up3_f (by omega))) o z
            · rw [kd, up3_s, nI_clamp (by omega)]
            · rw [ekj j h0 hj, kd, kd, up3_n (by omega)]
          rw [e]; rfl
        · rw [if_neg c2, if_neg c2, h.wt]
          refine bits_c _ (fun q hq => ?_)
          have e : fo (tcP I r (b1 q) (wt (V J))) k 34 a (kd I (a * 4)) (sl (V J) k) = foM (thM J r q) k 28 a (sl (V J) k) := by
            have et : thM J r q = tcM J r (b1 q) (wt (V J)) := by rw [tcM_one (by omega) _ hw6, if_pos hq]
            rw [et]
            refine fo_e (fun j hj => ?_) (fun o z => ?_) hL ?_ (fun j h0 hj => ?_)
            · rw [tcP_n (by decide) (by decide), tcM_n (by decide) (by decide)]; exact h19 j hj
            · exact wthX h (fun f i j _ _ => tcP_n (by omega) (by omega) _) (fun f i j _ _ => tcM_n (by omega) (by omega) _) (tc_row h hr _ _ (Nat.le_refl _)) o z
            · rw [ek0]; exact (kd_e (fun _ => tcM_n (by decide) (by decide) _) _).symm
            · rw [kd_e (I := I) (fun _ => tcP_n (by decide) (by decide) _), ekj j h0 hj]
              exact (kd_e (fun _ => tcM_n (by decide) (by decide) _) _).symm
          rw [tlP3, ← e, mto_p h r _ (Nat.le_refl _), tb_b (by omega), mn_bt (by omega) _ hw6, decide_eq_true hq, Bool.true_and]
/-- sheets alone change -/
theorem Rel_sh {I J u v : St} (h : Rel I J) (h1 : ∀ f i j, f ≠ 7 → f ≠ 19 → f ≠ 20 → u f i j = I f i j) (h2 : ∀ f i j, f ≠ 19 → f ≠ 23 → f ≠ 24 → f ≠ 25 → v f i j = J f i j) (hs : SH u v) : Rel u v := by
  have ew : wt (V v) = wt (V J) := wt_V (h2 _ _ _ (by decide) (by decide) (by decide) (by decide))
  have n1 : ∀ f, f ≠ 7 → f ≠ 19 → f ≠ 20 → ∀ i j, u f i j = I f i j := fun f a b c i j => h1 f i j a b c
  have n2 : ∀ f, f < 19 → ∀ i j, v f i j = J f i j := fun f a i j => h2 f i j (by omega) (by omega) (by omega) (by omega)
  refine Rel_step h (fun f i j z => h1 f i j ?_ ?_ ?_) (fun f i j z => h2 f i j ?_ ?_ ?_ ?_) ?_ ?_ hs (PM_e (fun j _ => n1 6 (by decide) (by decide) (by decide) 0 j) h.pm)
  · unfold F1 at z; omega
  · unfold F1 at z; omega
  · unfold F1 at z; omega
  · unfold FM at z; omega
  · unfold FM at z; omega
  · unfold FM at z; omega
  · unfold FM at z; omega
  · refine NW_m h.now h.pm h.w6 (fun f i j z => h1 f i j ?_ ?_ ?_) (fun f i j z => h2 f i j ?_ ?_ ?_ ?_) (fun s hs => rowX_e (h.row hs) (fun f j hf => h1 f s j (by omega) (by omega) (by omega)) (fun f j hf => n2 f (by omega) s j)) (fun x hx => ?_) (fun p hp => ?_) (fun o ho => ?_) (fun p hp => ?_)
    · unfold MC at z; omega
    · unfold MC at z; omega
    · unfold MC at z; omega
    · unfold MD at z; omega
    · unfold MD at z; omega
    · unfold MD at z; omega
    · unfold MD at z; omega
    · rw [n1 12 (by decide) (by decide) (by decide), n2 12 (by decide)]; exact h.now.mad hx
    · rw [n1 13 (by decide) (by decide) (by decide), n1 14 (by decide) (by decide) (by decide), n1 15 (by decide) (by decide) (by decide), show V v 13 0 p = V J 13 0 p from n2 13 (by decide) _ _, show V v 14 0 p = V J 14 0 p from n2 14 (by decide) _ _, show V v 15 0 p = V J 15 0 p from n2 15 (by decide) _ _]
      exact h.now.dot hp
    · rw [n1 16 (by decide) (by decide) (by decide), n2 16 (by decide)]; exact h.now.knd ho
    · rw [n1 17 (by decide) (by decide) (by decide), show V v 17 0 p = V J 17 0 p from n2 17 (by decide) _ _]; exact h.now.kno hp
  · refine ⟨okM_e (I := V J) (u := V v) (fun x => n2 12 (by decide) 0 x) h.ok.M, okK_e (I := V J) (u := V v) (fun x => n2 16 (by decide) 0 x) h.ok.K, okT_e (I := V J) (u := V v) (n2 0 (by decide) 0 8) h.ok.T, fun j hj => ?_, fun p hp => ?_, fun s hs => ?_, fun j hj => ?_⟩
    · rw [ew] at hj
      obtain ⟨a, b, ha, hb, ea, eb⟩ := h.ok.A hj
      exact ⟨a, b, ha, hb, (h2 21 0 j (by decide) (by decide) (by decide) (by decide)).trans ea, (h2 22 0 j (by decide) (by decide) (by decide) (by decide)).trans eb⟩
    · obtain ⟨x, hx, e⟩ := h.ok.O hp
      exact ⟨x, hx, (n2 15 (by decide) _ _).trans e⟩
    · exact sub_e (A := V v) (B := V J) (fun j _ => ⟨n2 10 (by decide) s j, n2 11 (by decide) s j⟩) (h.ok.S hs)
    · rw [ew] at hj
      exact sub_e (A := V v) (B := V J) (fun c _ => ⟨n2 10 (by decide) _ c, n2 11 (by decide) _ c⟩) (h.ok.L hj)
/-- a sheet is made -/
theorem shb_7 (I : St) (k : Nat) (so le : Int32) (i j : Nat) : shb I k so le 7 i j = if i = k ∧ j = 1 then le else if i = k ∧ j = 0 then so else I 7 i j := by
  rw [shb, shP_n (by decide)]
  simp [up3]
theorem shb_19 (I : St) (k : Nat) (so le : Int32) (i j : Nat) : shb I k so le 19 i j = if i = k ∧ j < 40 then nI 0 else I 19 i j := by
  rw [shb]
  simp [shP, up3]
theorem shb_n {I : St} {k : Nat} {so le : Int32} {f i j : Nat} (h : f ≠ 7) (h2 : f ≠ 19) : shb I k so le f i j = I f i j := by
  rw [shb, shP_n h2, up3_f h, up3_f h]
theorem sheet_x {I J : St} (h : Rel I J) {k n : Nat} {so : Int32} (hn : n ≤ 40) (hso : so = -1 ∨ so = nI 0 ∨ so = nI 1) : Rel (shb I k so (nI n)) (shP (up3 (up3 J 23 0 k so) 24 0 k (nI n)) k 40) := by
  refine Rel_sh h (fun f i j a b _ => shb_n a b) (fun f i j a b c _ => ?_) (fun q hq => ?_)
  · rw [shP_n a, up3_f c, up3_f b]
  · have a0 : shb I k so (nI n) 7 q 0 = if q = k then so else I 7 q 0 := by rw [shb_7]; simp
    have a1 : shb I k so (nI n) 7 q 1 = if q = k then nI n else I 7 q 1 := by rw [shb_7]; simp
    have b0 : shP (up3 (up3 J 23 0 k so) 24 0 k (nI n)) k 40 23 0 q = if q = k then so else J 23 0 q := by rw [shP_n (by decide)]; simp [up3]
    have b1 : shP (up3 (up3 J 23 0 k so) 24 0 k (nI n)) k 40 24 0 q = if q = k then nI n else J 24 0 q := by rw [shP_n (by decide)]; simp [up3]
    have c0 : ∀ j, shP (up3 (up3 J 23 0 k so) 24 0 k (nI n)) k 40 19 q j = if q = k ∧ j < 40 then nI 0 else J 19 q j := fun j => by simp [shP, up3]
    have es : sl (shb I k so (nI n)) q = if q = k then n else sl I q := by
      rw [sl, a1]
      split
      · exact tn_nI (by omega)
      · rfl
    rw [a0, a1, b0, b1, es]
    by_cases e : q = k
    · simp only [if_pos e]
      refine ⟨trivial, trivial, fun j hj => ?_, hso, trivial, hn⟩
      rw [shb_19, c0, if_pos ⟨e, by omega⟩, if_pos ⟨e, by omega⟩]
    · simp only [if_neg e]
      obtain ⟨x1, x2, x3, x4⟩ := h.sh q hq
      refine ⟨x1, x2, fun j hj => ?_, x4⟩
      rw [shb_19, c0, if_neg (fun z => e z.1), if_neg (fun z => e z.1)]
      exact x3 j hj
theorem so_c {so : Int32} (h : okR (-1) (nI 1) so = true) : so = -1 ∨ so = nI 0 ∨ so = nI 1 := by
  simp only [okR, Bool.and_eq_true, Bool.not_eq_true', decide_eq_false_iff_not] at h
  obtain ⟨h1, h2⟩ := h
  have h1 := Int32.not_lt.mp h1
  have h2 := Int32.not_lt.mp h2
  rw [Int32.le_iff_toInt_le] at h1 h2
  have e1 : (-1 : Int32).toInt = -1 := by decide
  have e2 : (nI 1).toInt = 1 := by decide
  have e0 : (nI 0).toInt = 0 := by decide
  rw [e1] at h1
  rw [e2] at h2
  rcases (by omega : so.toInt = -1 ∨ so.toInt = 0 ∨ so.toInt = 1) with q | q | q
  · exact Or.inl (Int32.toInt.inj (q.trans e1.symm))
  · exact Or.inr (Or.inl (Int32.toInt.inj (q.trans e0.symm)))
  · exact Or.inr (Or.inr (Int32.toInt.inj (q.trans e2.symm)))
theorem so_n : ¬ (nI 0 : Int32) = -1 ∧ ¬ (nI 1 : Int32) = -1 ∧ ¬ (nI 0 : Int32) < 0 ∧ ¬ (nI 1 : Int32) < 0 ∧ (-1 : Int32) < 0 := by decide +kernel
theorem so_lt {so : Int32} (h : so = -1 ∨ so = nI 0 ∨ so = nI 1) : (so < 0) ↔ so = -1 := by
  obtain ⟨a, b, c, d, e⟩ := so_n
  rcases h with rfl | rfl | rfl
  · exact ⟨fun _ => rfl, fun _ => e⟩
  · exact ⟨fun q => absurd q c, fun q => absurd q a⟩
  · exact ⟨fun q => absurd q d, fun q => absurd q b⟩
theorem sheet_a {so n : Int32} (h : okR (-1) (nI 1) so = true) : (if so = -1 then nI 1 else if nI 40 < n then -2 else if n < 0 then -14 else nI 1) = (if (¬ so < 0 ∧ nI 40 < n) then -2 else if (¬ so < 0 ∧ n < 0) then -14 else nI 1) := by
  have e := so_lt (so_c h)
  by_cases c : so = -1
  · have c2 := e.mpr c
    rw [if_pos c, if_neg (fun q => q.1 c2), if_neg (fun q => q.1 c2)]
  · have c2 : ¬ so < 0 := fun q => c (e.mp q)
    rw [if_neg c]
    simp only [c2, not_false_eq_true, true_and]
theorem sheet_r {I J : St} (h : Rel I J) {k : Nat} {so n : Int32} (hso : okR (-1) (nI 1) so = true) : Rel (shv I k so n) (if (¬ so < 0 ∧ nI 40 < n) then J else if (¬ so < 0 ∧ n < 0) then J else shM J k so n) := by
  have e := so_lt (so_c hso)
  rw [shv]
  by_cases c : so = -1
  · have c2 := e.mpr c
    rw [if_pos c, if_neg (fun q => q.1 c2), if_neg (fun q => q.1 c2), shM, if_pos c2, ← c]
    exact sheet_x h (by decide) (so_c hso)
  · have c2 : ¬ so < 0 := fun q => c (e.mp q)
    rw [if_neg c]
    by_cases d1 : nI 40 < n
    · rw [if_pos (Or.inl d1), if_pos ⟨c2, d1⟩]; exact h
    · by_cases d2 : n < 0
      · rw [if_pos (Or.inr d2), if_neg (fun q => d1 q.2), if_pos ⟨c2, d2⟩]; exact h
      · rw [if_neg (fun q => q.elim d1 d2), if_neg (fun q => d1 q.2), if_neg (fun q => d2 q.2), shM, if_neg c2]
        obtain ⟨m, hm, rfl⟩ := rng (by decide) d2 d1
        exact sheet_x h hm (so_c hso)
/-- items -/
theorem rf_e {I J : St} (h : Rel I J) (s i : Int32) : rfi I s i = rfM J s i := by
  rw [rfi, rfM]
  by_cases c : okN (nI 4) s = true
  · rw [if_pos c, if_pos c]
    obtain ⟨k, hk, rfl⟩ := okN_nI (by decide) c
    rw [tn_nI (by omega)]
    obtain ⟨x1, x2, x3, x4, x5⟩ := h.sh k hk
    have e := so_lt x4
    rw [x1, x2]
    by_cases c1 : J 23 0 k = -1
    · rw [if_pos c1, if_pos (e.mpr c1)]
    · rw [if_neg c1, if_neg (fun q => c1 (e.mp q))]
      by_cases c2 : i < 0
      · rw [if_pos c2, if_neg]
        rw [okN_a c2]; decide
      · rw [if_neg c2]
        by_cases c3 : J 24 0 k ≤ i
        · rw [if_pos c3, if_neg]
          rw [okN_b (Int32.not_lt.mpr c3)]; decide
        · rw [if_neg c3, if_pos]
          simp [okN, c2, c3]
  · rw [if_neg c, if_neg c]
theorem put_r {I J : St} (h : Rel I J) {s i : Int32} (hz : rfi I s i = 0) (v : Int32) : Rel (up3 I 19 (tn s) (tn i) (ptv I (tn s) v)) (up3 J 19 (tn s) (tn i) (ptM J (tn s) v)) := by
  obtain ⟨k, j, hk, rfl, h1, rfl, hj, hl⟩ := rfi_0 h.okS hz
  rw [tn_nI (by omega), tn_nI (by omega)]
  obtain ⟨x1, x2, x3, x4, x5⟩ := h.sh k hk
  have ep : ptv I k v = ptM J k v := by
    rw [ptv, ptM, x1]
    rw [x1] at h1
    rcases x4 with q | q | q
    · exact absurd q h1
    · rw [q, if_neg (by decide +kernel), if_pos (by decide +kernel)]
    · rw [q, if_pos rfl, if_neg (by decide +kernel)]
  rw [ep]
  refine Rel_sh h (fun f i z a b _ => up3_f b) (fun f i z a _ _ _ => up3_f a) (fun q hq => ?_)
  have es : sl (up3 I 19 k j (ptM J k v)) q = sl I q := by rw [sl, sl, up3_f (by decide)]
  rw [es, up3_f (by decide), up3_f (by decide), up3_f (by decide), up3_f (by decide)]
  obtain ⟨y1, y2, y3, y4⟩ := h.sh q hq
  refine ⟨y1, y2, fun z hz => ?_, y4⟩
  by_cases e : 19 = 19 ∧ q = k ∧ z = j
  · rw [e.2.1, e.2.2, up3_s, up3_s]
  · rw [up3_n e, up3_n e]; exact y3 z hz
theorem item_a {I J : St} (h : Rel I J) {s i : Int32} (hz : rfi I s i = 0) : I 19 (tn s) (tn i) = J 19 (tn s) (tn i) := by
  obtain ⟨k, j, hk, rfl, h1, rfl, hj, hl⟩ := rfi_0 h.okS hz
  rw [tn_nI (by omega), tn_nI (by omega)]
  exact (h.sh k hk).2.2.1 j hj
theorem item_n (x : Int64) : (-1000000000000 : Int64) + x = x - 1000000000000 := by
  rw [Int64.sub_eq_add_neg, Int64.add_comm]
theorem hld_e {I J : St} (h : Rel I J) {k : Nat} (hk : k < 4) (a n : Int32) : hld I k a n = hld (V J) k a n := by
  rw [hld, hld, (h.sh k hk).2.1]
  rfl
theorem hld_c {I J : St} (h : Rel I J) {k o : Nat} (hk : k < 4) (ho : o < 4) (i j n : Int32) : (hld I k i n && hld I o j n) = true ↔ ¬ (n < 0 ∨ i < 0 ∨ j < 0 ∨ J 24 0 k - n < i ∨ J 24 0 o - n < j) := by
  rw [hld_e h hk, hld_e h ho]
  constructor
  · intro q
    simp only [hld, Bool.and_eq_true, Bool.not_eq_true', decide_eq_false_iff_not] at q
    obtain ⟨⟨⟨⟨a1, a2⟩, a3⟩, a4⟩, ⟨⟨b1, b2⟩, b3⟩, b4⟩ := q
    rintro (z | z | z | z | z)
    · exact a2 z
    · exact a1 z
    · exact b1 z
    · exact a4 z
    · exact b4 z
  · intro q
    rw [hl_V (h.okSJ k hk) (fun z => q (Or.inr (Or.inl z))) (fun z => q (Or.inl z)) (fun z => q (Or.inr (Or.inr (Or.inr (Or.inl z))))), hl_V (h.okSJ o ho) (fun z => q (Or.inr (Or.inr (Or.inl z)))) (fun z => q (Or.inl z)) (fun z => q (Or.inr (Or.inr (Or.inr (Or.inr z)))))]
    rfl
theorem copy_a {I J : St} (h : Rel I J) {k o : Nat} (hk : k < 4) (ho : o < 4) (i j n : Int32) : cpr I k i o j n = cprM J k i o j n := by
  obtain ⟨x1, x2, x3, x4, x5⟩ := h.sh k hk
  obtain ⟨y1, y2, y3, y4, y5⟩ := h.sh o ho
  have ex := so_lt x4
  have ey := so_lt y4
  have hc := hld_c h hk ho i j n
  rw [cpr, cprM, x1, y1]
  by_cases c : J 23 0 k = -1 ∨ J 23 0 o = -1
  · rw [if_pos c, if_pos (c.elim (fun q => Or.inl (ex.mpr q)) (fun q => Or.inr (ey.mpr q)))]
  · have c2 : ¬ (J 23 0 k < 0 ∨ J 23 0 o < 0) := fun q => c (q.elim (fun q => Or.inl (ex.mp q)) (fun q => Or.inr (ey.mp q)))
    rw [if_neg c, if_neg c2]
    by_cases d : ¬ J 23 0 k = J 23 0 o
    · rw [if_pos d, if_pos d]
    · rw [if_neg d, if_neg d]
      by_cases e : (hld I k i n && hld I o j n) = true
      · rw [if_neg (fun q => q e), if_neg (hc.mp e)]
      · rw [if_pos e, if_pos (Decidable.not_not.mp (fun q => e (hc.mpr q)))]
theorem copy_r {I J : St} (h : Rel I J) {k o : Nat} (hk : k < 4) (ho : o < 4) (i j n : Int32) : Rel (cps I k i o j n) (cpsM J k i o j n) := by
  obtain ⟨x1, x2, x3, x4, x5⟩ := h.sh k hk
  obtain ⟨y1, y2, y3, y4, y5⟩ := h.sh o ho
  have ex := so_lt x4
  have ey := so_lt y4
  have hc := hld_c h hk ho i j n
  rw [cps, cpsM, x1, y1]
  by_cases c : J 23 0 k = -1 ∨ J 23 0 o = -1
  · rw [if_pos c, if_pos (c.elim (fun q => Or.inl (ex.mpr q)) (fun q => Or.inr (ey.mpr q)))]; exact h
  · have c2 : ¬ (J 23 0 k < 0 ∨ J 23 0 o < 0) := fun q => c (q.elim (fun q => Or.inl (ex.mp q)) (fun q => Or.inr (ey.mp q)))
    rw [if_neg c, if_neg c2]
    by_cases d : ¬ J 23 0 k = J 23 0 o
    · rw [if_pos d, if_pos d]; exact h
    · rw [if_neg d, if_neg d]
      by_cases e : (hld I k i n && hld I o j n) = true
      · rw [if_neg (fun q => q e), if_neg (hc.mp e)]
        rw [Bool.and_eq_true] at e
        obtain ⟨a, b, q, rfl, rfl, rfl, h1, h2, h3, h4⟩ := hld_2 x5 y5 e.1 e.2
        rw [tn_nI (by omega), tn_nI (by omega), tn_nI (by omega)]
        refine Rel_sh h (fun f x z _ a1 _ => cp3_n a1) (fun f x z a1 _ _ a2 => ?_) (fun p hp => ?_)
        · rw [cp3_n a1, cp3_n a2]
        · have es : sl (cp3 I 19 k 19 o a b q) p = sl I p := by rw [sl, sl, cp3_n (by decide)]
          rw [es, cp3_n (by decide), cp3_n (by decide), cp3_n (by decide), cp3_n (by decide), cp3_n (by decide), cp3_n (by decide)]
          obtain ⟨z1, z2, z3, z4⟩ := h.sh p hp
          refine ⟨z1, z2, fun y hy => ?_, z4⟩
          by_cases g : p = o ∧ b ≤ y ∧ y < b + q
          · have e1 : cp3 I 19 k 19 o a b q 19 p y = I 19 k (a + (y - b)) := by simp only [cp3]; rw [if_pos ⟨trivial, g.1, g.2⟩]
            have e2 : cp3 (cp3 J 19 k 25 0 a 0 q) 25 0 19 o 0 b q 19 p y = J 19 k (a + (y - b)) := by
              simp only [cp3]
              rw [if_pos ⟨trivial, g.1, g.2⟩, if_pos ⟨trivial, trivial, by omega, by omega⟩]
              congr 1
              omega
            rw [e1, e2]
            exact x3 _ (by omega)
          · have e1 : cp3 I 19 k 19 o a b q 19 p y = I 19 p y := by simp only [cp3]; rw [if_neg (fun z => g z.2)]
            have e2 : cp3 (cp3 J 19 k 25 0 a 0 q) 25 0 19 o 0 b q 19 p y = J 19 p y := by
              simp only [cp3]
              rw [if_neg (fun z => g z.2), if_neg (fun z => absurd z.1 (by decide))]
            rw [e1, e2]
            exact z3 y hy
      · rw [if_pos e, if_pos (Decidable.not_not.mp (fun q => e (hc.mpr q)))]; exact h
/-- a film -/
theorem flP_7 {I : St} {k r a n i j : Nat} : ∀ q, flP I k r a n q 7 i j = shb I k (nI 0) (nI n) 7 i j
  | 0 => rfl
  | q + 1 => by rw [flP, up3_f (by decide), gst_n (by decide)]; exact flP_7 q
theorem flP_w {I : St} (hM : okM I) {k r a n : Nat} (q o z : Nat) : wth (flP I k r a n q) r o z = wth I r o z :=
  wth_b (fun x _ => mk_e (fun _ => flP_n (by decide) (by decide) (by decide) q) x) (fun p _ => ⟨flP_n (by decide) (by decide) (by decide) q, flP_n (by decide) (by decide) (by decide) q, flP_n (by decide) (by decide) (by decide) q⟩) (fun x _ => flP_n (by decide) (by decide) (by decide) q) hM
theorem flM_w {J : St} (hM : okM J) {k r a n : Nat} (q o z : Nat) : wth (V (flM J k r a n q)) r o z = wth (V J) r o z :=
  wth_b (I := V J) (u := V (flM J k r a n q)) (fun x _ => mk_e (I := V J) (u := V (flM J k r a n q)) (fun _ => flM_n (by decide) (by decide) (by decide) q) x) (fun p _ => ⟨flM_n (by decide) (by decide) (by decide) q, flM_n (by decide) (by decide) (by decide) q, flM_n (by decide) (by decide) (by decide) q⟩) (fun x _ => flM_n (by decide) (by decide) (by decide) q) hM
theorem flP_i {I : St} (hM : okM I) {k r a n : Nat} : ∀ q j, j < q → flP I k r a n q 19 k j = (wth I r (a * 4 + j) (kd I (a * 4 + j))).toInt32
  | 0, j, hj => absurd hj (Nat.not_lt_zero _)
  | q + 1, j, hj => by
    rw [flP]
    by_cases e : j = q
    · subst e
      rw [up3_s, flP_w hM, kd_e (I := I) (fun _ => flP_n (by decide) (by decide) (by decide) j)]
    · rw [up3_n (by omega), gst_n (by decide)]
      exact flP_i hM q j (by omega)
theorem flM_i {J : St} (hM : okM J) {k r a n : Nat} : ∀ q j, j < q → flM J k r a n q 19 k j = (wth (V J) r (4 * a + j) (kd J (4 * a + j))).toInt32
  | 0, j, hj => absurd hj (Nat.not_lt_zero _)
  | q + 1, j, hj => by
    rw [flM]
    by_cases e : j = q
    · subst e
      rw [up3_s, flM_w hM, kd_e (I := J) (fun _ => flM_n (by decide) (by decide) (by decide) j)]
    · rw [up3_n (by omega)]
      exact flM_i hM q j (by omega)
theorem flP_o {I : St} {k r a n i j : Nat} (h : i ≠ k) : ∀ q, flP I k r a n q 19 i j = I 19 i j
  | 0 => by rw [flP, shb_19, if_neg (fun z => h z.1)]
  | q + 1 => by rw [flP, up3_n (by omega), gst_n (by decide)]; exact flP_o h q
theorem flM_o {J : St} {k r a n f i j : Nat} (h : f ≠ 19 ∨ i ≠ k) : ∀ q, flM J k r a n q f i j = up3 (up3 J 23 0 k (nI 0)) 24 0 k (nI n) f i j
  | 0 => rfl
  | q + 1 => by rw [flM, up3_n (by omega)]; exact flM_o h q
theorem film_r {I J : St} (h : Rel I J) {k r a n : Nat} (hr : r < 4) (ha : a < 3) (hn : n ≤ 4) : Rel (flP I k r a n n) (flM J k r a n n) := by
  refine Rel_sh h (fun f i j x y z => flP_n x y z n) (fun f i j x y z _ => flM_n x y z n) (fun q hq => ?_)
  have a0 : flP I k r a n n 7 q 0 = if q = k then nI 0 else I 7 q 0 := by rw [flP_7, shb_7]; simp
  have a1 : flP I k r a n n 7 q 1 = if q = k then nI n else I 7 q 1 := by rw [flP_7, shb_7]; simp
  have b0 : flM J k r a n n 23 0 q = if q = k then nI 0 else J 23 0 q := by rw [flM_o (Or.inl (by decide))]; simp [up3]
  have b1 : flM J k r a n n 24 0 q = if q = k then nI n else J 24 0 q := by rw [flM_o (Or.inl (by decide))]; simp [up3]
  have es : sl (flP I k r a n n) q = if q = k then n else sl I q := by
    rw [sl, a1]
    split
    · exact tn_nI (by omega)
    · rfl
  rw [a0, a1, b0, b1, es]
  by_cases e : q = k
  · simp only [if_pos e]
    refine ⟨trivial, trivial, fun j hj => ?_, Or.inr (Or.inl trivial), trivial, by omega⟩
    rw [e, flP_i h.okM n j hj, flM_i h.okMJ n j hj, h.wth hr, h.kd (show a * 4 + j < 12 by omega), Nat.mul_comm a 4]
  · simp only [if_neg e]
    obtain ⟨x1, x2, x3, x4⟩ := h.sh q hq
    refine ⟨x1, x2, fun j hj => ?_, x4⟩
    rw [flP_o e, flM_o (Or.inr e), up3_f (by decide), up3_f (by decide)]
    exact x3 j hj
