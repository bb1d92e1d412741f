/-! ===== what would be: both sides ===== -/
theorem join0 {X Y : St} {s w t x : Nat} (h : rowX X Y w x) (hw : w ≠ s) : rowX (jn (clr X s) s w) (cpy Y t x) s t := fun j hj => by
  have z1 := clr_z (S := X) (s := s) hj
  have w1 : clr X s 10 w j = X 10 w j := clr_i hw
  have w2 : clr X s 11 w j = X 11 w j := clr_i hw
  have e1 : jn (clr X s) s w 10 s j = jH (clr X s) s w j := by simp [jn, jnP, hj]
  have e2 : jn (clr X s) s w 11 s j = jA (clr X s) s w j := by simp [jn, jnP, hj]
  have c1 : cpy Y t x 10 t j = Y 10 x j := by simp [cpy, cpyP, hj]
  have c2 : cpy Y t x 11 t j = Y 11 x j := by simp [cpy, cpyP, hj]
  rw [e1, e2, c1, c2, jH, jA, z1.1, z1.2, w1, w2, (h j hj).1, (h j hj).2]
  refine ⟨b_ext (fun i hi => ?_), b_ext (fun i hi => ?_)⟩
  · rw [b_or, b_n0, Bool.false_or]
  · rw [b_or, b_or, b_and, b_and, b_and, b_no _ hi, b_no _ hi, b_n0]
    cases bt (Y 11 x j) i <;> cases bt (Y 10 x j) i <;> rfl
theorem mtM_i {J : St} {n f i j : Nat} (h : i ≠ 26) : mtM J n f i j = J f i j := by
  have e : ∀ n, itr (fun i S => jn S 26 (i + 1)) (cpy J 26 0) n f i j = J f i j := fun n => by
    induction n with
    | zero => exact cpy_i h
    | succ n ih =>
      show jn _ 26 _ f i j = _
      rw [jn_i h]; exact ih
  exact e n
theorem mtP_i {I : St} {b n f i j : Nat} (h : i ≠ 32) : mtP I b n f i j = I f i j := by
  have e : ∀ n, itr (fun i S => jn S 32 (i + b)) (clr I 32) n f i j = I f i j := fun n => by
    induction n with
    | zero => exact clr_i h
    | succ n ih =>
      show jn _ 32 _ f i j = _
      rw [jn_i h]; exact ih
  exact e n
theorem mtP_n {I : St} {b n f i j : Nat} (h10 : f ≠ 10) (h11 : f ≠ 11) : mtP I b n f i j = I f i j := by
  have e : ∀ n, itr (fun i S => jn S 32 (i + b)) (clr I 32) n f i j = I f i j := fun n => by
    induction n with
    | zero => exact clr_n h10 h11
    | succ n ih =>
      show jn _ 32 _ f i j = _
      rw [jn_n h10 h11]; exact ih
  exact e n
theorem mt_row {I J : St} (h : ∀ a, a < 4 → rowX I J a a) : rowX (mtP I 0 4) (mtM J 3) 32 26 := by
  have k : ∀ n, n ≤ 3 → rowX (mtP I 0 (n + 1)) (mtM J n) 32 26 := fun n => by
    induction n with
    | zero =>
      intro _
      exact join0 (h 0 (by decide)) (by decide)
    | succ n ih =>
      intro hn
      refine rowX_jn (by omega) (ih (by omega)) (fun _ => ?_)
      refine rowX_e (h (n + 1) (by omega)) (fun f j _ => ?_) (fun f j _ => ?_)
      · exact mtP_i (n := n + 1) (by omega)
      · exact mtM_i (n := n) (by omega)
  exact k 3 (by omega)
theorem met_a {I J : St} (h : Rel I J) (o k : Nat) : wth (mtP I 0 4) 32 o k = wth (V (mtM J 3)) 26 o k :=
  wthX h (fun f i j a b => mtP_n (by omega) (by omega)) (fun f i j a b => mtM_n (by omega) (by omega)) (mt_row (fun a ha => h.row (show a < 20 by omega))) o k
theorem same_sam {X Y : St} {a b c d : Nat} (h1 : rowX X Y a c) (h2 : rowX X Y b d) : same0 X a b = sam Y c d 4 := by
  rw [Bool.eq_iff_iff, same_i, sam_i]
  constructor
  · intro h j hj
    rw [← (h1 j hj).1, ← (h1 j hj).2, ← (h2 j hj).1, ← (h2 j hj).2]
    exact h j hj
  · intro h j hj
    rw [(h1 j hj).1, (h1 j hj).2, (h2 j hj).1, (h2 j hj).2]
    exact h j hj
theorem ah_row {X Y : St} {a b : Nat} (h : ∀ c, c < 4 → rowX X Y c c) (ha : a < 4) (hb : b < 4) : rowX (ahS X a b) (ahM Y a b) 34 28 ∧ ∀ c, c < 4 → rowX (ahS X a b) (ahM Y a b) c c := by
  have k : ∀ c, c < 4 → rowX (cpy X 34 a) (cpy Y 28 a) c c := fun c hc => rowX_cpy (by omega) (fun _ => h c hc) (fun _ => h a ha)
  have k2 : rowX (cpy X 34 a) (cpy Y 28 a) 34 28 := rowX_cpy (by omega) (fun q => absurd rfl q) (fun _ => h a ha)
  exact ⟨rowX_jn (by omega) k2 (fun _ => k b hb), fun c hc => rowX_jn (by omega) (k c hc) (fun _ => k b hb)⟩
theorem apart_a {I J : St} (h : Rel I J) {a b : Nat} (ha : a < 4) (hb : b < 4) (w : Int32) : apt I a b w = if okN (nI 4) w = true then aptM J a b (tn w) else -2 := by
  have hr : ∀ c, c < 4 → rowX I J c c := fun c hc => h.row (show c < 20 by omega)
  obtain ⟨r1, r2⟩ := ah_row hr ha hb
  obtain ⟨r3, r4⟩ := ah_row r2 hb ha
  by_cases c1 : okN (nI 4) w = true
  · obtain ⟨n, hn, rfl⟩ := okN_nI (by decide) c1
    rw [c1, if_pos rfl, tn_nI (by omega)]
    rcases (by omega : n = 0 ∨ n = 1 ∨ n = 2 ∨ n = 3) with rfl | rfl | rfl | rfl
    · rw [apt, if_pos rfl, same_sam r1 (r2 a ha)]; rfl
    · rw [apt, if_neg (by decide +kernel), if_pos rfl, same_sam r1 (r2 a ha), same_sam r3 (r4 b hb)]; rfl
    · rw [apt, if_neg (by decide +kernel), if_neg (by decide +kernel), if_pos rfl, oth, bcs_c (fun j hj => by rw [(hr a ha j hj).1, (hr b hb j hj).1])]; rfl
    · rw [apt, if_neg (by decide +kernel), if_neg (by decide +kernel), if_neg (by decide +kernel), if_pos rfl, oth, bcs_c (fun j hj => by rw [(hr a ha j hj).2, (hr b hb j hj).2])]; rfl
  · have n0 : ∀ k, k < 4 → ¬ w = nI k := fun k hk q => c1 (by rw [q]; exact okN_of (by decide) hk)
    rw [if_neg c1, apt, if_neg (n0 0 (by decide)), if_neg (n0 1 (by decide)), if_neg (n0 2 (by decide)), if_neg (n0 3 (by decide))]
/-- what is needed -/
theorem tc_row {I J : St} (h : Rel I J) {r : Nat} (hr : r < 4) (x : Int32) : ∀ n, n ≤ wt (V J) → rowX (tcP I r x n) (tcM J r x n) 34 28
  | 0, _ => rowX_cpy (by omega) (fun q => absurd rfl q) (fun _ => h.row (show r < 20 by omega))
  | n + 1, hn => by
    have hw := h.w6
    have ih := tc_row h hr x n (by omega)
    have hq : tn (I 6 0 n) < 6 := h.pm.1 n (by omega)
    have e6 : (tcP I r x n 6 0 n).toNatClampNeg = tn (I 6 0 n) := by rw [tcP_n (by decide) (by decide)]; rfl
    rw [tcP, tcM, e6, tb_sb (by omega)]
    split
    · refine rowX_jn (by omega) ih (fun _ => rowX_e (show rowX I J _ _ from (h.now.msg (show n < wt (V J) by omega)).2.2.1) (fun f j _ => ?_) (fun f j _ => ?_))
      · exact tcP_i (by omega) n
      · exact tcM_i (by omega) n
    · exact ih
theorem mto_p {I J : St} (h : Rel I J) (r : Nat) : ∀ n, n ≤ wt (V J) → mtoP I r n = mnM J r n
  | 0, _ => rfl
  | n + 1, hn => by
    have e : I 8 (I 6 0 n).toNatClampNeg 1 = J 22 0 n := (h.now.msg (show n < wt (V J) by omega)).2.1
    rw [mtoP, mnM, e, mto_p h r n (by omega)]
theorem mn_bt {J : St} {r i : Nat} (hi : i < 32) : ∀ n, n ≤ 6 → bt (mnM J r n) i = (decide (i < n) && decide (J 22 0 i = nI r))
  | 0, _ => by
    rw [mnM, b_n0, decide_eq_false (by omega), Bool.false_and]
  | n + 1, hn => by
    rw [mnM]
    have ih := mn_bt (J := J) (r := r) hi n (by omega)
    by_cases e : i = n
    · subst e
      split
      · rename_i q
        rw [b_or, b_b1 _ (by omega) _ hi, decide_eq_true (rfl : i = i), Bool.or_true, decide_eq_true (show i < i + 1 by omega), decide_eq_true q]
        rfl
      · rename_i q
        rw [ih, decide_eq_false q, Bool.and_false, Bool.and_false]
    · have e2 : decide (i < n + 1) = decide (i < n) := decide_eq_decide.mpr (by omega)
      rw [e2]
      split
      · rw [b_or, b_b1 _ (by omega) _ hi, decide_eq_false e, Bool.or_false]; exact ih
      · exact ih
theorem b_nI (n i : Nat) (hi : i < 32) : bt (nI n) i = n.testBit i := by
  show (BitVec.ofNat 32 n).getLsbD i = _
  rw [BitVec.getLsbD_ofNat]
  simp [hi]
theorem big_bit : ∀ w, w ≤ 6 → ∀ k, k < 64 → (∀ i, i < 6 → w ≤ i → k.testBit i = false) → k < 2 ^ w := by decide +kernel
theorem ft_hi {I J : St} {r o : Nat} {w : Int64} (hw : wt (V J) ≤ 6) : ∀ n, 2 ^ wt (V J) + n ≤ 64 → ftb I r o w (mnM J r (wt (V J))) (2 ^ wt (V J) + n) = ftb I r o w (mnM J r (wt (V J))) (2 ^ wt (V J))
  | 0, _ => rfl
  | n + 1, hn => by
    show ftb I r o w (mnM J r (wt (V J))) ((2 ^ wt (V J) + n) + 1) = _
    rw [ftb, if_neg, ft_hi hw n (by omega)]
    rintro ⟨q, -⟩
    have := big_bit (wt (V J)) hw (2 ^ wt (V J) + n) (by omega) (fun i hi hwi => by
      have b : bt (nI (2 ^ wt (V J) + n) &&& (mnM J r (wt (V J)) ^^^ (-1))) i = false := by rw [q, b_0]
      rw [b_and, b_no _ (by omega), mn_bt (by omega) _ hw, decide_eq_false (show ¬ i < wt (V J) by omega), Bool.false_and, Bool.not_false, Bool.and_true, b_nI _ _ (by omega)] at b
      exact b)
    omega
theorem ft_lo {I J : St} (h : Rel I J) {r o : Nat} (hr : r < 4) (ho : o < 12) (w : Int64) (m : Int32) : ∀ k, ftb I r o w m k = ftM J r o w m k
  | 0 => rfl
  | k + 1 => by
    have e : wth (tcP I r (nI k) (wt (V J))) 34 o (kd I o) = wth (V (tcM J r (nI k) (wt (V J)))) 28 o (kd J o) := by
      rw [h.kd ho]
      exact wthX h (fun f i j a b => tcP_n (by omega) (by omega) _) (fun f i j a b => tcM_n (by omega) (by omega) _) (tc_row h hr _ _ (Nat.le_refl _)) o _
    rw [ftb, ftM, ft_lo h hr ho w m k, h.wt, e]
theorem needs_a {I J : St} (h : Rel I J) {r o : Nat} (hr : r < 4) (ho : o < 12) (w : Int64) {n : Nat} (hn : n < 2) : ndv (ftb I r o w (mtoP I r (wt I)) 64) (nI n) = ndM (ftM J r o w (mnM J r (wt (V J))) (2 ^ wt (V J))) n := by
  have hw := h.w6
  have hp := pow64 hw
  have e : ftb I r o w (mtoP I r (wt I)) 64 = ftM J r o w (mnM J r (wt (V J))) (2 ^ wt (V J)) := by
    have k := ft_hi (I := I) (J := J) (r := r) (o := o) (w := w) hw (64 - 2 ^ wt (V J)) (by omega)
    rw [show 2 ^ wt (V J) + (64 - 2 ^ wt (V J)) = 64 by omega] at k
    rw [h.wt, mto_p h r _ (Nat.le_refl _), k, ft_lo h hr ho]
  rw [e, ndv, ndM]
  rcases (by omega : n = 0 ∨ n = 1) with rfl | rfl
  · rw [if_pos (rfl : (0 : Nat) = 0), if_pos (nI_0 : nI 0 = 0)]
  · rw [if_neg (show ¬ nI 1 = 0 by decide +kernel), if_neg (show ¬ (1 : Nat) = 0 by decide)]
/-- the join is a greatest of three -/
def rw3 (S : St) (s c i : Nat) : Nat := if bt (S 11 s c) i = true then 1 else if bt (S 10 s c) i = true then 2 else 0
theorem rw_jn {S : St} {s w c i : Nat} (h1 : sub S s) (h2 : sub S w) (hc : c < 4) (hi : i < 32) : rw3 (jn S s w) s c i = max (rw3 S s c i) (rw3 S w c i) := by
  have a1 := h1 c hc i hi
  have a2 := h2 c hc i hi
  have e1 : jn S s w 10 s c = jH S s w c := by simp [jn, jnP, hc]
  have e2 : jn S s w 11 s c = jA S s w c := by simp [jn, jnP, hc]
  rw [rw3, rw3, rw3, e1, e2, jH, jA, b_or, b_or, b_or, b_and, b_and, b_and, b_no _ hi, b_no _ hi]
  revert a1 a2
  cases bt (S 11 s c) i <;> cases bt (S 10 s c) i <;> cases bt (S 11 w c) i <;> cases bt (S 10 w c) i <;> simp
theorem rw_X {X Y : St} {a b c : Nat} (h : rowX X Y a b) (hc : c < 4) (i : Nat) : rw3 X a c i = rw3 Y b c i := by rw [rw3, rw3, (h c hc).1, (h c hc).2]
theorem sub_X {X Y : St} {a b : Nat} (h : rowX X Y a b) (k : sub Y b) : sub X a := sub_e h k
theorem rw_inj {X Y : St} {a b : Nat} (h1 : sub X a) (h2 : sub Y b) (h : ∀ c, c < 4 → ∀ i, i < 32 → rw3 X a c i = rw3 Y b c i) : rowX X Y a b := fun c hc => by
  have key : ∀ i, i < 32 → bt (X 10 a c) i = bt (Y 10 b c) i ∧ bt (X 11 a c) i = bt (Y 11 b c) i := fun i hi => by
    have a1 := h1 c hc i hi
    have a2 := h2 c hc i hi
    have a3 := h c hc i hi
    rw [rw3, rw3] at a3
    revert a1 a2 a3
    cases bt (X 11 a c) i <;> cases bt (X 10 a c) i <;> cases bt (Y 11 b c) i <;> cases bt (Y 10 b c) i <;> simp
  exact ⟨b_ext (fun i hi => (key i hi).1), b_ext (fun i hi => (key i hi).2)⟩
def mxf (f : Nat → Nat) : Nat → Nat
  | 0 => 0
  | n + 1 => max (mxf f n) (f n)
theorem mxf_c {f g : Nat → Nat} : ∀ n, (∀ k, k < n → f k = g k) → mxf f n = mxf g n
  | 0, _ => rfl
  | n + 1, h => by rw [mxf, mxf, mxf_c n (fun k hk => h k (by omega)), h n (by omega)]
theorem mxf_4 (f : Nat → Nat) : mxf f 4 = max (max (max (max 0 (f 0)) (f 1)) (f 2)) (f 3) := rfl
theorem mxf_up (f : Nat → Nat) {t g : Nat} (ht : t < 4) (hg : g < 4) : mxf (fun k => if k = t then max (f t) (f g) else f k) 4 = mxf f 4 := by
  rw [mxf_4, mxf_4]
  rcases (by omega : t = 0 ∨ t = 1 ∨ t = 2 ∨ t = 3) with rfl | rfl | rfl | rfl <;> rcases (by omega : g = 0 ∨ g = 1 ∨ g = 2 ∨ g = 3) with rfl | rfl | rfl | rfl <;> simp <;> omega
theorem mtP_rw {X : St} {b : Nat} (hb : ∀ k, k < 4 → k + b ≠ 32) (hs : ∀ k, k < 4 → sub X (k + b)) : ∀ n, n ≤ 4 → sub (mtP X b n) 32 ∧ ∀ c, c < 4 → ∀ i, i < 32 → rw3 (mtP X b n) 32 c i = mxf (fun k => rw3 X (k + b) c i) n
  | 0, _ => by
    refine ⟨fun j hj i _ q => ?_, fun c hc i _ => ?_⟩
    · have q2 : bt (clr X 32 11 32 j) i = true := q
      rw [(clr_z hj).2, b_n0] at q2
      exact absurd q2 (by decide)
    · show rw3 (clr X 32) 32 c i = 0
      rw [rw3, (clr_z hc).1, (clr_z hc).2, b_n0]
      rfl
  | n + 1, hn => by
    obtain ⟨i1, i2⟩ := mtP_rw hb hs n (by omega)
    have er : ∀ c, mtP X b n 10 (n + b) c = X 10 (n + b) c ∧ mtP X b n 11 (n + b) c = X 11 (n + b) c := fun c => ⟨mtP_i (hb n (by omega)), mtP_i (hb n (by omega))⟩
    have hs2 : sub (mtP X b n) (n + b) := sub_e (fun c _ => er c) (hs n (by omega))
    have e : mtP X b (n + 1) = jn (mtP X b n) 32 (n + b) := rfl
    rw [e]
    refine ⟨sub_jn i1 (fun _ => hs2), fun c hc i hi => ?_⟩
    rw [rw_jn i1 hs2 hc hi, i2 c hc i hi, mxf]
    congr 1
    rw [rw3, rw3, (er c).1, (er c).2]
theorem mtM_rw {J : St} (hs : ∀ k, k < 4 → sub J k) : ∀ n, n ≤ 3 → sub (mtM J n) 26 ∧ ∀ c, c < 4 → ∀ i, i < 32 → rw3 (mtM J n) 26 c i = mxf (fun k => rw3 J k c i) (n + 1)
  | 0, _ => by
    have er : ∀ c, c < 4 → mtM J 0 10 26 c = J 10 0 c ∧ mtM J 0 11 26 c = J 11 0 c := fun c hc => by
      show cpy J 26 0 10 26 c = _ ∧ cpy J 26 0 11 26 c = _
      simp [cpy, cpyP, hc]
    refine ⟨sub_e er (hs 0 (by decide)), fun c hc i hi => ?_⟩
    show _ = max 0 (rw3 J 0 c i)
    rw [Nat.zero_max, rw3, rw3, (er c hc).1, (er c hc).2]
  | n + 1, hn => by
    obtain ⟨i1, i2⟩ := mtM_rw hs n (by omega)
    have er : ∀ c, mtM J n 10 (n + 1) c = J 10 (n + 1) c ∧ mtM J n 11 (n + 1) c = J 11 (n + 1) c := fun c => ⟨mtM_i (by omega), mtM_i (by omega)⟩
    have hs2 : sub (mtM J n) (n + 1) := sub_e (fun c _ => er c) (hs (n + 1) (by omega))
    have e : mtM J (n + 1) = jn (mtM J n) 26 (n + 1) := rfl
    rw [e]
    refine ⟨sub_jn i1 (fun _ => hs2), fun c hc i hi => ?_⟩
    rw [rw_jn i1 hs2 hc hi, i2 c hc i hi, show mxf (fun k => rw3 J k c i) (n + 1 + 1) = max (mxf (fun k => rw3 J k c i) (n + 1)) (rw3 J (n + 1) c i) from rfl]
    congr 1
    rw [rw3, rw3, (er c).1, (er c).2]
theorem as_row {I J : St} (h : ∀ a, a < 4 → rowX I J a a) : ∀ n, n ≤ 4 → (∀ k, k < n → rowX (adP I n) (asM J n) (k + 35) (28 + k)) ∧ ∀ a, a < 4 → rowX (adP I n) (asM J n) a a
  | 0, _ => ⟨fun k hk => absurd hk (Nat.not_lt_zero _), fun a ha => rowX_e (h a ha) (fun _ _ _ => rfl) (fun f j _ => mtM_i (J := J) (n := 3) (by omega))⟩
  | n + 1, hn => by
    obtain ⟨i1, i2⟩ := as_row h n (by omega)
    have e1 : adP I (n + 1) = cpy (adP I n) (n + 35) n := rfl
    have e2 : asM J (n + 1) = cpy (asM J n) (28 + n) n := rfl
    rw [e1, e2]
    exact ⟨fun k hk => rowX_cpy (by omega) (fun q => i1 k (by omega)) (fun _ => i2 n (by omega)), fun a ha => rowX_cpy (by omega) (fun _ => i2 a ha) (fun _ => i2 n (by omega))⟩
theorem dw_row {I J : St} (h : ∀ a, a < 4 → rowX I J a a) (z : Int32) : ∀ n k, k < 4 → rowX (dwP I z n) (dwM J z n) (k + 35) (28 + k)
  | 0, k, hk => (as_row h 4 (by omega)).1 k hk
  | n + 1, k, hk => by
    have h1 := rd_lt (nz (nz (zs z n)))
    have h2 := rd_lt (nz (zs z n))
    exact rowX_jn (by omega) (dw_row h z n k hk) (fun _ => dw_row h z n _ h2)
theorem asM_26 {J : St} {f j : Nat} : ∀ n, asM J n f 26 j = mtM J 3 f 26 j
  | 0 => rfl
  | n + 1 => by
    show cpy (asM J n) (28 + n) n f 26 j = _
    rw [cpy_i (by omega)]; exact asM_26 n
theorem dwM_26 {J : St} {z : Int32} {f j : Nat} : ∀ n, dwM J z n f 26 j = mtM J 3 f 26 j
  | 0 => asM_26 4
  | n + 1 => by
    show jn (dwM J z n) _ _ f 26 j = _
    rw [jn_i (by omega)]; exact dwM_26 n
theorem asM_k {J : St} : ∀ n, n ≤ 4 → (∀ k, k < n → ∀ c, c < 4 → asM J n 10 (28 + k) c = J 10 k c ∧ asM J n 11 (28 + k) c = J 11 k c) ∧ ∀ a, a < 4 → ∀ f c, asM J n f a c = J f a c
  | 0, _ => ⟨fun k hk => absurd hk (Nat.not_lt_zero _), fun a ha f c => mtM_i (by omega)⟩
  | n + 1, hn => by
    obtain ⟨i1, i2⟩ := asM_k (J := J) n (by omega)
    have e2 : asM J (n + 1) = cpy (asM J n) (28 + n) n := rfl
    rw [e2]
    refine ⟨fun k hk c hc => ?_, fun a ha f c => ?_⟩
    · by_cases e : k = n
      · subst e
        rw [← i2 k (by omega) 10 c, ← i2 k (by omega) 11 c]
        simp [cpy, cpyP, hc]
      · rw [cpy_i (by omega), cpy_i (by omega)]
        exact i1 k (by omega) c hc
    · rw [cpy_i (by omega)]; exact i2 a ha f c
theorem dwM_rw {J : St} (hs : ∀ k, k < 4 → sub J k) (z : Int32) : ∀ n, (∀ k, k < 4 → sub (dwM J z n) (28 + k)) ∧ ∀ c, c < 4 → ∀ i, i < 32 → mxf (fun k => rw3 (dwM J z n) (28 + k) c i) 4 = mxf (fun k => rw3 J k c i) 4
  | 0 => by
    have k0 := (asM_k (J := J) 4 (by omega)).1
    refine ⟨fun k hk => sub_e (A := asM J 4) (B := J) (k0 k hk) (hs k hk), fun c hc i hi => mxf_c 4 (fun k hk => ?_)⟩
    show rw3 (asM J 4) (28 + k) c i = rw3 J k c i
    rw [rw3, rw3, (k0 k hk c hc).1, (k0 k hk c hc).2]
  | n + 1 => by
    obtain ⟨i1, i2⟩ := dwM_rw hs z n
    have ht := rd_lt (nz (nz (zs z n)))
    have hg := rd_lt (nz (zs z n))
    have e : dwM J z (n + 1) = jn (dwM J z n) (28 + rd (nz (nz (zs z n)))) (28 + rd (nz (zs z n))) := rfl
    rw [e]
    generalize rd (nz (nz (zs z n))) = t at *
    generalize rd (nz (zs z n)) = g at *
    refine ⟨fun k hk => sub_jn (i1 k hk) (fun _ => i1 g hg), fun c hc i hi => ?_⟩
    rw [← i2 c hc i hi, ← mxf_up (fun k => rw3 (dwM J z n) (28 + k) c i) ht hg]
    refine mxf_c 4 (fun k hk => ?_)
    by_cases q : k = t
    · subst q
      rw [if_pos rfl]
      exact rw_jn (i1 k hk) (i1 g hg) hc hi
    · rw [if_neg q, rw3, rw3, jn_i (by omega), jn_i (by omega)]
theorem cnt_e {X Y : St} {b b' : Nat} (h32 : rowX (mtP X b 4) Y 32 26) (h : ∀ k, k < 4 → rowX (mtP X b 4) Y (k + b) (b' + k)) : ∀ n, n ≤ 4 → cntS X b n = cntM Y b' n
  | 0, _ => rfl
  | n + 1, hn => by rw [cntS, cntM, same_sam (h n (by omega)) h32, cnt_e h32 h n (by omega)]
theorem drawn_a {I J : St} (h : Rel I J) (z : Int32) (n : Nat) : cntS (dwP I z n) 35 4 = lotM J z n := by
  have hr : ∀ a, a < 4 → rowX I J a a := fun a ha => h.row (show a < 20 by omega)
  have hs : ∀ k, k < 4 → sub J k := fun k hk => h.ok.S (show k < 20 by omega)
  have d := dw_row hr z n
  obtain ⟨s1, s2⟩ := dwM_rw hs z n
  obtain ⟨m1, m2⟩ := mtM_rw hs 3 (by omega)
  have sX : ∀ k, k < 4 → sub (dwP I z n) (k + 35) := fun k hk => sub_X (d k hk) (s1 k hk)
  obtain ⟨p1, p2⟩ := mtP_rw (X := dwP I z n) (b := 35) (fun k _ => by omega) sX 4 (by omega)
  have k26 : ∀ c, dwM J z n 10 26 c = mtM J 3 10 26 c ∧ dwM J z n 11 26 c = mtM J 3 11 26 c := fun c => ⟨dwM_26 n, dwM_26 n⟩
  refine cnt_e (rw_inj p1 (sub_e (fun c _ => k26 c) m1) (fun c hc i hi => ?_)) (fun k hk => rowX_e (d k hk) (fun f j _ => mtP_i (by omega)) (fun _ _ _ => rfl)) 4 (by omega)
  have e26 : rw3 (dwM J z n) 26 c i = rw3 (mtM J 3) 26 c i := by rw [rw3, rw3, (k26 c).1, (k26 c).2]
  rw [p2 c hc i hi, e26, m2 c hc i hi, ← s2 c hc i hi]
  exact mxf_c 4 (fun k hk => rw_X (d k hk) hc i)
theorem chc_e {I J : St} (h : Rel I J) (z : Int32) : ∀ n, chc I z n = chM J z n
  | 0 => rfl
  | n + 1 => by rw [chc, chM, drawn_a h, chc_e h z n]
theorem gdv_gcd : ∀ m, m < 9 → 1 ≤ m → ∀ g, g < 9 → g ≤ m → gdv m g m = Nat.gcd m g := by decide +kernel
theorem chance_a {I J : St} (h : Rel I J) (z : Int32) {m : Nat} (h1 : 1 ≤ m) (h8 : m ≤ 8) (w : Nat) : chv I z m w = cvM J z m w := by
  have := chM_le J z m
  rw [chv, cvM, chc_e h, gdv_gcd m (by omega) h1 _ (by omega) this]
theorem tgr_e {I J : St} (h : Rel I J) {r : Nat} (hr : r < 4) (d : Int32) : ∀ n, n ≤ 4 → tgr I r d n = tgrM J r d n
  | 0, _ => rfl
  | n + 1, hn => by rw [tgr, tgrM, tgr_e h hr d n (by omega), tga_e h hr (by omega)]
theorem tgs_e {I J : St} (h : Rel I J) : ∀ n, n ≤ 4 → tgs I n = tgsM J n
  | 0, _ => rfl
  | n + 1, hn => by rw [tgs, tgsM, tgs_e h n (by omega), tgr_e h (by omega) _ 4 (by omega)]
theorem count_a {I J : St} (h : Rel I J) (w : Int32) : cnv I w = cnM J w := by
  have hr : ∀ a, a < 4 → rowX I J a a := fun a ha => h.row (show a < 20 by omega)
  have e0 : mads I 4 = mads J 4 := by
    simp only [mads, h.now.mad (show 0 < 4 by decide), h.now.mad (show 1 < 4 by decide), h.now.mad (show 2 < 4 by decide), h.now.mad (show 3 < 4 by decide)]
    rfl
  have e1 : I 1 0 6 = J 0 0 8 := h.now.wts
  have r32 := mt_row hr
  have e2 : cntS I 0 4 = cntM (mtM J 3) 0 4 := by
    refine cnt_e r32 (fun k hk => ?_) 4 (by omega)
    rw [Nat.zero_add, Nat.add_zero]
    exact rowX_e (hr k hk) (fun f j _ => mtP_i (by omega)) (fun f j _ => mtM_i (by omega))
  have e3 : bcs (mtP I 0 4 11 32) 4 = bcs (mtM J 3 11 26) 4 := bcs_c (fun j hj => (r32 j hj).2)
  rw [cnv, cnM, e0, e1, e2, e3, tgs_e h 4 (by omega)]
