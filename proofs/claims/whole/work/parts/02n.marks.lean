/-! ===== what is worth, what goes, what is new: both sides ===== -/
theorem foldl_c {α : Type} {f g : α → Nat → α} : ∀ (l : List Nat) (a : α), (∀ p, p ∈ l → ∀ x, f x p = g x p) → l.foldl f a = l.foldl g a
  | [], _, _ => rfl
  | p :: l, a, h => by
    rw [List.foldl_cons, List.foldl_cons, h p List.mem_cons_self, foldl_c l _ (fun q hq => h q (List.mem_cons_of_mem _ hq))]
theorem any_c {f g : Nat → Bool} : ∀ (l : List Nat), (∀ p, p ∈ l → f p = g p) → l.any f = l.any g
  | [], _ => rfl
  | p :: l, h => by
    rw [List.any_cons, List.any_cons, h p List.mem_cons_self, any_c l (fun q hq => h q (List.mem_cons_of_mem _ hq))]
theorem als_b {I u : St} (h : ∀ r, r < 4 → mk u r = mk I r) : ∀ n, n ≤ 4 → als u n = als I n
  | 0, _ => rfl
  | n + 1, hn => by rw [als, als, als_b h n (by omega), h n (by omega)]
theorem gl_b {I u : St} {ia ib o : Nat} (hm : ∀ r, r < 4 → mk u r = mk I r) (ho : ∀ p, p < 124 → u 15 0 p = I 15 0 p) (ha : ∀ r, r < 4 → u 11 ia r = I 11 ib r) (hM : okM I) : gl u ia o = gl I ib o := by
  rw [gl, gl, als_b hm 4 (by omega), flt, flt]
  apply List.filter_congr
  intro p hp
  have := als_lt hM 4 (by omega) p hp
  rw [gp, gp, ho p (by omega), ha _ (by omega)]
theorem wth_b {I u : St} {ia ib o k : Nat} (hm : ∀ r, r < 4 → mk u r = mk I r) (hd : ∀ p, p < 124 → u 13 0 p = I 13 0 p ∧ u 14 0 p = I 14 0 p ∧ u 15 0 p = I 15 0 p) (ha : ∀ r, r < 4 → u 11 ia r = I 11 ib r) (hM : okM I) : wth u ia o k = wth I ib o k := by
  have hl : ∀ p, p ∈ gl I ib o → p < 124 := fun p hp => gl_lt hM hp
  have e0 := gl_b hm (fun p hp => (hd p hp).2.2) ha hM (o := o)
  have e1 : sumG u (gl I ib o) = sumG I (gl I ib o) := foldl_c _ _ (fun p hp x => by rw [(hd p (hl p hp)).1])
  have e2 : latG u (gl I ib o) = latG I (gl I ib o) := foldl_c _ _ (fun p hp x => by rw [(hd p (hl p hp)).1, (hd p (hl p hp)).2.1])
  have e3 : mosG u (gl I ib o) = mosG I (gl I ib o) := foldl_c _ _ (fun p hp x => by rw [(hd p (hl p hp)).1])
  have e4 : fsum u (gl I ib o) = fsum I (gl I ib o) := foldl_c _ _ (fun p hp x => by rw [(hd p (hl p hp)).1])
  rw [wth, wth, e0, e1, e2, mosR, mosR, e3, menR, menR, e4]
theorem wthX {I J X Y : St} (h : Rel I J) (hX : ∀ f i j, 12 ≤ f → f ≤ 15 → X f i j = I f i j) (hY : ∀ f i j, 12 ≤ f → f ≤ 15 → Y f i j = J f i j) {a b : Nat} (hr : rowX X Y a b) (o k : Nat) : wth X a o k = wth (V Y) b o k := by
  refine wth_b (fun r hr => ?_) (fun p hp => ?_) (fun r hq => (hr r hq).2) (okM_e (I := J) (u := V Y) (fun r => hY 12 0 r (by decide) (by decide)) h.okMJ)
  · rw [mk, mk, hX 12 0 r (by decide) (by decide), show V Y 12 0 r = J 12 0 r from hY 12 0 r (by decide) (by decide), h.now.mad hr]
    rfl
  · rw [hX 13 0 p (by decide) (by decide), hX 14 0 p (by decide) (by decide), hX 15 0 p (by decide) (by decide), show V Y 13 0 p = V J 13 0 p from hY 13 _ _ (by decide) (by decide), show V Y 14 0 p = V J 14 0 p from hY 14 _ _ (by decide) (by decide), show V Y 15 0 p = V J 15 0 p from hY 15 _ _ (by decide) (by decide)]
    exact h.now.dot hp
theorem Rel.wth {I J : St} (h : Rel I J) {r : Nat} (hr : r < 4) (o k : Nat) : wth I r o k = wth (V J) r o k := wthX h (fun _ _ _ _ _ => rfl) (fun _ _ _ _ _ => rfl) (h.row (show r < 20 by omega)) o k
theorem mbS_o {I : St} {lo hi : Int32} {ib f i j : Nat} (h : ¬ (f = 10 ∧ i = ib)) : ∀ (g : List Nat) (S : St), mbS I lo hi ib S g f i j = S f i j
  | [], _ => rfl
  | p :: g, S => by
    show mbS I lo hi ib (hearf I lo hi ib S p) g f i j = _
    rw [mbS_o h g, hearf]
    split
    · exact up3_n (fun q => h ⟨q.1, q.2.1⟩)
    · rfl
def mkQ (I : St) (lo hi : Int32) (c i p : Nat) : Bool := decide (p / 31 = c) && (decide (p % 31 = i) && (decide (lo ≤ I 13 0 p) && decide (I 13 0 p ≤ hi)))
theorem dcm (a b : Nat) : decide (a = b) = decide (b = a) := by
  by_cases h : a = b
  · subst h; rfl
  · rw [decide_eq_false h, decide_eq_false (fun q => h q.symm)]
theorem hearf_bt {I S : St} {lo hi : Int32} {ib c i p : Nat} (hi32 : i < 32) : bt (hearf I lo hi ib S p 10 ib c) i = (bt (S 10 ib c) i || mkQ I lo hi c i p) := by
  by_cases hv : lo ≤ I 13 0 p ∧ I 13 0 p ≤ hi
  · rw [hearf, if_pos hv]
    by_cases hc : p / 31 = c
    · subst hc
      rw [up3_s, b_or, b_b1 _ (by omega) _ hi32, dcm i]
      simp [mkQ, hv.1, hv.2]
    · rw [up3_n (fun q => hc q.2.2.symm)]
      simp [mkQ, hc]
  · have e : (decide (lo ≤ I 13 0 p) && decide (I 13 0 p ≤ hi)) = false := by
      rw [Bool.and_eq_false_iff, decide_eq_false_iff_not, decide_eq_false_iff_not]
      by_cases h1 : lo ≤ I 13 0 p
      · exact Or.inr (fun q => hv ⟨h1, q⟩)
      · exact Or.inl h1
    rw [hearf, if_neg hv, mkQ, e, Bool.and_false, Bool.and_false, Bool.or_false]
theorem mbS_bt {I : St} {lo hi : Int32} {ib c i : Nat} (hi32 : i < 32) : ∀ (g : List Nat) (S : St), bt (mbS I lo hi ib S g 10 ib c) i = (bt (S 10 ib c) i || g.any (mkQ I lo hi c i))
  | [], S => by simp [mbS]
  | p :: g, S => by
    show bt (mbS I lo hi ib (hearf I lo hi ib S p) g 10 ib c) i = _
    rw [mbS_bt hi32 g, hearf_bt hi32, List.any_cons, Bool.or_assoc]
theorem mb_bt {S : St} {ia o ib c i : Nat} {lo hi : Int32} (hi32 : i < 32) : bt (mb S ia o lo hi ib 10 ib c) i = (bt (S 10 ib c) i || (als S 4).any (fun p => gp S ia o p && mkQ S lo hi c i p)) := by
  rw [mb, mbS_bt hi32, gst_n (by decide), gl, flt, List.any_filter]
theorem mb_o {S : St} {ia o ib f i j : Nat} {lo hi : Int32} (h20 : f ≠ 20) (h : ¬ (f = 10 ∧ i = ib)) : mb S ia o lo hi ib f i j = S f i j := by
  rw [mb, mbS_o h, gst_n h20]
theorem got_bt {c i : Nat} (hi32 : i < 32) : ∀ (l : List Nat) (S : St), bt (l.foldl got S 10 27 c) i = (bt (S 10 27 c) i || l.any (fun p => decide (p / 31 = c) && decide (p % 31 = i)))
  | [], S => by simp
  | p :: l, S => by
    have e : bt (got S p 10 27 c) i = (bt (S 10 27 c) i || (decide (p / 31 = c) && decide (p % 31 = i))) := by
      rw [got]
      by_cases hc : p / 31 = c
      · subst hc
        rw [up3_s, b_or, b_b1 _ (by omega) _ hi32, dcm i]
        simp
      · rw [up3_n (fun q => hc q.2.2.symm)]
        simp [hc]
    rw [List.foldl_cons, got_bt hi32 l, e, List.any_cons, Bool.or_assoc]
theorem clr_z {S : St} {s j : Nat} (hj : j < 4) : clr S s 10 s j = nI 0 ∧ clr S s 11 s j = nI 0 := by simp [clr, clrP, hj]
theorem goA_bt {J : St} {s rm : Nat} {ob act v : Int32} {c i : Nat} (hc : c < 4) (hi32 : i < 32) : bt (goA J s rm ob act v 10 27 c) i = (als J 4).any (fun p => gop J s rm ob act v p && (decide (p / 31 = c) && decide (p % 31 = i))) := by
  rw [goA, goS, got_bt hi32, (clr_z hc).1, b_n0, Bool.false_or, goL, List.any_filter]
theorem goA_11 {J : St} {s rm : Nat} {ob act v : Int32} {c : Nat} (hc : c < 4) : goA J s rm ob act v 11 27 c = nI 0 := by
  rw [goA, goS, got_n (by omega), (clr_z hc).2]
theorem goA_sm {J : St} {s rm : Nat} {ob act v : Int32} : Sm gM J (goA J s rm ob act v) := fun f i j hn => by
  by_cases hf : f = 10 ∨ f = 11
  · have : i < 26 := Nat.not_le.mp (fun q => hn ⟨hf, q⟩)
    exact goS_i (by omega)
  · exact goS_n (by omega) (by omega)
theorem als_pw {I : St} (h : okM I) : ∀ n, n ≤ 4 → (als I n).Pairwise (· < ·)
  | 0, _ => List.Pairwise.nil
  | n + 1, hn => by
    rw [als, List.pairwise_append]
    refine ⟨als_pw h n (by omega), ?_, fun a ha b hb => ?_⟩
    · rw [rowl, List.pairwise_map]
      exact List.Pairwise.imp (fun q => by omega) List.pairwise_lt_range
    · have := als_lt h n (by omega) a ha
      rw [rowl, List.mem_map] at hb
      obtain ⟨j, _, rfl⟩ := hb
      omega
theorem got_c1 {S : St} {p : Nat} (hp : p < 124) (h : bt (S 10 27 (p / 31)) (p % 31) = false) : bcs (got S p 10 27) 4 = bcs (S 10 27) 4 + 1 := by
  have e : ∀ c, bc (got S p 10 27 c) = bc (S 10 27 c) + (if c = p / 31 then 1 else 0) := fun c => by
    rw [got]
    by_cases hc : c = p / 31
    · subst hc
      rw [up3_s, if_pos rfl, bc_s (by omega) h]
    · rw [up3_n (fun q => hc q.2.2), if_neg hc, Int32.add_zero]
  have h4 : p / 31 = 0 ∨ p / 31 = 1 ∨ p / 31 = 2 ∨ p / 31 = 3 := by omega
  simp only [bcs, e]
  rcases h4 with q | q | q | q <;> rw [q] <;> simp <;> ac_rfl
theorem got_cnt : ∀ (l : List Nat) (S : St), l.Pairwise (· < ·) → (∀ p, p ∈ l → p < 124 ∧ bt (S 10 27 (p / 31)) (p % 31) = false) → bcs (l.foldl got S 10 27) 4 = bcs (S 10 27) 4 + nI l.length
  | [], S, _, _ => by simp [nI_0]
  | p :: l, S, hp, h => by
    obtain ⟨h1, h2⟩ := List.pairwise_cons.mp hp
    have h0 := h p List.mem_cons_self
    rw [List.foldl_cons, got_cnt l (got S p) h2 (fun q hq => ?_), got_c1 h0.1 h0.2, List.length_cons, ← nI_1, Int32.add_assoc, Int32.add_comm 1]
    have hq0 := h q (List.mem_cons_of_mem _ hq)
    have hlt := h1 q hq
    refine ⟨hq0.1, ?_⟩
    have e := got_bt (c := q / 31) (i := q % 31) (by omega) [p] S
    simp only [List.foldl_cons, List.foldl_nil, List.any_cons, List.any_nil, Bool.or_false] at e
    rw [e, hq0.2, Bool.false_or, Bool.and_eq_false_iff, decide_eq_false_iff_not, decide_eq_false_iff_not]
    omega
theorem goA_cnt {J : St} (hM : okM J) {s rm : Nat} {ob act v : Int32} : bcs (goA J s rm ob act v 10 27) 4 = goN J s rm ob act v := by
  have e0 : bcs (clr J 27 10 27) 4 = nI 0 := by
    simp only [bcs, (clr_z (S := J) (s := 27) (show 0 < 4 by decide)).1, (clr_z (S := J) (s := 27) (show 1 < 4 by decide)).1, (clr_z (S := J) (s := 27) (show 2 < 4 by decide)).1, (clr_z (S := J) (s := 27) (show 3 < 4 by decide)).1]
    decide +kernel
  rw [goA, goS, goL, got_cnt _ _ ((als_pw hM 4 (by omega)).filter _) (fun p hp => ?_), e0, nI_add, Nat.zero_add]
  · rfl
  · have hl := als_lt hM 4 (by omega) p (List.mem_filter.mp hp).1
    exact ⟨hl, by rw [(clr_z (S := J) (s := 27) (show p / 31 < 4 by omega)).1, b_n0]⟩
theorem bcs_c {a b : Nat → Int32} (h : ∀ j, j < 4 → a j = b j) : bcs a 4 = bcs b 4 := by
  simp only [bcs, h 0 (by decide), h 1 (by decide), h 2 (by decide), h 3 (by decide)]
theorem i_min (x : Int32) : (-2147483648 : Int32) ≤ x := by
  rw [Int32.le_iff_toInt_le]
  exact Int32.le_toInt x
theorem i_max (x : Int32) : x ≤ (2147483647 : Int32) := by
  rw [Int32.le_iff_toInt_le]
  have := Int32.toInt_lt x
  show x.toInt ≤ 2147483647
  omega
theorem isg_1 (v x : Int32) : isg (nI 1) v x = (decide ((-2147483648 : Int32) ≤ x) && decide (x ≤ (2147483647 : Int32))) := by
  rw [decide_eq_true (i_min x), decide_eq_true (i_max x), isg, decide_eq_true rfl]
  rfl
theorem isg_2 (v x : Int32) : isg (nI 2) v x = (decide (v ≤ x) && decide (x ≤ v)) := by
  have e1 : decide (nI 2 = nI 1) = false := by decide +kernel
  have e3 : decide (nI 2 = nI 3) = false := by decide +kernel
  rw [isg, e1, e3, decide_eq_true (show nI 2 = nI 2 from rfl), Bool.false_or, Bool.false_and, Bool.or_false, Bool.true_and]
  by_cases h : x = v
  · subst h
    simp
  · rw [decide_eq_false h]
    symm
    rw [Bool.and_eq_false_iff, decide_eq_false_iff_not, decide_eq_false_iff_not]
    by_cases h1 : v ≤ x
    · exact Or.inr (fun h2 => h (Int32.le_antisymm h2 h1))
    · exact Or.inl h1
theorem isg_3 (v x : Int32) : isg (nI 3) v x = (decide ((-2147483648 : Int32) ≤ x) && decide (x ≤ v)) := by
  have e1 : decide (nI 3 = nI 1) = false := by decide +kernel
  have e3 : decide (nI 3 = nI 2) = false := by decide +kernel
  rw [isg, e1, e3, decide_eq_true (show nI 3 = nI 3 from rfl), decide_eq_true (i_min x), Bool.false_or, Bool.false_and, Bool.false_or]
theorem isg_0 (v x : Int32) : isg (nI 0) v x = false := by
  have e1 : decide (nI 0 = nI 1) = false := by decide +kernel
  have e2 : decide (nI 0 = nI 2) = false := by decide +kernel
  have e3 : decide (nI 0 = nI 3) = false := by decide +kernel
  rw [isg, e1, e2, e3]
  rfl
theorem alsJ {I J : St} (h : Rel I J) : als I 4 = als J 4 := als_b (fun r hr => h.mk hr) 4 (by omega)
theorem gpJ {I J : St} (h : Rel I J) {r o p : Nat} (hr : r < 4) (hp : p < 124) : gp I r o p = (sb (J 11 r (p / 31)) (p % 31) && decide (J 15 (p / 31) (p % 31) = nI o)) := by
  rw [gp, tb_sb (by omega), (h.row (show r < 20 by omega) (p / 31) (by omega)).2, (h.now.dot hp).2.2]
  rfl
theorem gopO {J : St} {s rm o : Nat} (ho : o < 2147483648) {act v : Int32} {p : Nat} : gop J s rm (nI o) act v p = ((sb (J 11 s (p / 31)) (p % 31) && decide (J 15 (p / 31) (p % 31) = nI o)) && isg act v (J 13 (p / 31) (p % 31))) := by
  rw [gop, ofO, if_neg (nI_pos ho)]
theorem clr33 {I : St} {f i j : Nat} (h : ¬ ((f = 10 ∨ f = 11) ∧ i = 33)) : clr I 33 f i j = I f i j := by
  by_cases hi : i = 33
  · exact clr_n (fun q => h ⟨Or.inl q, hi⟩) (fun q => h ⟨Or.inr q, hi⟩)
  · exact clr_i hi
theorem mark_row {I J : St} (h : Rel I J) {r o rm : Nat} (hr : r < 4) (ho : o < 12) {lo hi act v : Int32} (hg : ∀ x, isg act v x = (decide (lo ≤ x) && decide (x ≤ hi))) : rowX (mb (clr I 33) r o lo hi 33) (goA J r rm (nI o) act v) 33 27 := fun c hc => by
  refine ⟨b_ext (fun i hi32 => ?_), ?_⟩
  · have e1 : als (clr I 33) 4 = als J 4 := by
      rw [← alsJ h]
      exact als_b (fun r _ => mk_e (fun _ => clr_n (by decide) (by decide)) r) 4 (by omega)
    rw [mb_bt hi32, (clr_z hc).1, b_n0, Bool.false_or, goA_bt hc hi32, e1]
    refine any_c _ (fun p hp => ?_)
    have hl := als_lt h.okMJ 4 (by omega) p hp
    have e2 : gp (clr I 33) r o p = gp I r o p := by rw [gp, gp, clr_i (show r ≠ 33 by omega), clr_n (f := 15) (by decide) (by decide)]
    have e3 : (clr I 33) 13 0 p = J 13 (p / 31) (p % 31) := by
      rw [clr_n (by decide) (by decide), (h.now.dot hl).1]
      rfl
    rw [e2, gpJ h hr hl, gopO (by omega), mkQ, e3, hg]
    simp only [Bool.and_assoc, Bool.and_comm, Bool.and_left_comm]
  · rw [mb_o (by decide) (by omega), (clr_z hc).2, goA_11 hc]
theorem mb_sm {I : St} {r o : Nat} {lo hi : Int32} : Sm gC I (mb (clr I 33) r o lo hi 33) := Sm.mb (Sm.clr Sm.rf (by decide) (by decide)) (by decide) (by decide)
/-- what is new is joined -/
theorem jwP_i {I : St} {r w f i j : Nat} (h : 20 ≤ i) (hr : r < 4) : ∀ n, n ≤ 4 → jwP I r w n f i j = I f i j
  | 0, _ => jn_i (by omega)
  | n + 1, hn => by
    rw [jwP]
    split
    · exact jwP_i h hr n (by omega)
    · rw [jn_i (by omega)]; exact jwP_i h hr n (by omega)
theorem inP_i {J : St} {r f i j : Nat} (h : 20 ≤ i) (hr : r < 4) : ∀ n, n ≤ 4 → inP J r n f i j = J f i j
  | 0, _ => jn_i (by omega)
  | n + 1, hn => by
    rw [inP]
    split
    · exact inP_i h hr n (by omega)
    · rw [jn_i (by omega)]; exact inP_i h hr n (by omega)
theorem jw_in {X Y : St} {r : Nat} (hr : r < 4) (h33 : rowX X Y 33 27) (h : ∀ a, a < 20 → rowX X Y a a) : ∀ n, n ≤ 4 → rowX (jwP X r 33 n) (inP Y r n) 33 27 ∧ ∀ a, a < 20 → rowX (jwP X r 33 n) (inP Y r n) a a
  | 0, _ => ⟨rowX_jn (by omega) h33 (fun _ => h33), fun a ha => rowX_jn (by omega) (h a ha) (fun _ => h33)⟩
  | n + 1, hn => by
    obtain ⟨i1, i2⟩ := jw_in hr h33 h n (by omega)
    rw [jwP, inP]
    by_cases e : n = r
    · rw [if_pos e, if_pos e]; exact ⟨i1, i2⟩
    · rw [if_neg e, if_neg e]
      exact ⟨rowX_jn (by omega) i1 (fun _ => i1), fun a ha => rowX_jn (by omega) (i2 a ha) (fun _ => i1)⟩
theorem sub_jn {S : St} {s w a : Nat} (h : sub S a) (hs : a = s → sub S w) : sub (jn S s w) a := fun j hj i hi => by
  by_cases e : a = s
  · have h1 := h j hj i hi
    have h2 := hs e j hj i hi
    subst e
    have e1 : jn S a w 11 a j = jA S a w j := by simp [jn, jnP, hj]
    have e2 : jn S a w 10 a j = jH S a w j := by simp [jn, jnP, hj]
    rw [e1, e2, jA, jH, b_or, b_or, b_and, b_and, b_and, b_no _ hi, b_no _ hi, b_or]
    revert h1 h2
    cases bt (S 11 a j) i <;> cases bt (S 10 a j) i <;> cases bt (S 11 w j) i <;> cases bt (S 10 w j) i <;> simp
  · rw [jn_i e, jn_i e]; exact h j hj i hi
theorem sub_in {Y : St} {r : Nat} (hr : r < 4) (h27 : sub Y 27) : ∀ n, n ≤ 4 → sub (inP Y r n) 27 ∧ ∀ a, a < 26 → sub Y a → sub (inP Y r n) a
  | 0, _ => ⟨sub_jn h27 (fun _ => h27), fun a _ h => sub_jn h (fun _ => h27)⟩
  | n + 1, hn => by
    obtain ⟨i1, i2⟩ := sub_in hr h27 n (by omega)
    rw [inP]
    by_cases e : n = r
    · rw [if_pos e]; exact ⟨i1, i2⟩
    · rw [if_neg e]
      exact ⟨sub_jn i1 (fun _ => i1), fun a ha h => sub_jn (i2 a ha h) (fun _ => i1)⟩
theorem Rel_new {X Y : St} (h : Rel X Y) {r : Nat} (hr : r < 4) (h33 : rowX X Y 33 27) (s27 : sub Y 27) : Rel (jwP X r 33 4) (inS Y r) := by
  have hJ : ∀ f i j, f ≠ 10 → f ≠ 11 → inS Y r f i j = Y f i j := fun f i j a b => inP_n a b 4
  have hI : ∀ f i j, f ≠ 10 → f ≠ 11 → jwP X r 33 4 f i j = X f i j := fun f i j a b => jwP_n a b 4
  have hJ2 : ∀ f i j, 20 ≤ i → inS Y r f i j = Y f i j := fun f i j a => inP_i a hr 4 (by omega)
  have hI2 : ∀ f i j, 20 ≤ i → jwP X r 33 4 f i j = X f i j := fun f i j a => jwP_i a hr 4 (by omega)
  have ew : wt (V (inS Y r)) = wt (V Y) := wt_V (hJ _ _ _ (by decide) (by decide))
  have hw := h.w6
  refine Rel_step h (fun f i j q => ?_) (fun f i j q => ?_) ?_ ?_ (SH_e (fun f i j q => ?_) (fun f i j q => ?_) h.sh) (PM_e (fun j _ => hI 6 0 j (by decide) (by decide)) h.pm)
  · by_cases hf : f = 10 ∨ f = 11
    · refine hI2 f i j ?_
      unfold F1 at q; omega
    · exact hI f i j (by omega) (by omega)
  · exact hJ f i j (by unfold FM at q; omega) (by unfold FM at q; omega)
  · refine NW_m h.now h.pm h.w6 (fun f i j q => ?_) (fun f i j q => ?_) (fun s hs => (jw_in hr h33 (fun a ha => h.row ha) 4 (by omega)).2 s hs) (fun q hq => ?_) (fun p hp => ?_) (fun o ho => ?_) (fun p hp => ?_)
    · by_cases hf : f = 10 ∨ f = 11
      · refine hI2 f i j ?_
        unfold MC at q; omega
      · exact hI f i j (by omega) (by omega)
    · by_cases hf : f = 10 ∨ f = 11
      · refine hJ2 f i j ?_
        unfold MD at q; omega
      · exact hJ f i j (by omega) (by omega)
    · rw [hI 12 0 q (by decide) (by decide), hJ 12 0 q (by decide) (by decide)]; exact h.now.mad hq
    · rw [hI 13 0 p (by decide) (by decide), hI 14 0 p (by decide) (by decide), hI 15 0 p (by decide) (by decide), show V (inS Y r) 13 0 p = V Y 13 0 p from hJ 13 _ _ (by decide) (by decide), show V (inS Y r) 14 0 p = V Y 14 0 p from hJ 14 _ _ (by decide) (by decide), show V (inS Y r) 15 0 p = V Y 15 0 p from hJ 15 _ _ (by decide) (by decide)]
      exact h.now.dot hp
    · rw [hI 16 0 o (by decide) (by decide), hJ 16 0 o (by decide) (by decide)]; exact h.now.knd ho
    · rw [hI 17 0 p (by decide) (by decide), show V (inS Y r) 17 0 p = V Y 17 0 p from hJ 17 _ _ (by decide) (by decide)]; exact h.now.kno hp
  · refine ⟨okM_e (I := V Y) (u := V (inS Y r)) (fun q => hJ 12 0 q (by decide) (by decide)) h.ok.M, okK_e (I := V Y) (u := V (inS Y r)) (fun q => hJ 16 0 q (by decide) (by decide)) h.ok.K, okT_e (I := V Y) (u := V (inS Y r)) (hJ 0 0 8 (by decide) (by decide)) h.ok.T, fun j hj => ?_, fun p hp => ?_, fun s hs => ?_, fun j hj => ?_⟩
    · rw [ew] at hj
      obtain ⟨a, b, ha, hb, ea, eb⟩ := h.ok.A hj
      exact ⟨a, b, ha, hb, (hJ 21 0 j (by decide) (by decide)).trans ea, (hJ 22 0 j (by decide) (by decide)).trans eb⟩
    · obtain ⟨x, hx, e⟩ := h.ok.O hp
      exact ⟨x, hx, (hJ 15 _ _ (by decide) (by decide)).trans e⟩
    · exact (sub_in hr s27 4 (by omega)).2 s (by omega) (h.ok.S hs)
    · rw [ew] at hj
      exact (sub_in hr s27 4 (by omega)).2 (20 + j) (by omega) (h.ok.L hj)
  · exact hI f i j (by omega) (by omega)
  · exact hJ f i j (by omega) (by omega)
theorem goA_sub {J : St} {s rm : Nat} {ob act v : Int32} : sub (goA J s rm ob act v) 27 := fun j hj i _ h => by
  rw [goA_11 hj, b_n0] at h
  exact absurd h (by decide)
theorem tn_id {x : Int32} {k : Nat} (hk : k < 2147483648) (h : okN (nI k) x = true) : tn x < k ∧ x = nI (tn x) := by
  obtain ⟨n, hn, rfl⟩ := okN_nI hk h
  rw [tn_nI (by omega)]
  exact ⟨hn, rfl⟩
/-- take and has -/
theorem has_a {I J : St} (h : Rel I J) {r rm o : Nat} (hr : r < 4) (ho : o < 12) (v : Int32) : bcs (hsS I r o v 10 33) 4 = goN J r rm (nI o) (nI 2) v := by
  rw [← goA_cnt h.okMJ]
  exact bcs_c (fun j hj => (mark_row h hr ho (isg_2 v) j hj).1)
theorem take_a {I J : St} (h : Rel I J) {r rm o : Nat} (hr : r < 4) (ho : o < 12) (v : Int32) : bcs (tkS I r o v 10 33) 4 = goN J r rm (nI o) (nI 2) v := by
  rw [← goA_cnt h.okMJ]
  exact bcs_c (fun j hj => (jwP_i (by decide) hr 4 (by omega)).trans (mark_row h hr ho (isg_2 v) j hj).1)
theorem take_r {I J : St} (h : Rel I J) {r rm o : Nat} (hr : r < 4) (ho : o < 12) (v : Int32) : Rel (tkS I r o v) (inS (goA J r rm (nI o) (nI 2) v) r) :=
  Rel_new (Rel_Sm h mb_sm goA_sm) hr (mark_row h hr ho (isg_2 v)) goA_sub
