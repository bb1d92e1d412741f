/-! ===== the image: both sides ===== -/
def EQA (A B : St) : Prop := (∀ s, s < 26 → ∀ c, c < 4 → A 10 s c = B 10 s c ∧ A 11 s c = B 11 s c) ∧ (∀ r, r < 4 → A 12 0 r = B 12 0 r) ∧ (∀ p, p < 124 → A 13 0 p = B 13 0 p ∧ A 14 0 p = B 14 0 p ∧ A 15 0 p = B 15 0 p) ∧ (∀ o, o < 12 → A 16 0 o = B 16 0 o) ∧ (∀ p, p < 64 → A 17 0 p = B 17 0 p) ∧ A 1 0 6 = B 1 0 6 ∧ ∀ j, j < 6 → A 8 j 0 = B 8 j 0 ∧ A 8 j 1 = B 8 j 1 ∧ ∀ c, c < 4 → A 18 j c = B 18 j c
theorem NW_q {I A B : St} {n so : Nat} (h : EQA B A) (hw : wt A ≤ 6) (k : NW I n so A) : NW I n so B := by
  obtain ⟨h1, h2, h3, h4, h5, h6, h7⟩ := h
  have ew : wt B = wt A := wt_e h6
  refine ⟨fun s hs j hj => ?_, fun r hr => (k.mad hr).trans (h2 r hr).symm, fun p hp => ?_, fun o ho => (k.knd ho).trans (h4 o ho).symm, fun p hp => (k.kno hp).trans (h5 p hp).symm, k.wts.trans h6.symm, fun j hj => ?_⟩
  · have := k.row hs j hj
    have e := h1 s (by omega) j hj
    exact ⟨this.1.trans e.1.symm, this.2.trans e.2.symm⟩
  · have := k.dot hp
    have e := h3 p hp
    exact ⟨this.1.trans e.1.symm, this.2.1.trans e.2.1.symm, this.2.2.trans e.2.2.symm⟩
  · rw [ew] at hj
    obtain ⟨m1, m2, m3, m4⟩ := k.msg hj
    obtain ⟨e1, e2, e3⟩ := h7 j (by omega)
    refine ⟨m1.trans e1.symm, m2.trans e2.symm, fun c hc => ?_, fun c hc => (m4 c hc).trans (e3 c hc).symm⟩
    have e := h1 (20 + j) (by omega) c hc
    exact ⟨(m3 c hc).1.trans e.1.symm, (m3 c hc).2.trans e.2.symm⟩
theorem OKA_q {A B : St} (h : EQA B A) (k : OKA A) : OKA B := by
  obtain ⟨h1, h2, h3, h4, h5, h6, h7⟩ := h
  have ew : wt B = wt A := wt_e h6
  have hw := k.T.2
  refine ⟨fun r hr => ?_, fun o ho => ?_, okT_e h6 k.T, fun j hj => ?_, fun p hp => ?_, fun s hs => sub_e (fun c hc => h1 s (by omega) c hc) (k.S hs), fun j hj => ?_⟩
  · rw [mk, h2 r hr]; exact k.M r hr
  · rw [kd, h4 o ho]; exact k.K o ho
  · rw [ew] at hj
    obtain ⟨a, b, ha, hb, ea, eb⟩ := k.A hj
    exact ⟨a, b, ha, hb, (h7 j (by omega)).1.trans ea, (h7 j (by omega)).2.1.trans eb⟩
  · obtain ⟨x, hx, e⟩ := k.O hp
    exact ⟨x, hx, (h3 p hp).2.2.trans e⟩
  · rw [ew] at hj
    exact sub_e (fun c hc => h1 (20 + j) (by omega) c hc) (k.L hj)
theorem itr_cpy {d e m : Nat} {S : St} (hd : ∀ i j, i < m → j < m → i + e ≠ j + d) : ∀ n, n ≤ m → (∀ i, i < n → ∀ c, c < 4 → itr (fun i S => cpy S (i + d) (i + e)) S n 10 (i + d) c = S 10 (i + e) c ∧ itr (fun i S => cpy S (i + d) (i + e)) S n 11 (i + d) c = S 11 (i + e) c) ∧ ∀ f x c, (∀ i, i < n → x ≠ i + d) → itr (fun i S => cpy S (i + d) (i + e)) S n f x c = S f x c
  | 0, _ => ⟨fun i hi => absurd hi (Nat.not_lt_zero _), fun _ _ _ _ => rfl⟩
  | n + 1, hn => by
    obtain ⟨i1, i2⟩ := itr_cpy (S := S) hd n (by omega)
    have e0 : itr (fun i S => cpy S (i + d) (i + e)) S (n + 1) = cpy (itr (fun i S => cpy S (i + d) (i + e)) S n) (n + d) (n + e) := rfl
    rw [e0]
    refine ⟨fun i hi c hc => ?_, fun f x c hx => ?_⟩
    · by_cases q : i = n
      · subst q
        have z : ∀ f, itr (fun i S => cpy S (i + d) (i + e)) S i f (i + e) c = S f (i + e) c := fun f => i2 f (i + e) c (fun k hk => hd i k (by omega) (by omega))
        rw [← z 10, ← z 11]
        simp [cpy, cpyP, hc]
      · rw [cpy_i (by omega), cpy_i (by omega)]
        exact i1 i (by omega) c hc
    · rw [cpy_i (hx n (by omega))]
      exact i2 f x c (fun i hi => hx i (by omega))
theorem nbq_c {I S : St} {b a : Nat} (hb : b < 2) (ha : a < 2) (hab : a ≠ b) (h6 : ∀ i j, S 6 i j = I 6 i j) (pa : PM I a) (pb : PM I b) : ∀ n, n ≤ 6 →
    (∀ i, i < n → itr (nbq b a) S n 8 (tn (I 6 a i) + 6 * a) 0 = S 8 (tn (I 6 b i) + 6 * b) 0 ∧ itr (nbq b a) S n 8 (tn (I 6 a i) + 6 * a) 1 = S 8 (tn (I 6 b i) + 6 * b) 1 ∧ (∀ c, c < 4 → itr (nbq b a) S n 10 (tn (I 6 a i) + 6 * a + 20) c = S 10 (tn (I 6 b i) + 6 * b + 20) c ∧ itr (nbq b a) S n 11 (tn (I 6 a i) + 6 * a + 20) c = S 11 (tn (I 6 b i) + 6 * b + 20) c) ∧ ∀ c, c < 4 → itr (nbq b a) S n 18 (tn (I 6 a i) + 6 * a) c = S 18 (tn (I 6 b i) + 6 * b) c) ∧
    ∀ f x j, (∀ i, i < n → ¬ ((f = 8 ∨ f = 18) ∧ x = tn (I 6 a i) + 6 * a) ∧ ¬ ((f = 10 ∨ f = 11) ∧ x = tn (I 6 a i) + 6 * a + 20)) → itr (nbq b a) S n f x j = S f x j
  | 0, _ => ⟨fun i hi => absurd hi (Nat.not_lt_zero _), fun _ _ _ _ => rfl⟩
  | n + 1, hn => by
    obtain ⟨i1, i2⟩ := nbq_c (S := S) hb ha hab h6 pa pb n (by omega)
    have hqa : ∀ i, i < 6 → tn (I 6 a i) < 6 := pa.1
    have hqb : ∀ i, i < 6 → tn (I 6 b i) < 6 := pb.1
    have keep : ∀ f x j, (∀ i, i < n → ¬ ((f = 8 ∨ f = 18) ∧ x = tn (I 6 a i) + 6 * a) ∧ ¬ ((f = 10 ∨ f = 11) ∧ x = tn (I 6 a i) + 6 * a + 20)) → itr (nbq b a) S n f x j = S f x j := i2
    have e6 : ∀ i j, itr (nbq b a) S n 6 i j = I 6 i j := fun i j => (i2 6 i j (fun k _ => ⟨by omega, by omega⟩)).trans (h6 i j)
    have e0 : itr (nbq b a) S (n + 1) = mset (itr (nbq b a) S n) (tn (I 6 a n) + 6 * a) (itr (nbq b a) S n 8 (tn (I 6 b n) + 6 * b) 0) (itr (nbq b a) S n 8 (tn (I 6 b n) + 6 * b) 1) (tn (I 6 b n) + 6 * b + 20) 18 (tn (I 6 b n) + 6 * b) := by
      show nbq b a n (itr (nbq b a) S n) = _
      rw [nbq, e6, e6]
      rfl
    rw [e0]
    refine ⟨fun i hi => ?_, fun f x j hx => ?_⟩
    · by_cases q : i = n
      · subst q
        have hna := hqa i (by omega)
        have hnb := hqb i (by omega)
        have k8 : ∀ j, itr (nbq b a) S i 8 (tn (I 6 b i) + 6 * b) j = S 8 (tn (I 6 b i) + 6 * b) j := fun j => i2 8 _ j (fun k hk => by have := hqa k (by omega); omega)
        have k18 : ∀ j, itr (nbq b a) S i 18 (tn (I 6 b i) + 6 * b) j = S 18 (tn (I 6 b i) + 6 * b) j := fun j => i2 18 _ j (fun k hk => by have := hqa k (by omega); omega)
        have k10 : ∀ f j, f = 10 ∨ f = 11 → itr (nbq b a) S i f (tn (I 6 b i) + 6 * b + 20) j = S f (tn (I 6 b i) + 6 * b + 20) j := fun f j hf => i2 f _ j (fun k hk => by have := hqa k (by omega); omega)
        rw [(mset_8 _ _ _ _ _ _ _).1, (mset_8 _ _ _ _ _ _ _).2]
        refine ⟨k8 0, k8 1, fun c hc => ?_, fun c hc => ?_⟩
        · rw [(mset_r _ _ _ _ _ _ _ hc).1, (mset_r _ _ _ _ _ _ _ hc).2]
          exact ⟨k10 10 c (Or.inl rfl), k10 11 c (Or.inr rfl)⟩
        · rw [mset_18 _ _ _ _ _ _ _ (by decide) (Or.inl rfl) hc]
          exact k18 c
      · have hne : tn (I 6 a i) ≠ tn (I 6 a n) := fun z => q (pa.2 i n (by omega) (by omega) z)
        obtain ⟨j1, j2, j3, j4⟩ := i1 i (by omega)
        refine ⟨?_, ?_, fun c hc => ?_, fun c hc => ?_⟩
        · rw [mset_o (by omega) (by omega)]; exact j1
        · rw [mset_o (by omega) (by omega)]; exact j2
        · rw [mset_o (by omega) (by omega), mset_o (by omega) (by omega)]; exact j3 c hc
        · rw [mset_o (by omega) (by omega)]; exact j4 c hc
    · have hn0 := hx n (by omega)
      rw [mset_o hn0.1 hn0.2]
      exact i2 f x j (fun i hi => hx i (by omega))
theorem nb1_f {I : St} {b a : Nat} (hab : a ≠ b) : (∀ j, j < 4 → nb1 I b a 12 a j = I 12 b j) ∧ (∀ j, j < 124 → nb1 I b a 13 a j = I 13 b j ∧ nb1 I b a 14 a j = I 14 b j ∧ nb1 I b a 15 a j = I 15 b j) ∧ (∀ j, j < 12 → nb1 I b a 16 a j = I 16 b j) ∧ (∀ j, j < 64 → nb1 I b a 17 a j = I 17 b j) ∧ (∀ f j, nb1 I b a f b j = I f b j) ∧ ∀ f i j, f < 12 ∨ 17 < f → nb1 I b a f i j = I f i j := by
  have hba : ¬ b = a := fun q => hab q.symm
  refine ⟨fun j hj => ?_, fun j hj => ⟨?_, ?_, ?_⟩, fun j hj => ?_, fun j hj => ?_, fun f j => ?_, fun f i j hf => ?_⟩
  · simp [nb1, dcp, cp3, hj]
  · simp [nb1, dcp, cp3, hj]
  · simp [nb1, dcp, cp3, hj]
  · simp [nb1, dcp, cp3, hj]
  · simp [nb1, dcp, cp3, hj]
  · simp [nb1, dcp, cp3, hj]
  · simp [nb1, dcp, cp3, hba]
  · rw [nb1, cp3_n (by omega), cp3_n (by omega), dcp, cp3_n (by omega), cp3_n (by omega), cp3_n (by omega), cp3_n (by omega)]
theorem nbk_NW {I A : St} {b a sb sa : Nat} (hc : (b = 0 ∧ a = 1 ∧ sb = 0 ∧ sa = 39) ∨ (b = 1 ∧ a = 0 ∧ sb = 39 ∧ sa = 0)) (pa : PM I a) (pb : PM I b) (hw : wt A ≤ 6) (k : NW I b sb A) : NW (nbk I b a sb sa (sb + 4) (sa + 4)) a sa A ∧ NW (nbk I b a sb sa (sb + 4) (sa + 4)) b sb A ∧ (∀ i j, nbk I b a sb sa (sb + 4) (sa + 4) 6 i j = I 6 i j) ∧ ∀ f i j, f = 0 ∨ f = 7 ∨ f = 19 → nbk I b a sb sa (sb + 4) (sa + 4) f i j = I f i j := by
  have hb2 : b < 2 := by omega
  have ha2 : a < 2 := by omega
  have hab : a ≠ b := by omega
  obtain ⟨n12, n13, n16, n17, nb, nn⟩ := nb1_f (I := I) hab
  obtain ⟨S1, hS1⟩ : ∃ S, S = nb1 I b a := ⟨_, rfl⟩
  rw [← hS1] at n12 n13 n16 n17 nb nn
  obtain ⟨S2, hS2⟩ : ∃ S, S = itr (fun i S => cpy S (i + sa) (i + sb)) S1 4 := ⟨_, rfl⟩
  obtain ⟨c1, c2⟩ := itr_cpy (S := S1) (d := sa) (e := sb) (m := 4) (fun i j _ _ => by omega) 4 (Nat.le_refl 4)
  rw [← hS2] at c1 c2
  obtain ⟨S3, hS3⟩ : ∃ S, S = itr (fun i S => cpy S (i + (sa + 4)) (i + (sb + 4))) S2 16 := ⟨_, rfl⟩
  obtain ⟨d1, d2⟩ := itr_cpy (S := S2) (d := sa + 4) (e := sb + 4) (m := 16) (fun i j _ _ => by omega) 16 (Nat.le_refl 16)
  rw [← hS3] at d1 d2
  have o2 : ∀ f i j, f ≠ 10 → f ≠ 11 → S2 f i j = S1 f i j := fun f i j x y => by rw [hS2]; exact itr_cpy_n x y S1 4
  have o3 : ∀ f i j, f ≠ 10 → f ≠ 11 → S3 f i j = S2 f i j := fun f i j x y => by rw [hS3]; exact itr_cpy_n x y S2 16
  have h6 : ∀ i j, S3 6 i j = I 6 i j := fun i j => by rw [o3 _ _ _ (by decide) (by decide), o2 _ _ _ (by decide) (by decide), nn _ _ _ (by decide)]
  obtain ⟨q1, q2⟩ := nbq_c (I := I) (S := S3) hb2 ha2 hab h6 pa pb 6 (Nat.le_refl 6)
  obtain ⟨S4, hS4⟩ : ∃ S, S = itr (nbq b a) S3 6 := ⟨_, rfl⟩
  rw [← hS4] at q1 q2
  obtain ⟨u, hu⟩ : ∃ u, u = nbk I b a sb sa (sb + 4) (sa + 4) := ⟨_, rfl⟩
  have eu : u = up3 S4 1 a 6 (S4 1 b 6) := by rw [hu, hS4, hS3, hS2, hS1]; rfl
  rw [← hu]
  have hqa : ∀ i, i < 6 → tn (I 6 a i) < 6 := pa.1
  have hqb : ∀ i, i < 6 → tn (I 6 b i) < 6 := pb.1
  have o4 : ∀ f i j, f ≠ 8 → f ≠ 18 → f ≠ 10 → f ≠ 11 → S4 f i j = S1 f i j := fun f i j x y z w => by
    rw [q2 f i j (fun _ _ => ⟨by omega, by omega⟩), o3 f i j z w, o2 f i j z w]
  have ou : ∀ f i j, f ≠ 1 → u f i j = S4 f i j := fun f i j x => by rw [eu]; exact up3_f x
  have s3 : ∀ f i j, f = 10 ∨ f = 11 → (20 ≤ i ∧ i < 32) ∨ (sb ≤ i ∧ i < sb + 20) → S3 f i j = I f i j := fun f i j x y => by
    rw [d2 f i j (fun z hz => by omega), c2 f i j (fun z hz => by omega), nn f i j (by omega)]
  have s4 : ∀ f i j, f = 8 ∨ f = 18 → S3 f i j = I f i j := fun f i j x => by
    rw [o3 f i j (by omega) (by omega), o2 f i j (by omega) (by omega), nn f i j (by omega)]
  have u6 : ∀ i j, u 6 i j = I 6 i j := fun i j => by rw [ou 6 i j (by decide), o4 6 i j (by decide) (by decide) (by decide) (by decide), nn 6 i j (by decide)]
  have w4 : ∀ i j, S4 1 i j = I 1 i j := fun i j => by rw [o4 1 i j (by decide) (by decide) (by decide) (by decide), nn 1 i j (by decide)]
  refine ⟨⟨fun s hs j hj => ?_, fun r hr => ?_, fun p hp => ?_, fun o ho => ?_, fun p hp => ?_, ?_, fun j hj => ?_⟩, ⟨fun s hs => ?_, fun r hr => ?_, fun p hp => ?_, fun o ho => ?_, fun p hp => ?_, ?_, fun j hj => ?_⟩, u6, fun f i j hf => ?_⟩
  · have e : ∀ f, f = 10 ∨ f = 11 → u f (s + sa) j = S3 f (s + sa) j := fun f hf => by
      rw [ou f _ j (by omega)]
      exact q2 f _ j (fun i hi => by have := hqa i hi; omega)
    have e2 : ∀ f, f = 10 ∨ f = 11 → S3 f (s + sa) j = I f (s + sb) j := fun f hf => by
      by_cases z : s < 4
      · rw [d2 f _ j (fun i hi => by omega)]
        have : S2 f (s + sa) j = S1 f (s + sb) j := by
          rcases hf with rfl | rfl
          · exact (c1 s z j hj).1
          · exact (c1 s z j hj).2
        rw [this, nn f _ j (by omega)]
      · have : S3 f ((s - 4) + (sa + 4)) j = S2 f ((s - 4) + (sb + 4)) j := by
          rcases hf with rfl | rfl
          · exact (d1 (s - 4) (by omega) j hj).1
          · exact (d1 (s - 4) (by omega) j hj).2
        rw [show (s - 4) + (sa + 4) = s + sa by omega, show (s - 4) + (sb + 4) = s + sb by omega] at this
        rw [this, c2 f _ j (fun i hi => by omega), nn f _ j (by omega)]
    rw [e 10 (Or.inl rfl), e 11 (Or.inr rfl), e2 10 (Or.inl rfl), e2 11 (Or.inr rfl)]
    exact k.row hs j hj
  · rw [ou 12 _ _ (by decide), o4 12 _ _ (by decide) (by decide) (by decide) (by decide), n12 r hr]; exact k.mad hr
  · rw [ou 13 _ _ (by decide), o4 13 _ _ (by decide) (by decide) (by decide) (by decide), ou 14 _ _ (by decide), o4 14 _ _ (by decide) (by decide) (by decide) (by decide), ou 15 _ _ (by decide), o4 15 _ _ (by decide) (by decide) (by decide) (by decide), (n13 p hp).1, (n13 p hp).2.1, (n13 p hp).2.2]; exact k.dot hp
  · rw [ou 16 _ _ (by decide), o4 16 _ _ (by decide) (by decide) (by decide) (by decide), n16 o ho]; exact k.knd ho
  · rw [ou 17 _ _ (by decide), o4 17 _ _ (by decide) (by decide) (by decide) (by decide), n17 p hp]; exact k.kno hp
  · rw [eu, up3_s, w4]; exact k.wts
  · obtain ⟨m1, m2, m3, m4⟩ := k.msg hj
    have hj6 : j < 6 := by omega
    have hlb := hqb j hj6
    have hla := hqa j hj6
    obtain ⟨r1, r2, r3, r4⟩ := q1 j hj6
    rw [u6]
    refine ⟨?_, ?_, fun c hc => ?_, fun c hc => ?_⟩
    · rw [ou 8 _ _ (by decide), r1, s4 8 _ _ (Or.inl rfl)]; exact m1
    · rw [ou 8 _ _ (by decide), r2, s4 8 _ _ (Or.inl rfl)]; exact m2
    · rw [ou 10 _ _ (by decide), ou 11 _ _ (by decide), (r3 c hc).1, (r3 c hc).2, s3 10 _ _ (Or.inl rfl) (Or.inl ⟨by omega, by omega⟩), s3 11 _ _ (Or.inr rfl) (Or.inl ⟨by omega, by omega⟩)]
      exact m3 c hc
    · rw [ou 18 _ _ (by decide), r4 c hc, s4 18 _ _ (Or.inr rfl)]; exact m4 c hc
  · refine rowX_e (k.row hs) (fun f j hf => ?_) (fun _ _ _ => rfl)
    rw [ou f _ j (by omega), q2 f _ j (fun i hi => by have := hqa i hi; omega)]
    exact s3 f _ j hf (Or.inr ⟨by omega, by omega⟩)
  · rw [ou 12 _ _ (by decide), o4 12 _ _ (by decide) (by decide) (by decide) (by decide), nb 12]; exact k.mad hr
  · rw [ou 13 _ _ (by decide), o4 13 _ _ (by decide) (by decide) (by decide) (by decide), ou 14 _ _ (by decide), o4 14 _ _ (by decide) (by decide) (by decide) (by decide), ou 15 _ _ (by decide), o4 15 _ _ (by decide) (by decide) (by decide) (by decide), nb 13, nb 14, nb 15]; exact k.dot hp
  · rw [ou 16 _ _ (by decide), o4 16 _ _ (by decide) (by decide) (by decide) (by decide), nb 16]; exact k.knd ho
  · rw [ou 17 _ _ (by decide), o4 17 _ _ (by decide) (by decide) (by decide) (by decide), nb 17]; exact k.kno hp
  · rw [eu, up3_n (by omega), w4]; exact k.wts
  · obtain ⟨m1, m2, m3, m4⟩ := k.msg hj
    have hj6 : j < 6 := by omega
    have hlb := hqb j hj6
    have k8 : ∀ f x, f = 8 ∨ f = 18 → S4 f (tn (I 6 b j) + 6 * b) x = I f (tn (I 6 b j) + 6 * b) x := fun f x hf => by
      rw [q2 f _ x (fun i hi => by have := hqa i hi; omega)]; exact s4 f _ x hf
    rw [u6]
    refine ⟨?_, ?_, rowX_e m3 (fun f c hf => ?_) (fun _ _ _ => rfl), fun c hc => ?_⟩
    · rw [ou 8 _ _ (by decide), k8 8 _ (Or.inl rfl)]; exact m1
    · rw [ou 8 _ _ (by decide), k8 8 _ (Or.inl rfl)]; exact m2
    · rw [ou f _ c (by omega), q2 f _ c (fun i hi => by have := hqa i hi; omega)]
      exact s3 f _ c hf (Or.inl ⟨by omega, by omega⟩)
    · rw [ou 18 _ _ (by decide), k8 18 _ (Or.inr rfl)]; exact m4 c hc
  · rw [ou f i j (by omega), o4 f i j (by omega) (by omega) (by omega) (by omega), nn f i j (by omega)]
theorem imD_c {S : St} : ∀ m, m ≤ 4 → ∀ n, n < m → ∀ k, k < 31 → imD S m 30 n k = S 13 n k ∧ imD S m 30 (4 + n) k = S 14 n k ∧ imD S m 30 (8 + n) k = S 15 n k
  | 0, _, n, hn, _, _ => absurd hn (Nat.not_lt_zero _)
  | m + 1, hm, n, hn, k, hk => by
    have e0 : imD S (m + 1) = cp3 (cp3 (cp3 (imD S m) 13 m 30 m 0 0 31) 14 m 30 (4 + m) 0 0 31) 15 m 30 (8 + m) 0 0 31 := rfl
    rw [e0]
    by_cases e : n = m
    · subst e
      have i13 : ∀ j, imD S n 13 n j = S 13 n j := fun j => imD_n (by decide) n
      have i14 : ∀ j, imD S n 14 n j = S 14 n j := fun j => imD_n (by decide) n
      have i15 : ∀ j, imD S n 15 n j = S 15 n j := fun j => imD_n (by decide) n
      refine ⟨?_, ?_, ?_⟩
      · simp only [cp3]
        rw [if_neg (by omega), if_neg (by omega), if_pos ⟨trivial, trivial, by omega, by omega⟩, i13]
        congr 1
        omega
      · simp only [cp3]
        rw [if_neg (by omega), if_pos ⟨trivial, trivial, by omega, by omega⟩, if_neg (by omega), i14]
        congr 1
        omega
      · simp only [cp3]
        rw [if_pos ⟨trivial, trivial, by omega, by omega⟩, if_neg (by omega), if_neg (by omega), i15]
        congr 1
        omega
    · obtain ⟨x, y, z⟩ := imD_c (S := S) m (by omega) n (by omega) k hk
      refine ⟨?_, ?_, ?_⟩
      · simp only [cp3]
        rw [if_neg (by omega), if_neg (by omega), if_neg (by omega)]; exact x
      · simp only [cp3]
        rw [if_neg (by omega), if_neg (by omega), if_neg (by omega)]; exact y
      · simp only [cp3]
        rw [if_neg (by omega), if_neg (by omega), if_neg (by omega)]; exact z
theorem bkD_c {S : St} : ∀ m, m ≤ 4 → ∀ n, n < m → ∀ k, k < 31 → bkD S m 13 n k = S 30 n k ∧ bkD S m 14 n k = S 30 (4 + n) k ∧ bkD S m 15 n k = S 30 (8 + n) k
  | 0, _, n, hn, _, _ => absurd hn (Nat.not_lt_zero _)
  | m + 1, hm, n, hn, k, hk => by
    have e0 : bkD S (m + 1) = cp3 (cp3 (cp3 (bkD S m) 30 m 13 m 0 0 31) 30 (4 + m) 14 m 0 0 31) 30 (8 + m) 15 m 0 0 31 := rfl
    rw [e0]
    by_cases e : n = m
    · subst e
      have i30 : ∀ i j, bkD S n 30 i j = S 30 i j := fun i j => bkD_n (by decide) (by decide) (by decide) n
      refine ⟨?_, ?_, ?_⟩
      · rw [cp3_n (by decide), cp3_n (by decide)]
        simp only [cp3]
        rw [if_pos ⟨trivial, trivial, by omega, by omega⟩, i30]
        congr 1
        omega
      · rw [cp3_n (by decide)]
        simp only [cp3]
        rw [if_pos ⟨trivial, trivial, by omega, by omega⟩, if_neg (by omega), i30]
        congr 1
        omega
      · simp only [cp3]
        rw [if_pos ⟨trivial, trivial, by omega, by omega⟩, if_neg (by omega), if_neg (by omega), i30]
        congr 1
        omega
    · obtain ⟨x, y, z⟩ := bkD_c (S := S) m (by omega) n (by omega) k hk
      refine ⟨?_, ?_, ?_⟩
      · simp only [cp3]
        rw [if_neg (by omega), if_neg (by omega), if_neg (by omega)]; exact x
      · simp only [cp3]
        rw [if_neg (by omega), if_neg (by omega), if_neg (by omega)]; exact y
      · simp only [cp3]
        rw [if_neg (by omega), if_neg (by omega), if_neg (by omega)]; exact z
theorem alM_y {J : St} {a b n i j : Nat} (hi : i < n) (hj : j < 4) : alM J a b n b i j = J a i j := by simp [alM, hi, hj]
theorem im1_n {J : St} {f i j : Nat} (h : 0 < f) (h2 : f < 26) : im1 J f i j = J f i j := by
  rw [im1, cp3_n (by omega), cp3_n (by omega), cp3_n (by omega), cp3_n (by omega), up3_f (by omega), up3_f (by omega)]
theorem imM_n {J : St} {f i j : Nat} (h : 0 < f) (h2 : f < 26) : imM J f i j = J f i j := by
  rw [imM, alM_n (by omega), alM_n (by omega), alM_n (by omega), alM_n (by omega), imD_n (by omega), im1_n h h2]
theorem imM_j {J : St} {f i j : Nat} (h : f < 31) (h2 : f ≠ 30) : imM J f i j = im1 J f i j := by
  rw [imM, alM_n (by omega), alM_n (by omega), alM_n (by omega), alM_n (by omega), imD_n h2]
theorem bk1_n {J : St} {f i j : Nat} (h : f ≠ 0) (h2 : f ≠ 12) (h3 : f ≠ 16) (h4 : f ≠ 21) (h5 : f ≠ 22) : bk1 J f i j = J f i j := by
  rw [bk1, cp3_n h5, cp3_n h4, cp3_n h3, cp3_n h2, up3_f h]
theorem bkM_j {J : St} {f i j : Nat} (h : f < 10 ∨ 18 < f ∨ f = 12 ∨ f = 16) : bkM J f i j = bk1 J f i j := by
  rw [bkM, alM_n (by omega), alM_n (by omega), alM_n (by omega), alM_n (by omega), bkD_n (by omega) (by omega) (by omega)]
theorem im_now {J : St} : EQA (V (imM J)) (V J) :=
  ⟨fun s _ c _ => ⟨imM_n (by decide) (by decide), imM_n (by decide) (by decide)⟩, fun r _ => imM_n (by decide) (by decide), fun p _ => ⟨imM_n (by decide) (by decide), imM_n (by decide) (by decide), imM_n (by decide) (by decide)⟩, fun o _ => imM_n (by decide) (by decide), fun p _ => imM_n (by decide) (by decide), imM_8 J, fun j _ => ⟨(show imM J 21 0 j = J 21 0 j from imM_n (by decide) (by decide)), (show imM J 22 0 j = J 22 0 j from imM_n (by decide) (by decide)), fun c _ => imM_n (by decide) (by decide)⟩⟩
theorem im_img {J : St} : EQA (VI (imM J)) (V J) := by
  refine ⟨fun s hs c hc => ⟨?_, ?_⟩, fun r hr => ?_, fun p hp => ?_, fun o ho => ?_, fun p hp => ?_, ?_, fun j hj => ⟨?_, ?_, fun c hc => ?_⟩⟩
  · show imM J 31 s c = J 10 s c
    rw [imM, alM_n (by decide), alM_n (by decide), alM_n (by decide), alM_y (by omega) hc, imD_n (by decide), im1_n (by decide) (by decide)]
  · show imM J 32 s c = J 11 s c
    rw [imM, alM_n (by decide), alM_n (by decide), alM_y (by omega) hc, alM_n (by decide), imD_n (by decide), im1_n (by decide) (by decide)]
  · show imM J 26 0 r = J 12 0 r
    rw [imM_j (by decide) (by decide)]
    simp [im1, cp3, hr, up3]
  · have k : ∀ f, f = 30 → ∀ i j, imM J f i j = imD (im1 J) 4 f i j := fun f hf i j => by
      rw [imM, alM_n (by omega), alM_n (by omega), alM_n (by omega), alM_n (by omega)]
    obtain ⟨x, y, z⟩ := imD_c (S := im1 J) 4 (by omega) (p / 31) (by omega) (p % 31) (by omega)
    refine ⟨?_, ?_, ?_⟩
    · show imM J 30 (p / 31) (p % 31) = J 13 (p / 31) (p % 31)
      rw [k 30 rfl, x, im1_n (by decide) (by decide)]
    · show imM J 30 (4 + p / 31) (p % 31) = J 14 (p / 31) (p % 31)
      rw [k 30 rfl, y, im1_n (by decide) (by decide)]
    · show imM J 30 (8 + p / 31) (p % 31) = J 15 (p / 31) (p % 31)
      rw [k 30 rfl, z, im1_n (by decide) (by decide)]
  · show imM J 27 0 o = J 16 0 o
    rw [imM_j (by decide) (by decide)]
    simp [im1, cp3, ho, up3]
  · show imM J 33 (p / 4) (p % 4) = J 17 (p / 4) (p % 4)
    rw [imM, alM_n (by decide), alM_y (by omega) (by omega), alM_n (by decide), alM_n (by decide), imD_n (by decide), im1_n (by decide) (by decide)]
  · show imM J 0 0 13 = J 0 0 8
    rw [imM_j (by decide) (by decide)]
    simp [im1, cp3, up3]
  · show imM J 28 0 j = J 21 0 j
    rw [imM_j (by decide) (by decide)]
    simp [im1, cp3, hj, up3]
  · show imM J 29 0 j = J 22 0 j
    rw [imM_j (by decide) (by decide)]
    simp [im1, cp3, hj, up3]
  · show imM J 34 j c = J 18 j c
    rw [imM, alM_y (by omega) hc, alM_n (by decide), alM_n (by decide), alM_n (by decide), imD_n (by decide), im1_n (by decide) (by decide)]
theorem bk_img {J : St} : VI (bkM J) = VI J := VI_e (fun f i j q => by
  unfold FM at q
  rw [bkM_j (by omega)]
  by_cases e : f = 0
  · subst e
    rw [bk1, cp3_n (by decide), cp3_n (by decide), cp3_n (by decide), cp3_n (by decide), up3_n (by omega)]
  · exact bk1_n e (by omega) (by omega) (by omega) (by omega))
theorem bk_now {J : St} : EQA (V (bkM J)) (VI J) := by
  refine ⟨fun s hs c hc => ⟨?_, ?_⟩, fun r hr => ?_, fun p hp => ?_, fun o ho => ?_, fun p hp => ?_, bkM_8 J, fun j hj => ⟨?_, ?_, fun c hc => ?_⟩⟩
  · show bkM J 10 s c = J 31 s c
    rw [bkM, alM_n (by decide), alM_n (by decide), alM_n (by decide), alM_y (by omega) hc, bkD_n (by decide) (by decide) (by decide), bk1_n (by decide) (by decide) (by decide) (by decide) (by decide)]
  · show bkM J 11 s c = J 32 s c
    rw [bkM, alM_n (by decide), alM_n (by decide), alM_y (by omega) hc, alM_n (by decide), bkD_n (by decide) (by decide) (by decide), bk1_n (by decide) (by decide) (by decide) (by decide) (by decide)]
  · show bkM J 12 0 r = J 26 0 r
    rw [bkM_j (by decide)]
    simp [bk1, cp3, hr, up3]
  · have k : ∀ f, f = 13 ∨ f = 14 ∨ f = 15 → ∀ i j, bkM J f i j = bkD (bk1 J) 4 f i j := fun f hf i j => by
      rw [bkM, alM_n (by omega), alM_n (by omega), alM_n (by omega), alM_n (by omega)]
    obtain ⟨x, y, z⟩ := bkD_c (S := bk1 J) 4 (by omega) (p / 31) (by omega) (p % 31) (by omega)
    have b30 : ∀ i j, bk1 J 30 i j = J 30 i j := fun i j => bk1_n (by decide) (by decide) (by decide) (by decide) (by decide)
    refine ⟨?_, ?_, ?_⟩
    · show bkM J 13 (p / 31) (p % 31) = J 30 (p / 31) (p % 31)
      rw [k 13 (Or.inl rfl), x, b30]
    · show bkM J 14 (p / 31) (p % 31) = J 30 (4 + p / 31) (p % 31)
      rw [k 14 (Or.inr (Or.inl rfl)), y, b30]
    · show bkM J 15 (p / 31) (p % 31) = J 30 (8 + p / 31) (p % 31)
      rw [k 15 (Or.inr (Or.inr rfl)), z, b30]
  · show bkM J 16 0 o = J 27 0 o
    rw [bkM_j (by decide)]
    simp [bk1, cp3, ho, up3]
  · show bkM J 17 (p / 4) (p % 4) = J 33 (p / 4) (p % 4)
    rw [bkM, alM_n (by decide), alM_y (by omega) (by omega), alM_n (by decide), alM_n (by decide), bkD_n (by decide) (by decide) (by decide), bk1_n (by decide) (by decide) (by decide) (by decide) (by decide)]
  · show bkM J 21 0 j = J 28 0 j
    rw [bkM_j (by decide)]
    simp [bk1, cp3, hj, up3]
  · show bkM J 22 0 j = J 29 0 j
    rw [bkM_j (by decide)]
    simp [bk1, cp3, hj, up3]
  · show bkM J 18 j c = J 34 j c
    rw [bkM, alM_y (by omega) hc, alM_n (by decide), alM_n (by decide), alM_n (by decide), bkD_n (by decide) (by decide) (by decide), bk1_n (by decide) (by decide) (by decide) (by decide) (by decide)]
theorem NW_0f {u A : St} {n so : Nat} {x : Int32} (h : NW u n so A) : NW (up3 u 0 0 2 x) n so A := by
  have e : ∀ f i j, f ≠ 0 → up3 u 0 0 2 x f i j = u f i j := fun f i j q => up3_f q
  refine ⟨fun s hs => rowX_e (h.row hs) (fun f j hf => e f _ j (by omega)) (fun _ _ _ => rfl), fun r hr => ?_, fun p hp => ?_, fun o ho => ?_, fun p hp => ?_, ?_, fun j hj => ?_⟩
  · rw [e 12 _ _ (by decide)]; exact h.mad hr
  · rw [e 13 _ _ (by decide), e 14 _ _ (by decide), e 15 _ _ (by decide)]; exact h.dot hp
  · rw [e 16 _ _ (by decide)]; exact h.knd ho
  · rw [e 17 _ _ (by decide)]; exact h.kno hp
  · rw [e 1 _ _ (by decide)]; exact h.wts
  · rw [e 6 _ _ (by decide)]
    obtain ⟨m1, m2, m3, m4⟩ := h.msg hj
    refine ⟨?_, ?_, rowX_e m3 (fun f c hf => e f _ c (by omega)) (fun _ _ _ => rfl), fun c hc => ?_⟩
    · rw [e 8 _ _ (by decide)]; exact m1
    · rw [e 8 _ _ (by decide)]; exact m2
    · rw [e 18 _ _ (by decide)]; exact m4 c hc
theorem image_r {I J : St} (h : Rel I J) : Rel (imS I) (imM J) := by
  obtain ⟨k1, k2, k6, k7⟩ := nbk_NW (I := I) (b := 0) (a := 1) (sb := 0) (sa := 39) (Or.inl ⟨rfl, rfl, rfl, rfl⟩) h.pmi h.pm h.w6 h.now
  have e0 : imS I = up3 (nbk I 0 1 0 39 (0 + 4) (39 + 4)) 0 0 2 (nI 1) := rfl
  rw [e0]
  refine ⟨NW_q im_now h.w6 (NW_0f k2), NW_q im_img h.w6 (NW_0f k1), ?_, SH_e (fun f i j q => ?_) (fun f i j q => imM_n (by omega) (by omega)) h.sh, OKA_q im_now h.ok, OKA_q im_img h.ok, PM_e (fun j _ => ?_) h.pm, PM_e (fun j _ => ?_) h.pmi⟩
  · rw [up3_s, imM_j (by decide) (by decide)]
    simp [im1, cp3, up3]
  · rw [up3_f (by omega)]; exact k7 f i j (by omega)
  · rw [up3_f (by decide)]; exact k6 0 j
  · rw [up3_f (by decide)]; exact k6 1 j
theorem back_r {I J : St} (h : Rel I J) : Rel (bkS I) (bkM J) := by
  obtain ⟨k1, k2, k6, k7⟩ := nbk_NW (I := I) (b := 1) (a := 0) (sb := 39) (sa := 0) (Or.inr ⟨rfl, rfl, rfl, rfl⟩) h.pm h.pmi h.oki.T.2 h.img
  have e0 : bkS I = nbk I 1 0 39 0 (39 + 4) (0 + 4) := rfl
  rw [e0]
  refine ⟨NW_q bk_now h.oki.T.2 k1, ?_, ?_, SH_e (fun f i j q => k7 f i j (by omega)) (fun f i j q => ?_) h.sh, OKA_q bk_now h.oki, ?_, PM_e (fun j _ => k6 0 j) h.pm, PM_e (fun j _ => k6 1 j) h.pmi⟩
  · rw [bk_img]; exact k2
  · rw [k7 0 0 2 (Or.inl rfl), bkM_j (by decide), bk1, cp3_n (by decide), cp3_n (by decide), cp3_n (by decide), cp3_n (by decide), up3_n (by decide)]
    exact h.flag
  · rw [bkM_j (by omega), bk1_n (by omega) (by omega) (by omega) (by omega) (by omega)]
  · rw [bk_img]; exact h.oki
