/-! ===== rows for the calls, three: UNDER, sheets, what is told ===== -/
def und (j : Nat) : Int32 := match j with | 0 => -1 | 1 => 0 | 2 => 0 | 3 => 1 | 4 => 2 | _ => 3
def UDA (A : Nat → Prop) (t : Nat) (U : State) : Prop := va_Z "JoinedStores" "UNDER" "[I" (.ref t) A U U.heap ∧ va_T .int t 6 (fun j => .int (und j)) A U U.heap
theorem UDA.calling {A : Nat → Prop} {t : Nat} {U : State} {g : JFrame} {mk : MethodId} {a : Array Value} (h : UDA A t U) : UDA A t (U.calling g mk a) :=
  ⟨va_Z.moved (u := U) (U := U.calling g mk a) (Vm.Alike.refl U.vm) h.1, va_T.moved (u := U) (U := U.calling g mk a) (Vm.Alike.refl U.vm) h.2⟩
theorem UDA.at {A : Nat → Prop} {t : Nat} {s U : State} {H : Heap} {locs : List Loc} (h : UDA A t s) (hS : va_S A s.heap H locs) (hU : U.heap = H) (hW : s.WarmedH U.vm) : UDA A t U := by
  unfold UDA
  rw [hU]
  exact ⟨va_Z.moved hW.alike (va_Z.kept h.1 hS.2.1), va_T.moved hW.alike (va_T.kept h.2 hS.2.1)⟩
theorem UDA.low {A : Nat → Prop} {t : Nat} {s : State} (h : UDA A t s) : UDA (fun _ => False) t s := ⟨va_Z.narrow h.1 (fun _ q => q.elim), va_T.narrow h.2 (fun _ q => q.elim)⟩
theorem ud_preS {A : Nat → Prop} {t : Nat} {s : State} {H : Heap} {locs : List Loc} {av : List Value} (h : UDA A t s) (hS : va_S A s.heap H locs) : PreS s H (va_Pc av (UDA (fun _ => False) t)) av :=
  ⟨fun a U g mk q => ⟨q.1, q.2.calling⟩, fun U hU hW => ⟨rfl, (UDA.at h hS hU hW).low⟩⟩
abbrev g2Pre (D : va_G) (G : Nat → ClassId) (L : List (Nat × Nat)) (ad : Nat → Nat → Nat) (av : List Value) (σ : Cont) (B : State → Prop) : Array Value → State → Prop := va_Pc av (fun U => (va_P D vwCl (wS L ad σ) U.heap ∧ KK D G U) ∧ B U)
theorem u_entry {l : Launch} {y : MethodName} {ws ws' : List Cond} {rm : Room} {Qc : Array Value → State → Outcome → State → Prop} {free : Addr → Prop} {cc : ByteArray} {ret : Option FieldType} {av : List Value} {B0 : State → Prop} {maxL : Nat} {C : String} (hC : C = y.cls) (hy : plainName y.cls = true) (hw : ws = Cond.code y cc maxL ret :: ws') (hav : (lg_sl av).length ≤ maxL)
    (body : ∀ (p : Program) (e : Env) (s : State) (m : MethodId) (args : Array Value) (below : List Frame) (meth : Method) (c : Code) (Q : State → Prop) (ls : Array Slot), Q = MQ below Qc args s 0 0 free → p.tables.exec = Jvm.exec → c.code = cc → meth.sig.returnType = ret → (∀ w ∈ ws, w.before args s = true) → s.vm.findClass C = some m.cls → meth.locks = false → c.maxLocals = maxL → B0 s → lv_has ls maxL (lv_args 0 av) →
      W p l e rm s m args below meth c s.heap [] 0 0 Q (F0 m 0 ls [])) : Met l y ws rm (va_Pc av B0) Qc 0 0 free := by
  refine Met.ofW (cc := cc) (maxL := maxL) (ret := ret) hy hw ?_
  intro p e s m args below meth c s₁ B hml hv
  obtain ⟨hav1, hB⟩ := hv
  have hl := lv_entry av (n := maxL) hav
  have key := body p e s m args below meth c _ _ rfl B.exec B.bytes B.returns (atoms_spec (ws := ws) B.pre) (by rw [hC]; exact findClass_of_methodNamed B.named) B.notSynchronized hml hB hl
  rw [hav1, lg_entry_eq]
  rw [hav1] at key
  exact key
/-- whether an object of kind a is one of kind b, or one under it -/
def iu (a b : Nat) : Bool := b == 0 || b == a || (b == 1 && (a == 3 || a == 5)) || (b == 2 && a == 4) || (b == 3 && a == 5)
/-- sheets -/
def sl (I : St) (k : Nat) : Nat := tn (I 7 k 1)
def okS (I : St) : Prop := ∀ k, k < 4 → I 7 k 1 = nI (sl I k) ∧ sl I k ≤ 40
def tls (I : St) (k r a w : Nat) : Int32 :=
  if 4 < sl I k ∨ (w = 2 ∧ sl I k = 0) then -2
  else if w = 0 then fo I k r a (kd I (a * 4)) (sl I k)
  else if w = 1 then bits (fun q => decide (fo I k q a (kd I (a * 4)) (sl I k) = -1)) 4
  else if w = 2 then bits (fun q => decide (fo I k r a q (sl I k) = -1)) 6
  else bits (fun q => tb (mtoP I r (wt I)) q && decide (fo (tcP I r (b1 q) (wt I)) k 34 a (kd I (a * 4)) (sl I k) = -1)) (wt I)
def flP (I : St) (k r a n : Nat) : Nat → St
  | 0 => shb I k (nI 0) (nI n)
  | i + 1 => up3 (gst (flP I k r a n i) (gl (flP I k r a n i) r (a * 4 + i))) 19 k i (wth (flP I k r a n i) r (a * 4 + i) (kd (flP I k r a n i) (a * 4 + i))).toInt32
theorem shP_n {I : St} {k n f i j : Nat} (h : f ≠ 19) : shP I k n f i j = I f i j := by simp [shP, h]
theorem flP_n {I : St} {k r a n f i j : Nat} (h7 : f ≠ 7) (h19 : f ≠ 19) (h20 : f ≠ 20) : ∀ q, flP I k r a n q f i j = I f i j
  | 0 => by rw [flP, shb, shP_n h19, up3_f h7, up3_f h7]
  | q + 1 => by rw [flP, up3_f h19, gst_n h20]; exact flP_n h7 h19 h20 q
def imS (I : St) : St := up3 (nbk I 0 1 0 39 4 43) 0 0 2 (nI 1)
def bkS (I : St) : St := nbk I 1 0 39 0 43 4
def cnv (I : St) (w : Int32) : Int32 := if w = nI 0 then mads I 4 else if w = nI 1 then I 1 0 6 else if w = nI 2 then nI (cntS I 0 4) else if w = nI 3 then bcs (mtP I 0 4 11 32) 4 else if w = nI 4 then tgs I 4 else -2
theorem rfi_0 {I : St} {s i : Int32} (hS : okS I) (h : rfi I s i = 0) : ∃ k j, k < 4 ∧ s = nI k ∧ ¬ I 7 k 0 = -1 ∧ i = nI j ∧ j < sl I k ∧ sl I k ≤ 40 := by
  rw [rfi] at h
  by_cases h1 : okN (nI 4) s = true
  · obtain ⟨k, hk, rfl⟩ := okN_nI (by decide) h1
    have ht : tn (nI k) = k := tn_nI (by omega)
    rw [if_pos h1, ht] at h
    have hs := hS k hk
    by_cases h2 : I 7 k 0 = -1
    · rw [if_pos h2] at h; exact absurd h (by decide)
    · rw [if_neg h2] at h
      by_cases h3 : i < 0
      · rw [if_pos h3] at h; exact absurd h (by decide)
      · rw [if_neg h3] at h
        by_cases h4 : I 7 k 1 ≤ i
        · rw [if_pos h4] at h; exact absurd h (by decide)
        · obtain ⟨j, hj, rfl⟩ := nI_of h3
          refine ⟨k, j, hk, rfl, h2, rfl, Nat.not_le.mp (fun q => h4 ?_), hs.2⟩
          rw [hs.1]
          exact (nI_leI (by omega) hj).mpr q
  · rw [if_neg h1] at h; exact absurd h (by decide)
theorem nbk1_w (I : St) : nbk I 0 1 0 39 4 43 1 0 6 = I 1 0 6 := by
  rw [nbk, up3_n (by decide), nb4, itr_nbq_n (by decide) (by decide) (by decide) (by decide), nb3, itr_cpy_n (by decide) (by decide), nb2, itr_cpy_n (by decide) (by decide)]
  simp [nb1, dcp, cp3]
theorem nbk0_w (I : St) : nbk I 1 0 39 0 43 4 1 0 6 = I 1 1 6 := by
  rw [nbk, up3_s, nb4, itr_nbq_n (by decide) (by decide) (by decide) (by decide), nb3, itr_cpy_n (by decide) (by decide), nb2, itr_cpy_n (by decide) (by decide)]
  simp [nb1, dcp, cp3]
def shv (I : St) (k : Nat) (so n : Int32) : St := if so = -1 then shb I k (-1) (nI 0) else if nI 40 < n ∨ n < 0 then I else shb I k so n
def ptv (I : St) (k : Nat) (v : Int32) : Int32 := if I 7 k 0 = nI 1 then (FP.fdiv (FP.i2f v) 1090519040).toInt32 else v
def cpr (I : St) (k : Nat) (i : Int32) (o : Nat) (j n : Int32) : Int32 := if I 7 k 0 = -1 ∨ I 7 o 0 = -1 then -11 else if ¬ I 7 k 0 = I 7 o 0 then -13 else if ¬ (hld I k i n && hld I o j n) = true then -12 else n
def cps (I : St) (k : Nat) (i : Int32) (o : Nat) (j n : Int32) : St := if I 7 k 0 = -1 ∨ I 7 o 0 = -1 then I else if ¬ I 7 k 0 = I 7 o 0 then I else if ¬ (hld I k i n && hld I o j n) = true then I else cp3 I 19 k 19 o (tn i) (tn j) (tn n)
theorem hld_1 {I : St} {k : Nat} (hS : I 7 k 1 = nI (sl I k) ∧ sl I k ≤ 40) {a n : Int32} (h : hld I k a n = true) : ∃ i q, a = nI i ∧ n = nI q ∧ i + q ≤ sl I k := by
  simp only [hld, Bool.and_eq_true, Bool.not_eq_true', decide_eq_false_iff_not] at h
  obtain ⟨⟨⟨h1, h2⟩, h3⟩, h4⟩ := h
  obtain ⟨i, hi, rfl⟩ := nI_of h1
  obtain ⟨q, hq, rfl⟩ := nI_of h2
  rw [hS.1] at h3 h4
  have h5 : q ≤ sl I k := Nat.not_lt.mp (fun z => h3 ((nI_ltI (by omega) hq).mpr z))
  rw [pk_sub h5] at h4
  have h6 : i ≤ sl I k - q := Nat.not_lt.mp (fun z => h4 ((nI_ltI (by omega) hi).mpr z))
  exact ⟨i, q, rfl, rfl, by omega⟩
theorem hld_2 {I : St} {k o : Nat} (hS : I 7 k 1 = nI (sl I k) ∧ sl I k ≤ 40) (hO : I 7 o 1 = nI (sl I o) ∧ sl I o ≤ 40) {a b n : Int32} (h : hld I k a n = true) (h' : hld I o b n = true) : ∃ i j q, a = nI i ∧ b = nI j ∧ n = nI q ∧ i + q ≤ sl I k ∧ j + q ≤ sl I o ∧ i + q ≤ 40 ∧ j + q ≤ 40 := by
  obtain ⟨i, q, rfl, rfl, h1⟩ := hld_1 hS h
  obtain ⟨j, q', rfl, hq, h2⟩ := hld_1 hO h'
  have : q = q' := (nI_eq (by omega) (by omega)).mp hq
  subst this
  exact ⟨i, j, q, rfl, rfl, rfl, h1, h2, by omega, by omega⟩
