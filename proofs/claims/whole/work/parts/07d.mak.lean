/-! ===== the tables at first ===== -/
def I00 : St := fun f _ j => if f = 6 then nI j else if f = 7 ∧ j = 0 then -1 else 0
def J00 : St := fun f _ _ => if f = 23 then -1 else 0
theorem Rel_00 : Rel I00 J00 := by
  have w0 : wt (V J00) = 0 := rfl
  have w1 : wt (VI J00) = 0 := rfl
  have z6 : ∀ n j, j < 6 → tn (I00 6 n j) = j := fun n j hj => tn_nI (by omega)
  have row : ∀ s t, rowX I00 J00 s t := fun s t j _ => ⟨rfl, rfl⟩
  have okV : ∀ A : St, (∀ i j, A 1 i j = 0) → (∀ i j, A 10 i j = 0) → (∀ i j, A 11 i j = 0) → (∀ i j, A 12 i j = 0) → (∀ i j, A 15 i j = 0) → (∀ i j, A 16 i j = 0) → OKA A := fun A h1 h10 h11 h12 h15 h16 => by
    have e : wt A = 0 := by rw [wt, h1]; rfl
    refine ⟨fun r _ => ?_, fun o _ => ?_, ⟨?_, by omega⟩, fun j hj => by omega, fun p _ => ⟨0, by decide, by rw [h15]; rfl⟩, fun s _ j _ i _ q => ?_, fun j hj => by omega⟩
    · rw [mk, h12]; exact ⟨rfl, by decide⟩
    · rw [kd, h16]; exact ⟨rfl, by decide⟩
    · rw [e, h1]; rfl
    · rw [h11, b_0] at q; exact absurd q (by decide)
  refine ⟨⟨fun s _ => row (s + 0) s, fun _ _ => rfl, fun _ _ => ⟨rfl, rfl, rfl⟩, fun _ _ => rfl, fun _ _ => rfl, rfl, fun j hj => by omega⟩, ⟨fun s _ j _ => ⟨rfl, rfl⟩, fun _ _ => rfl, fun _ _ => ⟨rfl, rfl, rfl⟩, fun _ _ => rfl, fun _ _ => rfl, rfl, fun j hj => by omega⟩, rfl, fun k _ => ⟨rfl, rfl, fun j hj => ?_, Or.inl rfl, ?_, ?_⟩, okV _ (fun _ _ => rfl) (fun _ _ => rfl) (fun _ _ => rfl) (fun _ _ => rfl) (fun _ _ => rfl) (fun _ _ => rfl), okV _ (fun _ _ => rfl) (fun _ _ => rfl) (fun _ _ => rfl) (fun _ _ => rfl) (fun _ _ => rfl) (fun _ _ => rfl), ⟨fun j hj => by rw [z6 0 j hj]; exact hj, fun j k hj hk q => by rw [z6 0 j hj, z6 0 k hk] at q; exact q⟩, ⟨fun j hj => by rw [z6 1 j hj]; exact hj, fun j k hj hk q => by rw [z6 1 j hj, z6 1 k hk] at q; exact q⟩⟩
  · have e : sl I00 k = 0 := rfl
    omega
  · rfl
  · have e : sl I00 k = 0 := rfl
    omega
/-! ===== making: cells one behind another ===== -/
def upC (σ : Cont) (f i : Nat) (e : va_E) : Cont := fun f' i' => if f' = f ∧ i' = i then e else σ f' i'
theorem upC_s (σ : Cont) (f i : Nat) (e : va_E) : upC σ f i e f i = e := by simp [upC]
theorem upC_n {σ : Cont} {f i f' i' : Nat} {e : va_E} (h : ¬ (f' = f ∧ i' = i)) : upC σ f i e f' i' = σ f' i' := by simp [upC, h]
theorem upC_u (σ : Cont) (f i : Nat) (e e' : va_E) : upC (upC σ f i e) f i e' = upC σ f i e' := by
  funext f' i'
  simp only [upC]
  split <;> rfl
theorem upC_c {σ : Cont} {f i g j : Nat} {e e' : va_E} (h : ¬ (f = g ∧ i = j)) : upC (upC σ f i e) g j e' = upC (upC σ g j e') f i e := by
  funext f' i'
  simp only [upC]
  by_cases a : f' = f ∧ i' = i
  · have b : ¬ (f' = g ∧ i' = j) := fun q => h ⟨a.1.symm.trans q.1, a.2.symm.trans q.2⟩
    rw [if_neg b, if_pos a, if_pos a]
  · rw [if_neg a, if_neg a]
theorem upC_id {σ : Cont} {f i : Nat} {e : va_E} (h : σ f i = e) : upC σ f i e = σ := by
  funext f' i'
  simp only [upC]
  split
  · rename_i q; rw [q.1, q.2, h]
  · rfl
def PK (D : va_G) (L : List (Nat × Nat)) (off : Nat → Nat → Nat) (b k : Nat) (σ : Cont) (H : Heap) : Prop := H.size = b + k ∧ ∀ x, x ∈ L → off x.1 x.2 < k → va_at D vwCl (b + off x.1 x.2, σ x.1 x.2) H
def oO (L : List (Nat × Nat)) (off : Nat → Nat → Nat) : Prop := ∀ x, x ∈ L → ∀ y, y ∈ L → off x.1 x.2 = off y.1 y.2 → x = y
theorem PK_e {D : va_G} {L : List (Nat × Nat)} {off : Nat → Nat → Nat} {b k : Nat} {σ σ' : Cont} {H : Heap} (h : PK D L off b k σ H) (e : ∀ f i, (f, i) ∈ L → off f i < k → σ' f i = σ f i) : PK D L off b k σ' H :=
  ⟨h.1, fun x hx hl => by rw [e x.1 x.2 hx hl]; exact h.2 x hx hl⟩
/-- a cell that is still to be made may be thought anything -/
theorem PK_un {D : va_G} {L : List (Nat × Nat)} {off : Nat → Nat → Nat} {b k : Nat} {σ : Cont} {H : Heap} {f i : Nat} (e : va_E) (h : PK D L off b k σ H) (hk : k ≤ off f i) : PK D L off b k (upC σ f i e) H :=
  PK_e h (fun f' i' _ hl => upC_n (fun q => by rw [q.1, q.2] at hl; omega))
theorem PK_push {D : va_G} {L : List (Nat × Nat)} {off : Nat → Nat → Nat} {b k : Nat} {σ : Cont} {H H1 : Heap} {f i : Nat} (hO : oO L off) (h : PK D L off b k σ H) (hm : (f, i) ∈ L) (hk : off f i = k) (z : H1.size = b + k + 1) (old : ∀ q, q < b + k → H1[q]? = H[q]?) (he : va_at D vwCl (b + k, σ f i) H1) : PK D L off b (k + 1) σ H1 := by
  refine ⟨by omega, fun x hx hl => ?_⟩
  by_cases q : x = (f, i)
  · subst q
    show va_at D vwCl (b + off f i, σ f i) H1
    rw [hk]; exact he
  · have hne : off x.1 x.2 ≠ k := fun z => q (hO x hx (f, i) hm (z.trans hk.symm))
    exact (h.2 x hx (by omega)).kept (old _ (by show b + off x.1 x.2 < b + k; omega))
theorem PK_set {D : va_G} {L : List (Nat × Nat)} {off : Nat → Nat → Nat} {b k : Nat} {σ : Cont} {H H1 : Heap} {f i : Nat} {e : va_E} (hO : oO L off) (h : PK D L off b k σ H) (hm : (f, i) ∈ L) (z : H1.size = H.size) (oq : ∀ q, q ≠ b + off f i → H1[q]? = H[q]?) (he : va_at D vwCl (b + off f i, e) H1) : PK D L off b k (upC σ f i e) H1 := by
  refine ⟨by rw [z]; exact h.1, fun x hx hl => ?_⟩
  by_cases q : x = (f, i)
  · subst q
    show va_at D vwCl (b + off f i, upC σ f i e f i) H1
    rw [upC_s]; exact he
  · have hne : off x.1 x.2 ≠ off f i := fun z => q (hO x hx (f, i) hm z)
    have e1 : upC σ f i e x.1 x.2 = σ x.1 x.2 := upC_n (fun z => q (Prod.ext z.1 z.2))
    rw [e1]
    exact (h.2 x hx hl).kept (oq _ (by show b + off x.1 x.2 ≠ b + off f i; omega))
theorem arr_ext {c : ClassId} {n : Nat} {f g : Nat → Value} (h : ∀ j, j < n → f j = g j) : arrV c n f = arrV c n g := by
  simp only [arrV]
  congr 2
  funext j
  exact h j.val j.isLt
/-- a row of references counts for its length alone -/
theorem at_refs {D : va_G} {H : Heap} {a n : Nat} {c : ClassId} {g g' : Nat → Option Nat} (h : va_at D vwCl (a, .inl (c, n, .inr (.inr (.inr (.inr g))))) H) (e : ∀ j, j < n → g j = g' j) : va_at D vwCl (a, .inl (c, n, .inr (.inr (.inr (.inr g'))))) H := by
  show H[a]? = some (vp_cell c (n, .inr (.inr (.inr (.inr g')))))
  have h1 : H[a]? = some (vp_cell c (n, .inr (.inr (.inr (.inr g))))) := h
  rw [h1, vp_cell_q, vp_cell_q]
  exact congrArg some (arr_ext (fun j hj => by rw [e j hj]))
theorem at_ints {D : va_G} {H : Heap} {a n : Nat} {c : ClassId} {g g' : Nat → Int32} (h : va_at D vwCl (a, .inl (c, n, .inl g)) H) (e : ∀ j, j < n → g j = g' j) : va_at D vwCl (a, .inl (c, n, .inl g')) H := by
  show H[a]? = some (vp_cell c (n, .inl g'))
  have h1 : H[a]? = some (vp_cell c (n, .inl g)) := h
  rw [h1, vp_cell_i, vp_cell_i]
  exact congrArg some (arr_ext (fun j hj => by rw [e j hj]))
theorem PK_refs {D : va_G} {L : List (Nat × Nat)} {off : Nat → Nat → Nat} {b k : Nat} {σ : Cont} {H : Heap} {f i n : Nat} {c : ClassId} {g g' : Nat → Option Nat} (h : PK D L off b k (upC σ f i (.inl (c, n, .inr (.inr (.inr (.inr g)))))) H) (e : ∀ j, j < n → g j = g' j) (hσ : σ f i = .inl (c, n, .inr (.inr (.inr (.inr g'))))) : PK D L off b k σ H := by
  refine ⟨h.1, fun x hx hl => ?_⟩
  have h1 := h.2 x hx hl
  by_cases q : x.1 = f ∧ x.2 = i
  · rw [q.1, q.2, upC_s] at h1
    rw [q.1, q.2, hσ]
    exact at_refs h1 e
  · rw [upC_n q] at h1; exact h1
theorem PK_ints {D : va_G} {L : List (Nat × Nat)} {off : Nat → Nat → Nat} {b k : Nat} {σ : Cont} {H : Heap} {f i n : Nat} {c : ClassId} {g g' : Nat → Int32} (h : PK D L off b k (upC σ f i (.inl (c, n, .inl g))) H) (e : ∀ j, j < n → g j = g' j) (hσ : σ f i = .inl (c, n, .inl g')) : PK D L off b k σ H := by
  refine ⟨h.1, fun x hx hl => ?_⟩
  have h1 := h.2 x hx hl
  by_cases q : x.1 = f ∧ x.2 = i
  · rw [q.1, q.2, upC_s] at h1
    rw [q.1, q.2, hσ]
    exact at_ints h1 e
  · rw [upC_n q] at h1; exact h1
/-- the words of nest mates' constructors, the arrays of references -/
def nestW2 : List Cond := [.methodLinkNest RX2 11 yX0_init RX5, .methodLinkNest RX2 40 yX4_init RX5, .methodLinkNest RX2 41 yX1_init RX5, .methodLinkNest RX1 11 yX4_init RX5, .methodLinkNest RX5 27 yX4_init RX5, .methodLinkNest RX5 42 yX3_init RX5]
theorem va_AOA.moved {ty : FieldType} {u U : State} (hvm : u.vm.Alike U.vm) (h : va_AOA ty u) : va_AOA ty U := by
  obtain ⟨comp, c, k, h1, h2, h3, h4, h5⟩ := arrayOverA_spec h
  obtain ⟨k', hk', he⟩ := hvm.2.2 _ _ h3
  have hi : (U.vm.classes.findIdx? fun (x : Class) => match x.kind with | .array component _ => component == comp | _ => false) = some c := by
    have e1 := va_idx_bare U.vm comp
    have e2 := va_idx_bare u.vm comp
    first | rw [hvm.bare_eq] at e1 | rw [← hvm.bare_eq] at e1
    exact (e1.symm.trans e2).trans h2
  have hkind : k'.kind = .array comp (.array ty) := by rw [he]; exact h4
  have f1 : U.vm.findClass (FieldType.array ty).toString = some comp := by rw [hvm.findClass]; exact h1
  have f2 : U.vm.findClass ("[" ++ (FieldType.array ty).toString) = some c := by rw [hvm.findClass]; exact h5
  unfold va_AOA Cond.before Cond.holds
  simp only [Cond.value]
  rw [f1, Option.bind_some]
  refine (congrArg (fun o : Option Nat => (o.bind (fun c => (U.vm.classes[c]?).map fun (k : Class) => match k.kind with | .array _ t => decide (t = FieldType.array ty) && decide (U.vm.findClass ("[" ++ (FieldType.array ty).toString) = some c) | _ => false) == some true)) hi).trans ?_
  simp [hk', hkind, f2]
def KX (D : va_G) (G : Nat → ClassId) (U : State) : Prop := KK D G U ∧ (va_AO RX4 U ∧ va_AO RX1 U ∧ va_AO RX3 U ∧ va_AOA .int U) ∧ ∀ w ∈ nestW2, va_Nw w U
theorem KX.warm {D : va_G} {G : Nat → ClassId} {s U : State} (hW : s.WarmedH U.vm) (h : KX D G s) : KX D G U := by
  refine ⟨h.1.warm hW, ⟨va_AO.moved hW.alike h.2.1.1, va_AO.moved hW.alike h.2.1.2.1, va_AO.moved hW.alike h.2.1.2.2.1, va_AOA.moved hW.alike h.2.1.2.2.2⟩, fun w hw => ?_⟩
  have h1 := h.2.2 w hw
  simp only [nestW2, List.mem_cons, List.not_mem_nil, or_false] at hw
  rcases hw with rfl | rfl | rfl | rfl | rfl | rfl <;> exact va_Nw.warmM hW h1
theorem KX.calling {D : va_G} {G : Nat → ClassId} {U : State} {g : JFrame} {mk : MethodId} {a : Array Value} (h : KX D G U) : KX D G (U.calling g mk a) := by
  refine ⟨h.1.calling, ⟨va_AO.moved (u := U) (U := U.calling g mk a) (Vm.Alike.refl U.vm) h.2.1.1, va_AO.moved (u := U) (U := U.calling g mk a) (Vm.Alike.refl U.vm) h.2.1.2.1, va_AO.moved (u := U) (U := U.calling g mk a) (Vm.Alike.refl U.vm) h.2.1.2.2.1, va_AOA.moved (u := U) (U := U.calling g mk a) (Vm.Alike.refl U.vm) h.2.1.2.2.2⟩, fun w hw => ?_⟩
  have h1 := h.2.2 w hw
  simp only [nestW2, List.mem_cons, List.not_mem_nil, or_false] at hw
  rcases hw with rfl | rfl | rfl | rfl | rfl | rfl <;> exact va_Nw.same (u := U) rfl rfl h1
abbrev kPre (D : va_G) (G : Nat → ClassId) (L : List (Nat × Nat)) (off : Nat → Nat → Nat) (b k : Nat) (σ : Cont) (av : List Value) : Array Value → State → Prop := va_Pc av (fun U => PK D L off b k σ U.heap ∧ KX D G U)
abbrev kQ (D : va_G) (L : List (Nat × Nat)) (off : Nat → Nat → Nat) (b k : Nat) (σ : Cont) : Array Value → State → Outcome → State → Prop := va_Qv (S := Unit) (fun _ => True) (fun _ t => PK D L off b k σ t.heap) (fun q => b ≤ q)
theorem k_entry {l : Launch} {y : MethodName} {ws ws' : List Cond} {rm : Room} {Qc : Array Value → State → Outcome → State → Prop} {free : Addr → Prop} {cc : ByteArray} {ret : Option FieldType} {D : va_G} {G : Nat → ClassId} {L : List (Nat × Nat)} {off : Nat → Nat → Nat} {b k : Nat} {σ : Cont} {av : List Value} {maxL mc ms : Nat} {C : String} (hC : C = y.cls) (hn : y.name = "<init>") (hy : plainName y.cls = true) (hw : ws = Cond.code y cc maxL ret :: ws') (hav : (lg_sl av).length ≤ maxL)
    (body : ∀ (p : Program) (e : Env) (s : State) (m : MethodId) (args : Array Value) (below : List Frame) (meth : Method) (c : Code) (Q : State → Prop) (ls : Array Slot), Q = MQ below Qc args s mc ms free → p.tables.exec = Jvm.exec → c.code = cc → meth.sig.returnType = ret → (∀ w ∈ ws, w.before args s = true) → s.vm.findClass C = some m.cls → meth.locks = false → c.maxLocals = maxL → meth.name = "<init>" → PK D L off b k σ s.heap → KX D G s → lv_has ls maxL (lv_args 0 av) →
      W p l e rm s m args below meth c s.heap [] 0 0 Q (F0 m 0 ls [])) : Met l y ws rm (kPre D G L off b k σ av) Qc mc ms free := by
  refine Met.ofW (cc := cc) (maxL := maxL) (ret := ret) hy hw ?_
  intro p e s m args below meth c s₁ B hml hv
  obtain ⟨hav1, hP, hK⟩ := hv
  have hl := lv_entry av (n := maxL) hav
  have key := body p e s m args below meth c _ _ rfl B.exec B.bytes B.returns (atoms_spec (ws := ws) B.pre) (by rw [hC]; exact findClass_of_methodNamed B.named) B.notSynchronized hml ((name_of_methodNamed B.named B.method).1.trans hn) hP hK hl
  rw [hav1, lg_entry_eq]
  rw [hav1] at key
  exact key
section MAK
variable {p : Program} {l : Launch} {e : Env} {R : Room} {s : State} {m : MethodId} {args : Array Value} {below : List Frame} {meth : Method} {c : Code} {H : Heap} {locs : List Loc} {cells slots : Nat} {Q : State → Prop}
variable {cc : ByteArray} {pc : Nat} {ls : Array Slot} {rest : List Value} {D : va_G} {G : Nat → ClassId} {L : List (Nat × Nat)} {off : Nat → Nat → Nat} {b k : Nat} {σ : Cont} {H0 : Heap}
theorem S_push {A : Nat → Prop} {H1 : Heap} {n : Nat} (h : va_S A H0 H locs) (hs : H.size = n) (z : n ≤ H1.size) (old : ∀ q, q < n → H1[q]? = H[q]?) : va_S A H0 H1 locs :=
  ⟨by have := h.1; omega, fun q h1 h2 => (old q (by have := h.1; omega)).trans (h.2.1 q h1 h2), h.2.2⟩
theorem k_new (hexec : p.tables.exec = Jvm.exec) (hb : c.code = cc) {own C : String} {T : u_T} {N ci index : Nat} {Ts : List Cond} (hts : ∀ w ∈ Ts, w.before args s = true) (hin : ∀ w ∈ u_ws C T N, w ∈ Ts) (ty : Nat → FieldType) (hty : ∀ k, k < N → parseFieldDescriptor (T k).2.2.1 = some (ty k)) (hown : s.vm.findClass own = some m.cls) (hcl : (Cond.classLink own index C).before args s = true) (hinst : (Cond.instantiable C N).before args s = true) (hini : (Cond.initialized C).before args s = true)
    (hK : KX D G s) (hO : oO L off) (hP : PK D L off b k σ H) (hS : va_S (fun q => b ≤ q) H0 H locs) (f i : Nat) (hm : (f, i) ∈ L) (hk : off f i = k) (hc : vwCl[ci]? = some (C, T, N)) (fs : List Value) (hfs : ∀ j, j < N → defaultValue (ty j) = vp_V fs j) (hcells : cells + 1 ≤ R.cells) (hslots : slots + N ≤ R.slots) (hdg : decode cc pc = .ok (.new index, 3))
    (kk : ∀ H1 : Heap, PK D L off b (k + 1) (upC σ f i (.inr (ci, fs))) H1 → va_S (fun q => b ≤ q) H0 H1 locs → W p l e R s m args below meth c H1 locs (cells + 1) (slots + N) Q (F0 m (pc + 3) ls (.ref (b + off f i) :: rest))) : W p l e R s m args below meth c H locs cells slots Q (F0 m pc ls rest) := by
  have hKn := hK.1.1.1 ci _ hc
  refine W.newcK hexec hb hown hcl hinst hini rfl hdg hcells hslots hKn.2.1 hP.1 fun H1 kC hkC e1 z1 o1 => ?_
  have h1 := PK_push hO (PK_un (.inr (ci, fs)) hP (Nat.le_of_eq hk.symm)) hm hk z1 o1 (by
    rw [upC_s]
    exact ⟨_, hc, (u_born ty hts hin hKn hkC e1 hty).to hfs⟩)
  have h2 := kk H1 h1 (S_push hS hP.1 (by omega) o1)
  rw [hk] at h2
  exact h2
theorem k_newi (hexec : p.tables.exec = Jvm.exec) (hb : c.code = cc) (harr : (Cond.arrayClass .int).before args s = true) (hK : KX D G s) (hO : oO L off) (hP : PK D L off b k σ H) (hS : va_S (fun q => b ≤ q) H0 H locs) (f i : Nat) (hm : (f, i) ∈ L) (hk : off f i = k) (N' : Nat) {z : Nat → Int32} (hσ : σ f i = .inl (G 0, N', .inl z)) (hz : ∀ j, j < N' → z j = 0) {n : Int32} (hn : n = nI N') (hN : N' ≤ 1000) (hcells : cells + 1 ≤ R.cells) (hslots : slots + N' ≤ R.slots) (hdg : decode cc pc = .ok (.newarray .int, 2))
    (kk : ∀ H1 : Heap, PK D L off b (k + 1) σ H1 → va_S (fun q => b ≤ q) H0 H1 locs → W p l e R s m args below meth c H1 locs (cells + 1) (slots + N') Q (F0 m (pc + 2) ls (.ref (b + off f i) :: rest))) : W p l e R s m args below meth c H locs cells slots Q (F0 m pc ls (.int n :: rest)) := by
  refine va_newaK (atype := .int) hexec hb harr rfl hdg rfl (by rw [hn]; exact nI_pos (by omega)) (by rw [hn]; exact nI_clamp (by omega)) (by show N' * 4 ≤ 536870912; omega) hcells hslots hP.1 fun H1 cA e1 z1 o1 hAr hNm => ?_
  have hcA : cA = G 0 := Option.some.inj (hNm.symm.trans (hK.1.1.2 0 (G 0, .int) rfl).2)
  have h1 := PK_push hO hP hm hk z1 o1 (by
    rw [hσ]
    refine at_ints (g := fun _ => 0) ?_ (fun j hj => (hz j hj).symm)
    show H1[b + k]? = some (vp_cell (G 0) (N', .inl fun _ => 0))
    rw [vp_cell_i, e1, hcA]
    rfl)
  have h2 := kk H1 h1 (S_push hS hP.1 (by omega) o1)
  rw [hk] at h2
  exact h2
theorem k_anew (hexec : p.tables.exec = Jvm.exec) (hb : c.code = cc) {own C : String} {index : Nat} (hown : s.vm.findClass own = some m.cls) (hclink : (Cond.classLink own index C).before args s = true) (hover : va_AO C s) (hK : KX D G s) (hO : oO L off) (hP : PK D L off b k σ H) (hS : va_S (fun q => b ≤ q) H0 H locs) (f i : Nat) (hm : (f, i) ∈ L) (hk : off f i = k) (t : Nat) (ht : (wTy G)[t]? = some (G t, .object C)) (N' : Nat) {n : Int32} (hn : n = nI N') (hN : N' ≤ 1000) (hcells : cells + 1 ≤ R.cells) (hslots : slots + N' ≤ R.slots) (hdg : decode cc pc = .ok (.anewarray index, 3))
    (kk : ∀ H1 : Heap, PK D L off b (k + 1) (upC σ f i (.inl (G t, N', .inr (.inr (.inr (.inr fun _ => none)))))) H1 → va_S (fun q => b ≤ q) H0 H1 locs → W p l e R s m args below meth c H1 locs (cells + 1) (slots + N') Q (F0 m (pc + 3) ls (.ref (b + off f i) :: rest))) : W p l e R s m args below meth c H locs cells slots Q (F0 m pc ls (.int n :: rest)) := by
  have hcl : n.toNatClampNeg = N' := by rw [hn]; exact nI_clamp (by omega)
  refine W.anew hexec hb hown hclink (va_AO.use hover) rfl hdg rfl (by rw [hn]; exact nI_pos (by omega)) (by rw [hcl]; omega) hcells (by rw [hcl]; exact hslots) fun cA kA comp f1 f2 f3 f4 => ?_
  rw [hcl]
  have hcA : cA = G t := by
    obtain ⟨_, _, _, _, _, hf⟩ := (hK.1.1.2 t (G t, .object C) ht).2
    exact Option.some.inj (f1.symm.trans hf)
  generalize hH1 : H.push ({ cls := cA, slots := Array.replicate N' .null, vm := .none } : Cell) = H1
  have z1 : H1.size = b + k + 1 := by rw [← hH1, Array.size_push, hP.1]
  have e1 : H1[b + k]? = some (arrV cA N' (fun _ => .null)) := by rw [← hH1, ← hP.1, Array.getElem?_push_size, ← arrV_new]
  have o1 : ∀ q : Nat, q < b + k → H1[q]? = H[q]? := fun q hq => by rw [← hH1, Array.getElem?_push, if_neg (by rw [hP.1]; omega)]
  have h1 := PK_push hO (PK_un (.inl (G t, N', .inr (.inr (.inr (.inr fun _ => none))))) hP (Nat.le_of_eq hk.symm)) hm hk z1 o1 (by
    rw [upC_s]
    show H1[b + k]? = some (vp_cell (G t) (N', .inr (.inr (.inr (.inr fun _ => none)))))
    rw [vp_cell_q, e1, hcA]
    rfl)
  have h2 := kk H1 h1 (S_push hS hP.1 (by omega) o1)
  rw [hk] at h2
  rw [hP.1]
  exact h2
theorem k_putF (hexec : p.tables.exec = Jvm.exec) (hb : c.code = cc) {own C : String} {T : u_T} {N ci index : Nat} {Ts : List Cond} (hts : ∀ w ∈ Ts, w.before args s = true) (hin : ∀ w ∈ u_ws C T N, w ∈ Ts) (ty0 : Nat → FieldType) (hty : ∀ k, k < N → parseFieldDescriptor (T k).2.2.1 = some (ty0 k)) (hnm : ∀ a, a < N → ∀ b, b < N → a ≠ b → (T a).2.1 ≠ (T b).2.1) (hown : s.vm.findClass own = some m.cls) (hin2 : meth.name = "<init>")
    (hK : KX D G s) (hO : oO L off) (hP : PK D L off b k σ H) (hS : va_S (fun q => b ≤ q) H0 H locs) (f i : Nat) (hm : (f, i) ∈ L) (hlt : off f i < k) {fs : List Value} (he : σ f i = .inr (ci, fs)) (hc : vwCl[ci]? = some (C, T, N)) (kf : Nat) (hkf : kf < N) (hlink : (Cond.fieldLink own index C (T kf).2.1 (T kf).2.2.1).before args s = true) (hC : (T kf).1 = C) (hdecl : (T kf).1 = own) (hfin : (T kf).2.2.2 = true) {ty : FieldType} {v : Value} (hd : parseFieldDescriptor (T kf).2.2.1 = some ty) (hn : narrow ty v = v) (hfit : fits ty v = true) (hl : kf < fs.length) (hdg : decode cc pc = .ok (.putfield index, 3))
    (kk : ∀ (H1 : Heap) (locs1 : List Loc), PK D L off b k (upC σ f i (.inr (ci, fs.set kf v))) H1 → va_S (fun q => b ≤ q) H0 H1 locs1 → W p l e R s m args below meth c H1 locs1 cells slots Q (F0 m (pc + 3) ls rest)) : W p l e R s m args below meth c H locs cells slots Q (F0 m pc ls (v :: .ref (b + off f i) :: rest)) := by
  have hap := va_apart (own := own) hts hin ty0 hty hnm hK.1.1 hc
  have h0 := hP.2 (f, i) hm hlt
  rw [show σ (f, i).1 (f, i).2 = .inr (ci, fs) from he] at h0
  obtain ⟨r, h1, cell, q1, q2, q3, q4⟩ := h0
  have hr : r = (C, T, N) := Option.some.inj (h1.symm.trans hc)
  subst hr
  obtain ⟨hSl, hfc, kC, hkC, hkind⟩ := hK.1.1.1 ci _ hc
  obtain ⟨cf, kf', fi, fd, hi, hsl⟩ := hSl kf hkf
  have hlay := hts _ (hin _ (u_in_lay hkf))
  unfold u_lay at hlay
  rw [if_pos hfin] at hlay
  have hst := (u_facts hfc hkC (u_lays hts hin hkf) hi).1
  have hcf : m.cls = cf := by
    obtain ⟨_, _, c', _, _, _, -, -, hf', -, -, -, hown2, -⟩ := Cond.laysFinal_spec hlay
    have e1 : c' = cf := by have := hi.symm.trans hf'; simp at this; exact this.1.symm
    rw [hdecl] at hown2
    rw [← e1]; exact Option.some.inj (hown.symm.trans hown2)
  have h6 := u_fits hfc hkC hkind (Or.inr hlay) hi hd hn hfit
  refine W.putFinK hexec hb hown hlink (by rw [← hC]; exact hi) hst hcf hin2 (by rw [q2]; exact h6) q1 q3 (by rw [hsl]; exact k2_hasslot (q4 kf hkf)) rfl rfl hdg fun H' e1 e2 e3 => ?_
  rw [hsl] at e1 ⊢
  exact kk H' _ (PK_set hO hP hm e2 e3 ⟨_, hc, t_OB.to (V := updV (vp_V fs) kf v) ⟨_, e1, q2, q3, t_set q4 hap hkf v⟩ (fun j _ => vp_updV_set hl v j)⟩) (hS.put e2 e3 (Nat.le_add_right _ _))
theorem k_put (hexec : p.tables.exec = Jvm.exec) (hb : c.code = cc) {own C : String} {T : u_T} {N ci index : Nat} {Ts : List Cond} (hts : ∀ w ∈ Ts, w.before args s = true) (hin : ∀ w ∈ u_ws C T N, w ∈ Ts) (ty0 : Nat → FieldType) (hty : ∀ k, k < N → parseFieldDescriptor (T k).2.2.1 = some (ty0 k)) (hnm : ∀ a, a < N → ∀ b, b < N → a ≠ b → (T a).2.1 ≠ (T b).2.1) (hown : s.vm.findClass own = some m.cls)
    (hK : KX D G s) (hO : oO L off) (hP : PK D L off b k σ H) (hS : va_S (fun q => b ≤ q) H0 H locs) (f i : Nat) (hm : (f, i) ∈ L) (hlt : off f i < k) {fs : List Value} (he : σ f i = .inr (ci, fs)) (hc : vwCl[ci]? = some (C, T, N)) (kf : Nat) (hkf : kf < N) (hlink : (Cond.fieldLink own index C (T kf).2.1 (T kf).2.2.1).before args s = true) (hC : (T kf).1 = C) (hfin : (T kf).2.2.2 = false) {ty : FieldType} {v : Value} (hd : parseFieldDescriptor (T kf).2.2.1 = some ty) (hn : narrow ty v = v) (hfit : fits ty v = true) (hl : kf < fs.length) (hdg : decode cc pc = .ok (.putfield index, 3))
    (kk : ∀ (H1 : Heap) (locs1 : List Loc), PK D L off b k (upC σ f i (.inr (ci, fs.set kf v))) H1 → va_S (fun q => b ≤ q) H0 H1 locs1 → W p l e R s m args below meth c H1 locs1 cells slots Q (F0 m (pc + 3) ls rest)) : W p l e R s m args below meth c H locs cells slots Q (F0 m pc ls (v :: .ref (b + off f i) :: rest)) := by
  have hap := va_apart (own := own) hts hin ty0 hty hnm hK.1.1 hc
  have h0 := hP.2 (f, i) hm hlt
  rw [show σ (f, i).1 (f, i).2 = .inr (ci, fs) from he] at h0
  obtain ⟨r, h1, cell, q1, q2, q3, q4⟩ := h0
  have hr : r = (C, T, N) := Option.some.inj (h1.symm.trans hc)
  subst hr
  obtain ⟨hSl, hfc, kC, hkC, hkind⟩ := hK.1.1.1 ci _ hc
  obtain ⟨cf, kf', fi, fd, hi, hsl⟩ := hSl kf hkf
  have hlay := hts _ (hin _ (u_in_lay hkf))
  unfold u_lay at hlay
  rw [if_neg (by rw [hfin]; decide)] at hlay
  have hst := (u_facts hfc hkC (u_lays hts hin hkf) hi).1
  have h6 := u_store hfc hkC hkind hlay hi hd hn hfit
  refine W.putK hexec hb (f := fd) ⟨hown, hlink, ⟨_, _, _, (by rw [← hC]; exact hi)⟩, hst⟩ (by rw [q2]; exact h6) q1 q3 (by rw [hsl]; exact k2_hasslot (q4 kf hkf)) rfl rfl hdg fun H' e1 e2 e3 => ?_
  rw [hsl] at e1 ⊢
  exact kk H' _ (PK_set hO hP hm e2 e3 ⟨_, hc, t_OB.to (V := updV (vp_V fs) kf v) ⟨_, e1, q2, q3, t_set q4 hap hkf v⟩ (fun j _ => vp_updV_set hl v j)⟩) (hS.put e2 e3 (Nat.le_add_right _ _))
theorem k_get (hexec : p.tables.exec = Jvm.exec) (hb : c.code = cc) {own C : String} {T : u_T} {N ci index : Nat} {Ts : List Cond} (hts : ∀ w ∈ Ts, w.before args s = true) (hin : ∀ w ∈ u_ws C T N, w ∈ Ts) (hown : s.vm.findClass own = some m.cls) (hK : KX D G s) (hP : PK D L off b k σ H) (f i : Nat) (hm : (f, i) ∈ L) (hlt : off f i < k) {fs : List Value} (he : σ f i = .inr (ci, fs)) (hc : vwCl[ci]? = some (C, T, N)) (kf : Nat) (hkf : kf < N) (hlink : (Cond.fieldLink own index C (T kf).2.1 (T kf).2.2.1).before args s = true) (hC : (T kf).1 = C) {v : Value} (hv : fs[kf]? = some v) (hdg : decode cc pc = .ok (.getfield index, 3))
    (kk : W p l e R s m args below meth c H locs cells slots Q (F0 m (pc + 3) ls (v :: rest))) : W p l e R s m args below meth c H locs cells slots Q (F0 m pc ls (.ref (b + off f i) :: rest)) := by
  have h0 := hP.2 (f, i) hm hlt
  rw [show σ (f, i).1 (f, i).2 = .inr (ci, fs) from he] at h0
  have hP1 : va_P D vwCl [(b + off f i, .inr (ci, fs))] H := fun j q hj => by
    have hz : j < 1 := (List.getElem?_eq_some_iff.mp hj).1
    rw [show j = 0 by omega] at hj
    cases hj
    exact h0
  exact va_get hexec hb hts hin hown hK.1.1 hP1 0 rfl hc kf hkf hlink (fun x h9 => by rw [← hC]; exact h9) hv hdg kk
theorem k_aast (hexec : p.tables.exec = Jvm.exec) (hb : c.code = cc) (hK : KX D G s) (hO : oO L off) (hP : PK D L off b k σ H) (hS : va_S (fun q => b ≤ q) H0 H locs) (t ci f i j f2 i2 : Nat) (hm : (f, i) ∈ L) (hlt : off f i < k) {n : Nat} {h : Nat → Option Nat} (he : σ f i = .inl (G t, n, .inr (.inr (.inr (.inr h))))) {r : vw_C} (ht : (wTy G)[t]? = some (G t, .object r.1)) (hc : vwCl[ci]? = some r) (hm2 : (f2, i2) ∈ L) (hlt2 : off f2 i2 < k) {vs : List Value} (he2 : σ f2 i2 = .inr (ci, vs)) (hj : j < n) (hn : n < 2 ^ 31) {x : Int32} (hx : x = nI j) (hdg : decode cc pc = .ok (.aastore, 1))
    (kk : ∀ (H1 : Heap) (locs1 : List Loc), PK D L off b k (upC σ f i (.inl (G t, n, .inr (.inr (.inr (.inr (va_up h j (some (b + off f2 i2)))))))) ) H1 → va_S (fun q => b ≤ q) H0 H1 locs1 → W p l e R s m args below meth c H1 locs1 cells slots Q (F0 m (pc + 1) ls rest)) : W p l e R s m args below meth c H locs cells slots Q (F0 m pc ls (.ref (b + off f2 i2) :: .int x :: .ref (b + off f i) :: rest)) := by
  have hcl : x.toNatClampNeg = j := by rw [hx]; exact nI_clamp (by omega)
  have h0 : ¬ x < 0 := by rw [hx]; exact nI_pos (by omega)
  have hA := hP.2 (f, i) hm hlt
  rw [show σ (f, i).1 (f, i).2 = .inl (G t, n, .inr (.inr (.inr (.inr h)))) from he] at hA
  have hV := hP.2 (f2, i2) hm2 hlt2
  rw [show σ (f2, i2).1 (f2, i2).2 = .inr (ci, vs) from he2] at hV
  obtain ⟨r', hr', cellV, g1, g2, g3, -⟩ := hV
  have hcls := (hK.1.1.1 ci r hc).2
  obtain ⟨kA, comp, k1, k2, k3, -⟩ := (hK.1.1.2 t _ ht).2
  have hcomp : comp = D.1 ci := Option.some.inj (k3.symm.trans hcls.1)
  subst hcomp
  obtain ⟨kC, hkC, -⟩ := hcls.2
  refine W.aast hexec hb hA (fun q h => by cases h) (fun h => by cases h) k1 k2 rfl hkC ⟨h0, by show _ < (arrV _ _ _).slots.size; rw [arrV_size, hcl]; exact hj⟩ g1 (fun q h => by rw [g3] at h; cases h) (by rw [g2]; exact hkC) (by rw [g2]; exact va_assign hcls) rfl rfl hdg fun H1 e z oq => ?_
  refine kk H1 _ (PK_set hO hP hm z oq ?_) (hS.put z oq (Nat.le_add_right _ _))
  show H1[b + off f i]? = some (vp_cell _ _)
  rw [e, hcl]
  rw [vp_cell_q, vp_cell_q, arrV_store]
  congr 2
  funext q
  by_cases hq : q = j
  · subst hq
    simp [updV, va_up, va_rf]
  · simp [updV, va_up, hq]
theorem k_iast (hexec : p.tables.exec = Jvm.exec) (hb : c.code = cc) (hK : KX D G s) (hO : oO L off) (hP : PK D L off b k σ H) (hS : va_S (fun q => b ≤ q) H0 H locs) (f i j : Nat) (hm : (f, i) ∈ L) (hlt : off f i < k) {n : Nat} {h : Nat → Int32} (he : σ f i = .inl (G 0, n, .inl h)) (hj : j < n) (hn : n < 2 ^ 31) {x y : Int32} (hx : x = nI j) (hdg : decode cc pc = .ok (.iastore, 1))
    (kk : ∀ (H1 : Heap) (locs1 : List Loc), PK D L off b k (upC σ f i (.inl (G 0, n, .inl (upd h j y)))) H1 → va_S (fun q => b ≤ q) H0 H1 locs1 → W p l e R s m args below meth c H1 locs1 cells slots Q (F0 m (pc + 1) ls rest)) : W p l e R s m args below meth c H locs cells slots Q (F0 m pc ls (.int y :: .int x :: .ref (b + off f i) :: rest)) := by
  have hcl : x.toNatClampNeg = j := by rw [hx]; exact nI_clamp (by omega)
  have h0 : ¬ x < 0 := by rw [hx]; exact nI_pos (by omega)
  have hA := hP.2 (f, i) hm hlt
  rw [show σ (f, i).1 (f, i).2 = .inl (G 0, n, .inl h) from he] at hA
  refine W.iast hexec hb hA ((hK.1.1.2 0 (G 0, .int) rfl).1 n (fun j => .int (h j))) (fun q => by cases q) (by show ¬ (x < 0 ∨ (arrV _ _ _).slots.size ≤ _); rw [arrV_size, hcl]; exact fun q => q.elim h0 (fun q => Nat.not_le.mpr hj q)) rfl rfl hdg fun H1 e z oq => ?_
  refine kk H1 _ (PK_set hO hP hm z oq ?_) (hS.put z oq (Nat.le_add_right _ _))
  show H1[b + off f i]? = some (vp_cell _ _)
  rw [e, hcl]
  rw [vp_cell_i, vp_cell_i, arrV_store]
  congr 2
  funext q
  by_cases hq : q = j
  · subst hq
    simp [updV, upd]
  · simp [updV, upd, hq]
theorem k_mna (hexec : p.tables.exec = Jvm.exec) (hb : c.code = cc) {own : String} {index : Nat} (hown : s.vm.findClass own = some m.cls) (hclink : (Cond.classLink own index ("[" ++ (FieldType.array .int).toString)).before args s = true) (harr : (Cond.arrayClass .int).before args s = true) (hK : KX D G s) (hO : oO L off) (hP : PK D L off b k σ H) (hS : va_S (fun q => b ≤ q) H0 H locs)
    (f0 i0 f1 N' K' : Nat) (hm0 : (f0, i0) ∈ L) (hm1 : ∀ j, j < N' → (f1, j) ∈ L) (hk0 : off f0 i0 = k) (hk1 : ∀ j, j < N' → off f1 j = k + 1 + j) {g : Nat → Nat} (hσ0 : σ f0 i0 = .inl (G 4, N', .inr (.inr (.inr (.inr fun j => some (g j)))))) (hg : ∀ j, j < N' → g j = b + off f1 j) {z : Nat → Nat → Int32} (hσ1 : ∀ j, j < N' → σ f1 j = .inl (G 0, K', .inl (z j))) (hz : ∀ j, j < N' → ∀ q, q < K' → z j q = 0) {n x : Int32} (hn : n = nI N') (hx : x = nI K') (hN : N' ≤ 1000) (hKb : K' ≤ 1000) (hcells : cells + (1 + N') ≤ R.cells) (hslots : slots + (N' + N' * K') ≤ R.slots) (hdg : decode cc pc = .ok (.multianewarray index 2, 4))
    (kk : ∀ H1 : Heap, PK D L off b (k + 1 + N') σ H1 → va_S (fun q => b ≤ q) H0 H1 locs → W p l e R s m args below meth c H1 locs (cells + 1 + N') (slots + N' + N' * K') Q (F0 m (pc + 4) ls (.ref (b + off f0 i0) :: rest))) : W p l e R s m args below meth c H locs cells slots Q (F0 m pc ls (.int x :: .int n :: rest)) := by
  have cN : n.toNatClampNeg = N' := by rw [hn]; exact nI_clamp (by omega)
  have cK : x.toNatClampNeg = K' := by rw [hx]; exact nI_clamp (by omega)
  intro T hT Xs
  obtain ⟨vm₁, cA, comp, -, fA, fC, hO', -, X', step⟩ := Xs.multianewarray2F hexec hown hclink (va_AOA.use hK.2.1.2.2.2) harr (g := F0 m pc ls (.int x :: .int n :: rest)) rfl (by rw [hb]; exact hdg) rfl (by rw [hn]; exact nI_pos (by omega)) (by rw [hx]; exact nI_pos (by omega)) (by rw [cN]; omega) (by rw [cK]; show K' * 4 ≤ 536870912; omega) (by rw [cK]; omega) rfl rfl (by rw [cN]; exact hcells) (by rw [cN, cK]; exact hslots)
  rw [cN, cK] at X' step
  have eA : cA = G 4 := Option.some.inj (fA.symm.trans (hK.1.1.2 4 (G 4, .array .int) rfl).2)
  have eC : comp = G 0 := Option.some.inj (fC.symm.trans (hK.1.1.2 0 (G 0, .int) rfl).2)
  subst eA eC
  generalize hF : Jvm.Free.Multi.fill (T.setVm vm₁) (G 4) (G 0) N' K' (defaultValue .int) N' = F at X' step
  have hTh : (T.setVm vm₁).heap = H := hT
  obtain ⟨f1', f2', -, -⟩ := Jvm.Free.Multi.fill_facts (T.setVm vm₁) (G 4) (G 0) N' K' (defaultValue .int) N'
  rw [hF, hTh] at f1' f2'
  have hold : ∀ q : Nat, q < H.size → F.heap[q]? = H[q]? := fun q hq => by
    have := Jvm.Free.Multi.fill_old (T.setVm vm₁) (G 4) (G 0) N' K' (defaultValue .int) (a := q) (by rw [hTh]; exact hq) N'
    rw [hF, hTh] at this
    exact this
  have hrow : ∀ j : Nat, j < N' → F.heap[H.size + 1 + j]? = some (arrV (G 0) K' (fun _ => defaultValue .int)) := fun j hj => by
    have := Jvm.Free.Multi.fill_inner (T.setVm vm₁) (G 4) (G 0) N' K' (defaultValue .int) N' j hj
    rw [hF, hTh] at this
    rw [← arrV_new]
    exact this
  rw [vr_outer] at f2'
  have hsz := hP.1
  have hP1 : PK D L off b (k + 1 + N') σ F.heap := by
    refine ⟨by rw [f1', hsz]; omega, fun y hy hl => ?_⟩
    by_cases c0 : off y.1 y.2 < k
    · exact (hP.2 y hy c0).kept (hold _ (by show b + off y.1 y.2 < H.size; omega))
    · by_cases c1 : off y.1 y.2 = k
      · have ey : y = (f0, i0) := hO y hy (f0, i0) hm0 (c1.trans hk0.symm)
        subst ey
        show va_at D vwCl (b + off f0 i0, σ f0 i0) F.heap
        rw [hσ0, hk0]
        refine at_refs (g := fun j => if j < N' then some (H.size + 1 + j) else none) ?_ (fun j hj => ?_)
        · show F.heap[b + k]? = some (vp_cell _ _)
          rw [vp_cell_q, ← hsz]
          exact f2'
        · rw [if_pos hj, hg j hj, hk1 j hj, hsz]
          congr 1
          omega
      · have hj : off y.1 y.2 - (k + 1) < N' := by omega
        have ey : y = (f1, off y.1 y.2 - (k + 1)) := hO y hy _ (hm1 _ hj) (by rw [hk1 _ hj]; omega)
        have hj' := hj
        generalize off y.1 y.2 - (k + 1) = j at ey hj'
        subst ey
        show va_at D vwCl (b + off f1 j, σ f1 j) F.heap
        rw [hσ1 j hj', hk1 j hj']
        refine at_ints (g := fun _ => 0) ?_ (fun q hq => (hz j hj' q hq).symm)
        show F.heap[b + (k + 1 + j)]? = some (vp_cell _ _)
        rw [vp_cell_i, show b + (k + 1 + j) = H.size + 1 + j by omega]
        exact hrow j hj'
  obtain ⟨t, a1, b1⟩ := kk F.heap hP1 (S_push hS rfl (by omega) hold) F rfl X'
  refine ⟨t, step t ?_, b1⟩
  have e1 : T.heap.size = b + off f0 i0 := by rw [hT, hsz, hk0]
  rw [e1]
  exact a1
theorem k_cv {σ' : Cont} {k' mc ms : Nat} {st0 : List Value} {a : Array Value} (hr : va_Run p l e R s m args below meth c H locs cells slots mc ms (F0 m pc ls st0) rest (kQ D L off b k' σ' a) (fun q => b ≤ q)) (hS : va_S (fun q => b ≤ q) H0 H locs)
    (kk : ∀ (H1 : Heap) (locs1 : List Loc), PK D L off b k' σ' H1 → va_S (fun q => b ≤ q) H0 H1 locs1 → W p l e R s m args below meth c H1 locs1 (cells + mc) (slots + ms) Q (F0 m (pc + 3) ls rest)) : W p l e R s m args below meth c H locs cells slots Q (F0 m pc ls st0) :=
  va_callv hr hS (fun _ _ h => h) (fun _ h => h) (fun u t H1 locs1 ht _ hp hB _ _ hS1 => kk H1 locs1 (by rw [← ht]; exact hB) hS1)
theorem k_preS {av : List Value} (hK : KX D G s) (hP : PK D L off b k σ H) : PreS s H (kPre D G L off b k σ av) av :=
  ⟨fun a U g mk q => by obtain ⟨q0, q1, q2⟩ := q; exact ⟨q0, q1, q2.calling⟩, fun U hU hWm => ⟨rfl, by rw [hU]; exact hP, hK.warm hWm⟩⟩
theorem k_vret (hexec : p.tables.exec = Jvm.exec) (hb : c.code = cc) (hr : meth.sig.returnType = none) (hlocks : meth.locks = false) (hP : PK D L off b k σ H) (hS : va_S (fun q => b ≤ q) s.heap H locs) (hdg : decode cc pc = .ok (.return_, 1)) : W p l e R s m args below meth c H locs cells slots (MQ below (kQ D L off b k σ) args s cells slots (fun q => b ≤ q)) (F0 m pc ls []) :=
  W.vret hexec hb hr (fun t ht _ => ⟨⟨(), rfl, trivial, by show PK D L off b k σ t.heap; rw [ht]; exact hP⟩, hS.F ht⟩) hS.2.2 hdg hlocks
end MAK
