/-! ===== a world whole: cells by family and number at addresses ad, their contents out of one table of ints ===== -/
abbrev St : Type := Nat → Nat → Nat → Int32
abbrev Cont : Type := Nat → Nat → va_E
def up3 (I : St) (f i j : Nat) (x : Int32) : St := fun f' i' j' => if f' = f ∧ i' = i ∧ j' = j then x else I f' i' j'
theorem up3_s (I : St) (f i j : Nat) (x : Int32) : up3 I f i j x f i j = x := by simp [up3]
theorem up3_n {I : St} {f i j f' i' j' : Nat} {x : Int32} (h : ¬ (f' = f ∧ i' = i ∧ j' = j)) : up3 I f i j x f' i' j' = I f' i' j' := by simp [up3, h]
def wS (L : List (Nat × Nat)) (ad : Nat → Nat → Nat) (σ : Cont) : va_W := L.map fun q => (ad q.1 q.2, σ q.1 q.2)
def wA (L : List (Nat × Nat)) (ad : Nat → Nat → Nat) : Nat → Prop := fun q => ∃ x, x ∈ L ∧ q = ad x.1 x.2
def wI (L : List (Nat × Nat)) (ad : Nat → Nat → Nat) : Prop := L.Nodup ∧ ∀ x, x ∈ L → ∀ y, y ∈ L → ad x.1 x.2 = ad y.1 y.2 → x = y
theorem wS_get {L : List (Nat × Nat)} {ad : Nat → Nat → Nat} {σ : Cont} {f i : Nat} (h : (f, i) ∈ L) : ∃ k : Nat, (wS L ad σ)[k]? = some (ad f i, σ f i) ∧ L[k]? = some (f, i) := by
  obtain ⟨k, hk⟩ := List.getElem?_of_mem h
  exact ⟨k, by simp [wS, List.getElem?_map, hk], hk⟩
theorem wS_at {L : List (Nat × Nat)} {ad : Nat → Nat → Nat} {σ : Cont} {k : Nat} {q : Nat × va_E} (h : (wS L ad σ)[k]? = some q) : ∃ x, L[k]? = some x ∧ q = (ad x.1 x.2, σ x.1 x.2) := by
  rw [wS, List.getElem?_map] at h
  cases hx : L[k]? with
  | none => rw [hx] at h; cases h
  | some x => rw [hx] at h; exact ⟨x, rfl, (Option.some.inj h).symm⟩
theorem nodup_ix {L : List (Nat × Nat)} (h : L.Nodup) {i j : Nat} {x : Nat × Nat} (hi : L[i]? = some x) (hj : L[j]? = some x) : i = j := by
  obtain ⟨li, ei⟩ := List.getElem?_eq_some_iff.mp hi
  obtain ⟨lj, ej⟩ := List.getElem?_eq_some_iff.mp hj
  have hp := List.pairwise_iff_getElem.mp h
  rcases Nat.lt_trichotomy i j with q | q | q
  · exact absurd (ei.trans ej.symm) (hp i j li lj q)
  · exact q
  · exact absurd (ej.trans ei.symm) (hp j i lj li q)
theorem wD {L : List (Nat × Nat)} {ad : Nat → Nat → Nat} {σ : Cont} (hI : wI L ad) : va_D (wA L ad) (wS L ad σ) := by
  refine ⟨fun i j p q hi hj h => ?_, fun k q hk => ?_⟩
  · obtain ⟨x, hx, rfl⟩ := wS_at hi
    obtain ⟨y, hy, rfl⟩ := wS_at hj
    have := hI.2 x (List.mem_of_getElem? hx) y (List.mem_of_getElem? hy) h
    subst this
    exact nodup_ix hI.1 hx hy
  · obtain ⟨x, hx, rfl⟩ := wS_at hk
    exact ⟨x, List.mem_of_getElem? hx, rfl⟩
theorem wS_set {L : List (Nat × Nat)} {ad : Nat → Nat → Nat} {σ σ' : Cont} {k f i : Nat} {e : va_E} (hI : wI L ad) (hk : L[k]? = some (f, i)) (he : σ' f i = e) (hu : ∀ f' i', (f', i') ∈ L → ¬ (f' = f ∧ i' = i) → σ' f' i' = σ f' i') : (wS L ad σ).set k (ad f i, e) = wS L ad σ' := by
  have hl : k < (wS L ad σ).length := by rw [wS, List.length_map]; exact (List.getElem?_eq_some_iff.mp hk).1
  apply List.ext_getElem?
  intro j
  by_cases hj : j = k
  · subst hj
    rw [List.getElem?_set_self hl, wS, List.getElem?_map, hk]
    simp [he]
  · rw [List.getElem?_set_ne (Ne.symm hj), wS, wS, List.getElem?_map, List.getElem?_map]
    cases hx : L[j]? with
    | none => rfl
    | some x =>
      obtain ⟨f', i'⟩ := x
      have hne : ¬ (f' = f ∧ i' = i) := by
        rintro ⟨rfl, rfl⟩
        exact hj (nodup_ix hI.1 hx hk)
      simp [hu f' i' (List.mem_of_getElem? hx) hne]
theorem wS_one {D : va_G} {L : List (Nat × Nat)} {ad : Nat → Nat → Nat} {σ : Cont} {H : Heap} {f i : Nat} (h : va_P D vwCl (wS L ad σ) H) (hm : (f, i) ∈ L) : va_P D vwCl [(ad f i, σ f i)] H := by
  obtain ⟨k0, hk0, -⟩ := wS_get (ad := ad) (σ := σ) hm
  intro k q hk
  have h0 : k < 1 := (List.getElem?_eq_some_iff.mp hk).1
  rw [show k = 0 by omega] at hk
  cases hk
  exact h k0 _ hk0
/-- the array classes: of ints, stores, messages, sheets, int rows -/
def wTy (G : Nat → ClassId) : List (ClassId × FieldType) := [(G 0, .int), (G 1, .object "JoinedStores$Store"), (G 2, .object "JoinedStores$Message"), (G 3, .object "JoinedStores$Sheet"), (G 4, .array .int)]
/-- the private members of nest mates that are called -/
def nestWs : List Cond := [.methodLinkNest RX0 33 yX5_placeOf RX5, .methodLinkNest RX2 65 yX5_pairOf RX5, .methodLinkNest RX0 82 yX5_bitsOf RX5, .methodLinkNest RX4 18 yX5_otherwise RX5]
def KK (D : va_G) (G : Nat → ClassId) (U : State) : Prop := va_K D vwCl (wTy G) U ∧ ∀ w ∈ nestWs, va_Nw w U
theorem KK.warm {D : va_G} {G : Nat → ClassId} {s U : State} (hW : s.WarmedH U.vm) (h : KK D G s) : KK D G U := by
  refine ⟨va_K.moved hW.alike h.1, fun w hw => ?_⟩
  have h1 := h.2 w hw
  simp only [nestWs, List.mem_cons, List.not_mem_nil, or_false] at hw
  rcases hw with rfl | rfl | rfl | rfl <;> exact va_Nw.warmM hW h1
theorem KK.calling {D : va_G} {G : Nat → ClassId} {U : State} {g : JFrame} {mk : MethodId} {a : Array Value} (h : KK D G U) : KK D G (U.calling g mk a) := by
  refine ⟨va_K.moved (u := U) (U := U.calling g mk a) (Vm.Alike.refl U.vm) h.1, fun w hw => ?_⟩
  have h1 := h.2 w hw
  simp only [nestWs, List.mem_cons, List.not_mem_nil, or_false] at hw
  rcases hw with rfl | rfl | rfl | rfl <;> exact va_Nw.same (u := U) rfl rfl h1
/-- a contract's start and ends over a whole world -/
abbrev gPre (D : va_G) (G : Nat → ClassId) (L : List (Nat × Nat)) (ad : Nat → Nat → Nat) (av : List Value) (σ : Cont) : Array Value → State → Prop := va_Pc av (fun U => va_P D vwCl (wS L ad σ) U.heap ∧ KK D G U)
abbrev gQi (D : va_G) (L : List (Nat × Nat)) (ad : Nat → Nat → Nat) (wd : St → Cont) (post : Int32 → St → Prop) : Array Value → State → Outcome → State → Prop := va_Qi (S := St) post (fun u t => va_P D vwCl (wS L ad (wd u)) t.heap) (wA L ad)
abbrev gQl (D : va_G) (L : List (Nat × Nat)) (ad : Nat → Nat → Nat) (wd : St → Cont) (post : Int64 → St → Prop) : Array Value → State → Outcome → State → Prop := va_Ql (S := St) post (fun u t => va_P D vwCl (wS L ad (wd u)) t.heap) (wA L ad)
abbrev gQv (D : va_G) (L : List (Nat × Nat)) (ad : Nat → Nat → Nat) (wd : St → Cont) (post : St → Prop) : Array Value → State → Outcome → State → Prop := va_Qv (S := St) post (fun u t => va_P D vwCl (wS L ad (wd u)) t.heap) (wA L ad)
/-- of a method that touches no cell -/
abbrev pPre (av : List Value) : Array Value → State → Prop := va_Pc av (fun _ => True)
abbrev pQi (v : Int32) : Array Value → State → Outcome → State → Prop := va_Qi (S := Unit) (fun r _ => r = v) (fun _ _ => True) (fun _ => False)
abbrev pQl (v : Int64) : Array Value → State → Outcome → State → Prop := va_Ql (S := Unit) (fun r _ => r = v) (fun _ _ => True) (fun _ => False)
section GR
variable {p : Program} {l : Launch} {e : Env} {R : Room} {s : State} {m : MethodId} {args : Array Value} {below : List Frame} {meth : Method} {c : Code} {H : Heap} {locs : List Loc} {cells slots : Nat} {Q : State → Prop}
variable {cc : ByteArray} {pc : Nat} {ls : Array Slot} {rest : List Value} {D : va_G} {G : Nat → ClassId} {L : List (Nat × Nat)} {ad : Nat → Nat → Nat} {σ : Cont} {H0 : Heap} {wd : St → Cont} {I : St}
theorem r_top {x y : Int32} (h : x = y) (k : W p l e R s m args below meth c H locs cells slots Q (F0 m pc ls (.int y :: rest))) : W p l e R s m args below meth c H locs cells slots Q (F0 m pc ls (.int x :: rest)) := by rw [h]; exact k
theorem r_get (hexec : p.tables.exec = Jvm.exec) (hb : c.code = cc) {own C : String} {T : u_T} {N ci index : Nat} {Ts : List Cond} (hts : ∀ w ∈ Ts, w.before args s = true) (hown : s.vm.findClass own = some m.cls) (hK : KK D G s) (hW : va_P D vwCl (wS L ad σ) H) (f i k : Nat) (hm : (f, i) ∈ L) {fs : List Value} (he : σ f i = .inr (ci, fs)) (hc : vwCl[ci]? = some (C, T, N)) (hin : ∀ w ∈ u_ws C T N, w ∈ Ts) (hk : k < N) (hlink : (Cond.fieldLink own index C (T k).2.1 (T k).2.2.1).before args s = true) (hC : (T k).1 = C) {v : Value} (hv : fs[k]? = some v) (hdg : decode cc pc = .ok (.getfield index, 3))
    (kk : W p l e R s m args below meth c H locs cells slots Q (F0 m (pc + 3) ls (v :: rest))) : W p l e R s m args below meth c H locs cells slots Q (F0 m pc ls (.ref (ad f i) :: rest)) := by
  have hP := wS_one hW hm
  rw [he] at hP
  exact va_get hexec hb hts hin hown hK.1 hP 0 rfl hc k hk hlink (fun x h9 => by rw [← hC]; exact h9) hv hdg kk
theorem r_put (hexec : p.tables.exec = Jvm.exec) (hb : c.code = cc) {own C : String} {T : u_T} {N ci index : Nat} {Ts : List Cond} (hts : ∀ w ∈ Ts, w.before args s = true) (hown : s.vm.findClass own = some m.cls) (hK : KK D G s) (hI : wI L ad) (hW : va_P D vwCl (wS L ad (wd I)) H) (hS : va_S (wA L ad) H0 H locs) (f i k : Nat) (hm : (f, i) ∈ L) {fs : List Value} (he : wd I f i = .inr (ci, fs)) (hc : vwCl[ci]? = some (C, T, N)) (hin : ∀ w ∈ u_ws C T N, w ∈ Ts) (hk : k < N) (hlink : (Cond.fieldLink own index C (T k).2.1 (T k).2.2.1).before args s = true) (hC : (T k).1 = C)
    (ty0 : Nat → FieldType) (hty : ∀ k, k < N → parseFieldDescriptor (T k).2.2.1 = some (ty0 k)) (hnm : ∀ a, a < N → ∀ b, b < N → a ≠ b → (T a).2.1 ≠ (T b).2.1) (hfin : (T k).2.2.2 = false) {ty : FieldType} {v : Value} (hd : parseFieldDescriptor (T k).2.2.1 = some ty) (hn : narrow ty v = v) (hfit : fits ty v = true) (hl : k < fs.length)
    {I' : St} (he' : wd I' f i = .inr (ci, fs.set k v)) (hu : ∀ f' i', (f', i') ∈ L → ¬ (f' = f ∧ i' = i) → wd I' f' i' = wd I f' i') (hdg : decode cc pc = .ok (.putfield index, 3))
    (kk : ∀ (H1 : Heap) (locs1 : List Loc), va_P D vwCl (wS L ad (wd I')) H1 → va_S (wA L ad) H0 H1 locs1 → W p l e R s m args below meth c H1 locs1 cells slots Q (F0 m (pc + 3) ls rest)) : W p l e R s m args below meth c H locs cells slots Q (F0 m pc ls (v :: .ref (ad f i) :: rest)) := by
  obtain ⟨q, hq, hqL⟩ := wS_get (ad := ad) (σ := wd I) hm
  rw [he] at hq
  refine va_put hexec hb hts hin ty0 hty hnm hown hK.1 hW (wD hI) hS q hq hc k hk hlink (fun x h9 => by rw [← hC]; exact h9) hfin hd hn hfit hl hdg (fun H1 locs1 hP1 hD1 hS1 => kk H1 locs1 ?_ hS1)
  rw [wS_set hI hqL he' hu] at hP1
  exact hP1
theorem r_iald (hexec : p.tables.exec = Jvm.exec) (hb : c.code = cc) (hK : KK D G s) (hW : va_P D vwCl (wS L ad σ) H) (f i j : Nat) (hm : (f, i) ∈ L) {n : Nat} {h : Nat → Int32} (he : σ f i = .inl (G 0, n, .inl h)) (hj : j < n) (hn : n < 2 ^ 31) {x : Int32} (hx : x = nI j) (hdg : decode cc pc = .ok (.iaload, 1))
    (kk : ∀ y : Int32, y = h j → W p l e R s m args below meth c H locs cells slots Q (F0 m (pc + 1) ls (.int y :: rest))) : W p l e R s m args below meth c H locs cells slots Q (F0 m pc ls (.int x :: .ref (ad f i) :: rest)) := by
  have hP := wS_one hW hm
  rw [he] at hP
  subst hx
  refine va_iald hexec hb hK.1 hP 0 0 rfl rfl (vp_in_nI hj hn) hdg ?_
  rw [nI_clamp (by omega)]
  exact kk _ rfl
theorem r_aald (hexec : p.tables.exec = Jvm.exec) (hb : c.code = cc) (hK : KK D G s) (hW : va_P D vwCl (wS L ad σ) H) (t f i j : Nat) (hm : (f, i) ∈ L) {n : Nat} {h : Nat → Option Nat} {cA : ClassId} (he : σ f i = .inl (cA, n, .inr (.inr (.inr (.inr h))))) {C : String} (ht : (wTy G)[t]? = some (cA, .object C)) (hj : j < n) (hn : n < 2 ^ 31) {x : Int32} (hx : x = nI j) {a : Nat} (hv : h j = some a) (hdg : decode cc pc = .ok (.aaload, 1))
    (kk : W p l e R s m args below meth c H locs cells slots Q (F0 m (pc + 1) ls (.ref a :: rest))) : W p l e R s m args below meth c H locs cells slots Q (F0 m pc ls (.int x :: .ref (ad f i) :: rest)) := by
  have hP := wS_one hW hm
  rw [he] at hP
  subst hx
  refine va_aldq hexec hb hK.1 hP 0 t rfl ht (vp_in_nI hj hn) hdg ?_
  rw [nI_clamp (by omega), hv]
  exact kk
theorem r_aaldI (hexec : p.tables.exec = Jvm.exec) (hb : c.code = cc) (hK : KK D G s) (hW : va_P D vwCl (wS L ad σ) H) (f i j : Nat) (hm : (f, i) ∈ L) {n : Nat} {h : Nat → Option Nat} (he : σ f i = .inl (G 4, n, .inr (.inr (.inr (.inr h))))) (hj : j < n) (hn : n < 2 ^ 31) {x : Int32} (hx : x = nI j) {a : Nat} (hv : h j = some a) (hdg : decode cc pc = .ok (.aaload, 1))
    (kk : W p l e R s m args below meth c H locs cells slots Q (F0 m (pc + 1) ls (.ref a :: rest))) : W p l e R s m args below meth c H locs cells slots Q (F0 m pc ls (.int x :: .ref (ad f i) :: rest)) := by
  have hP := wS_one hW hm
  rw [he] at hP
  subst hx
  have hcl : (nI j).toNatClampNeg = j := nI_clamp (by omega)
  refine W.aald (v := .ref a) (ty := .array .int) hexec hb (hP 0 _ rfl) ((hK.1.2 4 (G 4, .array .int) rfl).1 n (fun j => va_rf (h j))) rfl (fun q => by cases q) (by show ¬ (_ ∨ (arrV _ _ _).slots.size ≤ _); rw [arrV_size]; exact vp_in_nI hj hn) ?_ rfl rfl hdg kk
  show (arrV _ _ _).slots[_]? = _
  rw [arrV_read _ _ (by rw [hcl]; exact hj), hcl, hv]
  rfl
theorem r_alen (hexec : p.tables.exec = Jvm.exec) (hb : c.code = cc) (hK : KK D G s) (hW : va_P D vwCl (wS L ad σ) H) (f i : Nat) (hm : (f, i) ∈ L) {n : Nat} {h : Nat → Int32} (he : σ f i = .inl (G 0, n, .inl h)) (hdg : decode cc pc = .ok (.arraylength, 1))
    (kk : W p l e R s m args below meth c H locs cells slots Q (F0 m (pc + 1) ls (.int (nI n) :: rest))) : W p l e R s m args below meth c H locs cells slots Q (F0 m pc ls (.ref (ad f i) :: rest)) := by
  have hP := wS_one hW hm
  rw [he] at hP
  exact va_alen hexec hb hK.1 hP 0 0 rfl (ty := .int) rfl rfl hdg kk
theorem r_alenI (hexec : p.tables.exec = Jvm.exec) (hb : c.code = cc) (hK : KK D G s) (hW : va_P D vwCl (wS L ad σ) H) (f i : Nat) (hm : (f, i) ∈ L) {n : Nat} {h : Nat → Option Nat} (he : σ f i = .inl (G 4, n, .inr (.inr (.inr (.inr h))))) (hdg : decode cc pc = .ok (.arraylength, 1))
    (kk : W p l e R s m args below meth c H locs cells slots Q (F0 m (pc + 1) ls (.int (nI n) :: rest))) : W p l e R s m args below meth c H locs cells slots Q (F0 m pc ls (.ref (ad f i) :: rest)) := by
  have hP := wS_one hW hm
  rw [he] at hP
  exact va_alen hexec hb hK.1 hP 0 4 rfl (ty := .array .int) rfl rfl hdg kk
theorem r_iast (hexec : p.tables.exec = Jvm.exec) (hb : c.code = cc) (hK : KK D G s) (hI : wI L ad) (hW : va_P D vwCl (wS L ad (wd I)) H) (hS : va_S (wA L ad) H0 H locs) (f i j : Nat) (hm : (f, i) ∈ L) {n : Nat} {h : Nat → Int32} (he : wd I f i = .inl (G 0, n, .inl h)) (hj : j < n) (hn : n < 2 ^ 31) {x y : Int32} (hx : x = nI j) {I' : St} (he' : wd I' f i = .inl (G 0, n, .inl (upd h j y))) (hu : ∀ f' i', (f', i') ∈ L → ¬ (f' = f ∧ i' = i) → wd I' f' i' = wd I f' i') (hdg : decode cc pc = .ok (.iastore, 1))
    (kk : ∀ (H1 : Heap) (locs1 : List Loc), va_P D vwCl (wS L ad (wd I')) H1 → va_S (wA L ad) H0 H1 locs1 → W p l e R s m args below meth c H1 locs1 cells slots Q (F0 m (pc + 1) ls rest)) : W p l e R s m args below meth c H locs cells slots Q (F0 m pc ls (.int y :: .int x :: .ref (ad f i) :: rest)) := by
  obtain ⟨q, hq, hqL⟩ := wS_get (ad := ad) (σ := wd I) hm
  rw [he] at hq
  subst hx
  refine va_iast hexec hb hK.1 hW (wD hI) hS q 0 hq rfl (vp_in_nI hj hn) hdg (fun H1 locs1 hP1 hD1 hS1 => kk H1 locs1 ?_ hS1)
  rw [nI_clamp (by omega), wS_set hI hqL he' hu] at hP1
  exact hP1
theorem r_aast (hexec : p.tables.exec = Jvm.exec) (hb : c.code = cc) (hK : KK D G s) (hI : wI L ad) (hW : va_P D vwCl (wS L ad (wd I)) H) (hS : va_S (wA L ad) H0 H locs) (t ci f i j f2 i2 : Nat) (hm : (f, i) ∈ L) {n : Nat} {h : Nat → Option Nat} {cA : ClassId} (he : wd I f i = .inl (cA, n, .inr (.inr (.inr (.inr h))))) {r : vw_C} (ht : (wTy G)[t]? = some (cA, .object r.1)) (hc : vwCl[ci]? = some r) (hm2 : (f2, i2) ∈ L) {vs : List Value} (he2 : wd I f2 i2 = .inr (ci, vs)) (hj : j < n) (hn : n < 2 ^ 31) {x : Int32} (hx : x = nI j) {I' : St} (he' : wd I' f i = .inl (cA, n, .inr (.inr (.inr (.inr (va_up h j (some (ad f2 i2)))))))) (hu : ∀ f' i', (f', i') ∈ L → ¬ (f' = f ∧ i' = i) → wd I' f' i' = wd I f' i') (hdg : decode cc pc = .ok (.aastore, 1))
    (kk : ∀ (H1 : Heap) (locs1 : List Loc), va_P D vwCl (wS L ad (wd I')) H1 → va_S (wA L ad) H0 H1 locs1 → W p l e R s m args below meth c H1 locs1 cells slots Q (F0 m (pc + 1) ls rest)) : W p l e R s m args below meth c H locs cells slots Q (F0 m pc ls (.ref (ad f2 i2) :: .int x :: .ref (ad f i) :: rest)) := by
  obtain ⟨q, hq, hqL⟩ := wS_get (ad := ad) (σ := wd I) hm
  obtain ⟨q2, hq2, -⟩ := wS_get (ad := ad) (σ := wd I) hm2
  rw [he] at hq
  rw [he2] at hq2
  subst hx
  refine va_astq hexec hb hK.1 hW (wD hI) hS q t q2 ci hq ht hq2 hc (vp_in_nI hj hn) hdg (fun H1 locs1 hP1 hD1 hS1 => kk H1 locs1 ?_ hS1)
  rw [nI_clamp (by omega), wS_set hI hqL he' hu] at hP1
  exact hP1
theorem r_copy (hexec : p.tables.exec = Jvm.exec) (hb : c.code = cc) (hml : c.maxLocals = ls.size) {own : String} {index : Nat} (hown : s.vm.findClass own = some m.cls) (hlink : (Cond.methodLink own index arraycopyName).before args s = true) (hnat : (Cond.native arraycopyName).before args s = true) (hstat : (Cond.static arraycopyName).before args s = true) (hini : (Cond.initialized "java/lang/System").before args s = true)
    (hK : KK D G s) (hI : wI L ad) (hW : va_P D vwCl (wS L ad (wd I)) H) (hS : va_S (wA L ad) H0 H locs) (f0 i0 f i sp dp n : Nat) (hm0 : (f0, i0) ∈ L) (hm : (f, i) ∈ L) {n0 n1 : Nat} {h0 h1 : Nat → Int32} (he0 : wd I f0 i0 = .inl (G 0, n0, .inl h0)) (he : wd I f i = .inl (G 0, n1, .inl h1)) {xs xd xn : Int32} (hxs : xs = nI sp) (hxd : xd = nI dp) (hxn : xn = nI n) (h4 : sp + n ≤ n0) (h5 : dp + n ≤ n1) (hn0 : n0 < 2 ^ 31) (hn1 : n1 < 2 ^ 31)
    (hframes : 1 ≤ R.frames) (hlocals : (rest.map fun v => v.category).sum + (nativeFrameWords "java/lang/System" "arraycopy" 5 + 11) ≤ R.locals) {I' : St} (he' : wd I' f i = .inl (G 0, n1, .inl (va_cpy h0 h1 sp dp n))) (hu : ∀ f' i', (f', i') ∈ L → ¬ (f' = f ∧ i' = i) → wd I' f' i' = wd I f' i') (hdg : decode cc pc = .ok (.invokestatic index, 3))
    (kk : ∀ (H1 : Heap) (locs1 : List Loc), va_P D vwCl (wS L ad (wd I')) H1 → va_S (wA L ad) H0 H1 locs1 → W p l e R s m args below meth c H1 locs1 cells slots Q (F0 m (pc + 3) ls rest)) : W p l e R s m args below meth c H locs cells slots Q (F0 m pc ls (.int xn :: .int xd :: .ref (ad f i) :: .int xs :: .ref (ad f0 i0) :: rest)) := by
  obtain ⟨q0, hq0, -⟩ := wS_get (ad := ad) (σ := wd I) hm0
  obtain ⟨q, hq, hqL⟩ := wS_get (ad := ad) (σ := wd I) hm
  rw [he0] at hq0
  rw [he] at hq
  subst hxs; subst hxd; subst hxn
  have c1 : (nI sp).toNatClampNeg = sp := nI_clamp (by omega)
  have c2 : (nI dp).toNatClampNeg = dp := nI_clamp (by omega)
  have c3 : (nI n).toNatClampNeg = n := nI_clamp (by omega)
  refine va_copyi hexec hb hml hown hlink hnat hstat hini hK.1 hW (wD hI) hS q0 q 0 0 hq0 hq rfl rfl rfl (nI_pos (by omega)) (nI_pos (by omega)) (nI_pos (by omega)) (by rw [c1, c3]; exact h4) (by rw [c2, c3]; exact h5) (fun _ _ => rfl) hframes hlocals hdg (fun H1 locs1 hP1 hD1 hS1 => kk H1 locs1 ?_ hS1)
  rw [c1, c2, c3, wS_set hI hqL he' hu] at hP1
  exact hP1
/-- what a call over the whole world wants of its start -/
theorem g_preS {av : List Value} (hK : KK D G s) (hW : va_P D vwCl (wS L ad σ) H) : PreS s H (gPre D G L ad av σ) av :=
  ⟨fun a U g mk q => by obtain ⟨q0, q1, q2⟩ := q; exact ⟨q0, q1, q2.calling⟩, fun U hU hWm => ⟨rfl, by rw [hU]; exact hW, hK.warm hWm⟩⟩
theorem g_preV {As : List Value} (hK : KK D G s) (hW : va_P D vwCl (wS L ad σ) H) (f i : Nat) (hm : (f, i) ∈ L) {ci : Nat} {fs : List Value} (he : σ f i = .inr (ci, fs)) {q : vw_C} (hc : vwCl[ci]? = some q) : PreV s H q.1 (ad f i) (gPre D G L ad (.ref (ad f i) :: As) σ) As := by
  have hP := wS_one hW hm
  rw [he] at hP
  exact ⟨fun a U g mk q => by obtain ⟨q0, q1, q2⟩ := q; exact ⟨q0, q1, q2.calling⟩, va_recv hK.1 hP (ci := ci) (q0 := 0) hc rfl, fun U hU hWm => ⟨rfl, by rw [hU]; exact hW, hK.warm hWm⟩⟩
theorem p_preS {av : List Value} : PreS s H (pPre av) av := ⟨fun a U g mk q => q, fun U _ _ => ⟨rfl, trivial⟩⟩
theorem p_preV {As : List Value} (hK : KK D G s) (hW : va_P D vwCl (wS L ad σ) H) (f i : Nat) (hm : (f, i) ∈ L) {ci : Nat} {fs : List Value} (he : σ f i = .inr (ci, fs)) {q : vw_C} (hc : vwCl[ci]? = some q) : PreV s H q.1 (ad f i) (pPre (.ref (ad f i) :: As)) As := by
  have hP := wS_one hW hm
  rw [he] at hP
  exact ⟨fun a U g mk q => q, va_recv hK.1 hP (ci := ci) (q0 := 0) hc rfl, fun U _ _ => ⟨rfl, trivial⟩⟩
variable {st0 : List Value} {a : Array Value}
theorem g_ci {post : Int32 → St → Prop} (hr : va_Run p l e R s m args below meth c H locs cells slots 0 0 (F0 m pc ls st0) rest (gQi D L ad wd post a) (wA L ad)) (hS : va_S (wA L ad) H0 H locs)
    (kk : ∀ (r : Int32) (u : St) (H1 : Heap) (locs1 : List Loc), post r u → va_P D vwCl (wS L ad (wd u)) H1 → va_S (wA L ad) H0 H1 locs1 → W p l e R s m args below meth c H1 locs1 cells slots Q (F0 m (pc + 3) ls (.int r :: rest))) : W p l e R s m args below meth c H locs cells slots Q (F0 m pc ls st0) :=
  va_calli hr hS (fun _ _ h => h) (fun _ h => h) (fun r u t H1 locs1 ht _ hp hB _ _ hS1 => kk r u H1 locs1 hp (by rw [← ht]; exact hB) hS1)
theorem g_cl {post : Int64 → St → Prop} (hr : va_Run p l e R s m args below meth c H locs cells slots 0 0 (F0 m pc ls st0) rest (gQl D L ad wd post a) (wA L ad)) (hS : va_S (wA L ad) H0 H locs)
    (kk : ∀ (r : Int64) (u : St) (H1 : Heap) (locs1 : List Loc), post r u → va_P D vwCl (wS L ad (wd u)) H1 → va_S (wA L ad) H0 H1 locs1 → W p l e R s m args below meth c H1 locs1 cells slots Q (F0 m (pc + 3) ls (.long r :: rest))) : W p l e R s m args below meth c H locs cells slots Q (F0 m pc ls st0) :=
  va_calll hr hS (fun _ _ h => h) (fun _ h => h) (fun r u t H1 locs1 ht _ hp hB _ _ hS1 => kk r u H1 locs1 hp (by rw [← ht]; exact hB) hS1)
theorem g_cv {post : St → Prop} (hr : va_Run p l e R s m args below meth c H locs cells slots 0 0 (F0 m pc ls st0) rest (gQv D L ad wd post a) (wA L ad)) (hS : va_S (wA L ad) H0 H locs)
    (kk : ∀ (u : St) (H1 : Heap) (locs1 : List Loc), post u → va_P D vwCl (wS L ad (wd u)) H1 → va_S (wA L ad) H0 H1 locs1 → W p l e R s m args below meth c H1 locs1 cells slots Q (F0 m (pc + 3) ls rest)) : W p l e R s m args below meth c H locs cells slots Q (F0 m pc ls st0) :=
  va_callv hr hS (fun _ _ h => h) (fun _ h => h) (fun u t H1 locs1 ht _ hp hB _ _ hS1 => kk u H1 locs1 hp (by rw [← ht]; exact hB) hS1)
theorem g_pi {v : Int32} (hr : va_Run p l e R s m args below meth c H locs cells slots 0 0 (F0 m pc ls st0) rest (pQi v a) (fun _ => False)) (hW : va_P D vwCl (wS L ad σ) H) (hS : va_S (wA L ad) H0 H locs)
    (kk : ∀ (H1 : Heap) (locs1 : List Loc), va_P D vwCl (wS L ad σ) H1 → va_S (wA L ad) H0 H1 locs1 → W p l e R s m args below meth c H1 locs1 cells slots Q (F0 m (pc + 3) ls (.int v :: rest))) : W p l e R s m args below meth c H locs cells slots Q (F0 m pc ls st0) :=
  va_calli hr hS (fun _ _ h => h.elim) (fun _ h => h.elim) (fun r u t H1 locs1 _ _ hp _ _ hk hS1 => by rw [show r = v from hp]; exact kk H1 locs1 (hW.kept fun k q hq => hk q.1 (hW k q hq).lt (fun h => h)) hS1)
theorem g_pl {v : Int64} (hr : va_Run p l e R s m args below meth c H locs cells slots 0 0 (F0 m pc ls st0) rest (pQl v a) (fun _ => False)) (hW : va_P D vwCl (wS L ad σ) H) (hS : va_S (wA L ad) H0 H locs)
    (kk : ∀ (H1 : Heap) (locs1 : List Loc), va_P D vwCl (wS L ad σ) H1 → va_S (wA L ad) H0 H1 locs1 → W p l e R s m args below meth c H1 locs1 cells slots Q (F0 m (pc + 3) ls (.long v :: rest))) : W p l e R s m args below meth c H locs cells slots Q (F0 m pc ls st0) :=
  va_calll hr hS (fun _ _ h => h.elim) (fun _ h => h.elim) (fun r u t H1 locs1 _ _ hp _ _ hk hS1 => by rw [show r = v from hp]; exact kk H1 locs1 (hW.kept fun k q hq => hk q.1 (hW k q hq).lt (fun h => h)) hS1)
/-- the same where the caller holds no world -/
theorem q_pi {A : Nat → Prop} {v : Int32} (hr : va_Run p l e R s m args below meth c H locs cells slots 0 0 (F0 m pc ls st0) rest (pQi v a) (fun _ => False)) (hS : va_S A H0 H locs)
    (kk : ∀ (H1 : Heap) (locs1 : List Loc), va_S A H0 H1 locs1 → W p l e R s m args below meth c H1 locs1 cells slots Q (F0 m (pc + 3) ls (.int v :: rest))) : W p l e R s m args below meth c H locs cells slots Q (F0 m pc ls st0) :=
  va_calli hr hS (fun _ _ h => h.elim) (fun _ h => h.elim) (fun r u t H1 locs1 _ _ hp _ _ hk hS1 => by rw [show r = v from hp]; exact kk H1 locs1 hS1)
theorem g_iret {post : Int32 → St → Prop} {v : Int32} {ty : FieldType} (hexec : p.tables.exec = Jvm.exec) (hb : c.code = cc) (hr : meth.sig.returnType = some ty) (hn : narrow ty (.int v) = .int v) (hlocks : meth.locks = false) (hW : va_P D vwCl (wS L ad (wd I)) H) (hS : va_S (wA L ad) s.heap H locs) (hp : post v I) (hdg : decode cc pc = .ok (.ireturn, 1)) : W p l e R s m args below meth c H locs cells slots (MQ below (gQi D L ad wd post) args s cells slots (wA L ad)) (F0 m pc ls [.int v]) :=
  W.zret hexec hb hr hn (fun t ht _ => ⟨⟨v, I, rfl, hp, by show va_P D vwCl (wS L ad (wd I)) t.heap; rw [ht]; exact hW⟩, hS.F ht⟩) hS.2.2 hdg hlocks
theorem g_lret {post : Int64 → St → Prop} {v : Int64} (hexec : p.tables.exec = Jvm.exec) (hb : c.code = cc) (hr : meth.sig.returnType = some .long) (hlocks : meth.locks = false) (hW : va_P D vwCl (wS L ad (wd I)) H) (hS : va_S (wA L ad) s.heap H locs) (hp : post v I) (hdg : decode cc pc = .ok (.lreturn, 1)) : W p l e R s m args below meth c H locs cells slots (MQ below (gQl D L ad wd post) args s cells slots (wA L ad)) (F0 m pc ls [.long v]) :=
  W.lret hexec hb hr (fun t ht _ => ⟨⟨v, I, rfl, hp, by show va_P D vwCl (wS L ad (wd I)) t.heap; rw [ht]; exact hW⟩, hS.F ht⟩) hS.2.2 hdg hlocks
theorem g_vret {post : St → Prop} (hexec : p.tables.exec = Jvm.exec) (hb : c.code = cc) (hr : meth.sig.returnType = none) (hlocks : meth.locks = false) (hW : va_P D vwCl (wS L ad (wd I)) H) (hS : va_S (wA L ad) s.heap H locs) (hp : post I) (hdg : decode cc pc = .ok (.return_, 1)) : W p l e R s m args below meth c H locs cells slots (MQ below (gQv D L ad wd post) args s cells slots (wA L ad)) (F0 m pc ls []) :=
  W.vret hexec hb hr (fun t ht _ => ⟨⟨I, rfl, hp, by show va_P D vwCl (wS L ad (wd I)) t.heap; rw [ht]; exact hW⟩, hS.F ht⟩) hS.2.2 hdg hlocks
theorem p_iret {v w : Int32} {ty : FieldType} (hexec : p.tables.exec = Jvm.exec) (hb : c.code = cc) (hr : meth.sig.returnType = some ty) (hn : narrow ty (.int w) = .int w) (hlocks : meth.locks = false) (hS : va_S (fun _ => False) s.heap H locs) (hp : w = v) (hdg : decode cc pc = .ok (.ireturn, 1)) : W p l e R s m args below meth c H locs cells slots (MQ below (pQi v) args s cells slots (fun _ => False)) (F0 m pc ls [.int w]) :=
  W.zret hexec hb hr hn (fun t ht _ => ⟨⟨w, (), rfl, hp, trivial⟩, hS.F ht⟩) hS.2.2 hdg hlocks
theorem p_lret {v w : Int64} (hexec : p.tables.exec = Jvm.exec) (hb : c.code = cc) (hr : meth.sig.returnType = some .long) (hlocks : meth.locks = false) (hS : va_S (fun _ => False) s.heap H locs) (hp : w = v) (hdg : decode cc pc = .ok (.lreturn, 1)) : W p l e R s m args below meth c H locs cells slots (MQ below (pQl v) args s cells slots (fun _ => False)) (F0 m pc ls [.long w]) :=
  W.lret hexec hb hr (fun t ht _ => ⟨⟨w, (), rfl, hp, trivial⟩, hS.F ht⟩) hS.2.2 hdg hlocks
end GR
