/-! ===== the two sides' cells ===== -/
/-- the cells of JoinedStores: 0 itself, 1 networks, 2 sheets' row, 3 rows of stores (now, its parcels, kept, its parcels, thoughts), 4 stores (0-3 now, 4-19 its parcels, 20-31 the messages', 32 all, 33 fresh, 34 thought, 35-38 thoughts, 39-42 kept, 43-58 its parcels), 5 dots, 6 rows of messages, 7 sheets, 8 messages; from 10 on rows of ints: 10 heard, 11 alive, 12 made, 13 values, 14 stamps, 15 objects, 16 kinds, 17 known, 18 had, 19 items, 20 gathered -/
def szC (f : Nat) : Nat := match f with
  | 0 => 1 | 1 => 2 | 2 => 1 | 3 => 5 | 4 => 59 | 5 => 2 | 6 => 2 | 7 => 4 | 8 => 12 | 10 => 59 | 11 => 59 | 12 => 2 | 13 => 2 | 14 => 2 | 15 => 2 | 16 => 2 | 17 => 2 | 18 => 12 | 19 => 4 | 20 => 2
  | _ => 0
def lenC (f : Nat) : Nat := match f with
  | 13 => 124 | 14 => 124 | 15 => 124 | 16 => 12 | 17 => 64 | 19 => 40 | 20 => 124
  | _ => 4
def LC : List (Nat × Nat) := (List.range 21).flatMap fun f => (List.range (szC f)).map fun i => (f, i)
theorem mC {f i : Nat} (hf : f < 21) (hi : i < szC f) : (f, i) ∈ LC := List.mem_flatMap.mpr ⟨f, List.mem_range.mpr hf, List.mem_map.mpr ⟨i, List.mem_range.mpr hi, rfl⟩⟩
theorem lenC_le (f : Nat) : lenC f ≤ 124 := by
  unfold lenC
  split <;> omega
def lSt (i : Nat) : Nat := match i with | 1 => 16 | 3 => 16 | _ => 4
def bSt (i : Nat) : Nat := match i with | 0 => 0 | 1 => 4 | 2 => 39 | 3 => 43 | _ => 35
def refs (f : Nat → Nat) : (Nat → Int32) ⊕ (Nat → Int64) ⊕ (Nat → UInt32) ⊕ (Nat → UInt64) ⊕ (Nat → Option Nat) := .inr (.inr (.inr (.inr (fun j => some (f j)))))
def wC (G : Nat → ClassId) (ad : Nat → Nat → Nat) (I : St) : Cont := fun f i => match f with
  | 0 => .inr (5, [.ref (ad 1 0), .ref (ad 1 1), .int (I 0 i 2), .ref (ad 2 0), .ref (ad 4 33), .ref (ad 4 32), .ref (ad 4 34), .ref (ad 3 4)])
  | 1 => .inr (2, [.ref (ad 5 i), .ref (ad 16 i), .ref (ad 3 (2 * i)), .ref (ad 3 (2 * i + 1)), .ref (ad 17 i), .ref (ad 6 i), .int (I 1 i 6)])
  | 2 => .inl (G 3, 4, refs (fun j => ad 7 j))
  | 3 => .inl (G 1, lSt i, refs (fun j => ad 4 (j + bSt i)))
  | 4 => .inr (4, [.ref (ad 10 i), .ref (ad 11 i)])
  | 5 => .inr (0, [.ref (ad 12 i), .ref (ad 13 i), .ref (ad 14 i), .ref (ad 15 i), .ref (ad 20 i)])
  | 6 => .inl (G 2, 6, refs (fun j => ad 8 ((I 6 i j).toNatClampNeg + 6 * i)))
  | 7 => .inr (3, [.int (I 7 i 0), .int (I 7 i 1), .ref (ad 19 i)])
  | 8 => .inr (1, [.int (I 8 i 0), .int (I 8 i 1), .ref (ad 4 (i + 20)), .ref (ad 18 i)])
  | _ => .inl (G 0, lenC f, .inl (I f i))
theorem wC_arr {G : Nat → ClassId} {ad : Nat → Nat → Nat} {I : St} {f i : Nat} (hf : 9 ≤ f) : wC G ad I f i = .inl (G 0, lenC f, .inl (I f i)) := by
  obtain ⟨n, rfl⟩ : ∃ n, f = n + 9 := ⟨f - 9, by omega⟩
  rfl
theorem wC_dep {G : Nat → ClassId} {ad : Nat → Nat → Nat} {I J : St} {f i : Nat} (h : ∀ j, I f i j = J f i j) : wC G ad I f i = wC G ad J f i := by
  by_cases hf : 9 ≤ f
  · rw [wC_arr hf, wC_arr hf, show I f i = J f i from funext h]
  · rcases (by omega : f = 0 ∨ f = 1 ∨ f = 2 ∨ f = 3 ∨ f = 4 ∨ f = 5 ∨ f = 6 ∨ f = 7 ∨ f = 8) with rfl | rfl | rfl | rfl | rfl | rfl | rfl | rfl | rfl <;> simp [wC, h]
theorem wC_up {G : Nat → ClassId} {ad : Nat → Nat → Nat} {I : St} {f i j : Nat} {x : Int32} (f' i' : Nat) (hn : ¬ (f' = f ∧ i' = i)) : wC G ad (up3 I f i j x) f' i' = wC G ad I f' i' := wC_dep fun j' => up3_n (fun h => hn ⟨h.1, h.2.1⟩)
theorem wC_self {G : Nat → ClassId} {ad : Nat → Nat → Nat} {I : St} {f i j : Nat} {x : Int32} (hf : 9 ≤ f) : wC G ad (up3 I f i j x) f i = .inl (G 0, lenC f, .inl (upd (I f i) j x)) := by
  rw [wC_arr hf]
  have e : up3 I f i j x f i = upd (I f i) j x := by
    funext k
    simp [up3, upd]
  rw [e]
/-- the cells of JoinedStoresModel: 0 itself, 1 its rows of rows (values, stamps, objects, heard, alive, known, had, the image's dots, heard, alive, known, had, items); from 10 on rows of ints: as above, and 21 senders, 22 receivers, 23 sorts, 24 lengths, 25 passed, the image's 26 made, 27 kinds, 28 senders, 29 receivers, 30 dots, 31 heard, 32 alive, 33 known, 34 had -/
def szM (f : Nat) : Nat := match f with
  | 0 => 1 | 1 => 13 | 10 => 33 | 11 => 33 | 12 => 1 | 13 => 4 | 14 => 4 | 15 => 4 | 16 => 1 | 17 => 16 | 18 => 6 | 19 => 4 | 21 => 1 | 22 => 1 | 23 => 1 | 24 => 1 | 25 => 1 | 26 => 1 | 27 => 1 | 28 => 1 | 29 => 1 | 30 => 12 | 31 => 33 | 32 => 33 | 33 => 16 | 34 => 6
  | _ => 0
def lenM (f : Nat) : Nat := match f with
  | 13 => 31 | 14 => 31 | 15 => 31 | 16 => 12 | 19 => 40 | 21 => 6 | 22 => 6 | 25 => 40 | 27 => 12 | 28 => 6 | 29 => 6 | 30 => 31
  | _ => 4
def LM : List (Nat × Nat) := (List.range 35).flatMap fun f => (List.range (szM f)).map fun i => (f, i)
theorem mM {f i : Nat} (hf : f < 35) (hi : i < szM f) : (f, i) ∈ LM := List.mem_flatMap.mpr ⟨f, List.mem_range.mpr hf, List.mem_map.mpr ⟨i, List.mem_range.mpr hi, rfl⟩⟩
theorem lenM_le (f : Nat) : lenM f ≤ 40 := by
  unfold lenM
  split <;> omega
def lOu (k : Nat) : Nat := match k with | 0 => 4 | 1 => 4 | 2 => 4 | 3 => 33 | 4 => 33 | 5 => 16 | 6 => 6 | 7 => 12 | 8 => 33 | 9 => 33 | 10 => 16 | 11 => 6 | _ => 4
def fOu (k : Nat) : Nat := match k with | 0 => 13 | 1 => 14 | 2 => 15 | 3 => 10 | 4 => 11 | 5 => 17 | 6 => 18 | 7 => 30 | 8 => 31 | 9 => 32 | 10 => 33 | 11 => 34 | _ => 19
def wM (G : Nat → ClassId) (ad : Nat → Nat → Nat) (I : St) : Cont := fun f i => match f with
  | 0 => .inr (6, [.ref (ad 12 0), .ref (ad 1 0), .ref (ad 1 1), .ref (ad 1 2), .ref (ad 16 0), .ref (ad 1 3), .ref (ad 1 4), .ref (ad 1 5), .int (I 0 i 8), .ref (ad 21 0), .ref (ad 22 0), .ref (ad 1 6), .int (I 0 i 12), .int (I 0 i 13), .ref (ad 26 0), .ref (ad 27 0), .ref (ad 28 0), .ref (ad 29 0), .ref (ad 1 7), .ref (ad 1 8), .ref (ad 1 9), .ref (ad 1 10), .ref (ad 1 11), .ref (ad 23 0), .ref (ad 24 0), .ref (ad 1 12), .ref (ad 25 0)])
  | 1 => .inl (G 4, lOu i, refs (fun j => ad (fOu i) j))
  | _ => .inl (G 0, lenM f, .inl (I f i))
theorem wM_arr {G : Nat → ClassId} {ad : Nat → Nat → Nat} {I : St} {f i : Nat} (hf : 9 ≤ f) : wM G ad I f i = .inl (G 0, lenM f, .inl (I f i)) := by
  obtain ⟨n, rfl⟩ : ∃ n, f = n + 9 := ⟨f - 9, by omega⟩
  rfl
theorem wM_dep {G : Nat → ClassId} {ad : Nat → Nat → Nat} {I J : St} {f i : Nat} (h : ∀ j, I f i j = J f i j) : wM G ad I f i = wM G ad J f i := by
  by_cases hf : 2 ≤ f
  · obtain ⟨n, rfl⟩ : ∃ n, f = n + 2 := ⟨f - 2, by omega⟩
    show (Sum.inl (G 0, lenM (n + 2), .inl (I (n + 2) i)) : va_E) = .inl (G 0, lenM (n + 2), .inl (J (n + 2) i))
    rw [show I (n + 2) i = J (n + 2) i from funext h]
  · rcases (by omega : f = 0 ∨ f = 1) with rfl | rfl <;> simp [wM, h]
theorem wM_up {G : Nat → ClassId} {ad : Nat → Nat → Nat} {I : St} {f i j : Nat} {x : Int32} (f' i' : Nat) (hn : ¬ (f' = f ∧ i' = i)) : wM G ad (up3 I f i j x) f' i' = wM G ad I f' i' := wM_dep fun j' => up3_n (fun h => hn ⟨h.1, h.2.1⟩)
theorem wM_self {G : Nat → ClassId} {ad : Nat → Nat → Nat} {I : St} {f i j : Nat} {x : Int32} (hf : 9 ≤ f) : wM G ad (up3 I f i j x) f i = .inl (G 0, lenM f, .inl (upd (I f i) j x)) := by
  rw [wM_arr hf]
  have e : up3 I f i j x f i = upd (I f i) j x := by
    funext k
    simp [up3, upd]
  rw [e]
/-- a copied stretch of a row -/
def cp3 (I : St) (f0 i0 f i sp dp n : Nat) : St := fun f' i' j' => if f' = f ∧ i' = i ∧ dp ≤ j' ∧ j' < dp + n then I f0 i0 (sp + (j' - dp)) else I f' i' j'
theorem cp3_cpy (I : St) (f0 i0 f i sp dp n : Nat) : cp3 I f0 i0 f i sp dp n f i = va_cpy (I f0 i0) (I f i) sp dp n := by
  funext j
  simp [cp3, va_cpy]
section SIDES
variable {p : Program} {l : Launch} {e : Env} {R : Room} {s : State} {m : MethodId} {args : Array Value} {below : List Frame} {meth : Method} {c : Code} {H : Heap} {locs : List Loc} {cells slots : Nat} {Q : State → Prop}
variable {cc : ByteArray} {pc : Nat} {ls : Array Slot} {rest : List Value} {D : va_G} {G : Nat → ClassId} {ad : Nat → Nat → Nat} {H0 : Heap} {I : St}
theorem rC_iald (hexec : p.tables.exec = Jvm.exec) (hb : c.code = cc) (hK : KK D G s) (hW : va_P D vwCl (wS LC ad (wC G ad I)) H) (f i j : Nat) (hf : 9 ≤ f) (hf2 : f < 21) (hi : i < szC f) (hj : j < lenC f) {x : Int32} (hx : x = nI j) (hdg : decode cc pc = .ok (.iaload, 1))
    (kk : ∀ y : Int32, y = I f i j → W p l e R s m args below meth c H locs cells slots Q (F0 m (pc + 1) ls (.int y :: rest))) : W p l e R s m args below meth c H locs cells slots Q (F0 m pc ls (.int x :: .ref (ad f i) :: rest)) :=
  r_iald hexec hb hK hW f i j (mC hf2 hi) (wC_arr hf) hj (by have := lenC_le f; omega) hx hdg kk
theorem rM_iald (hexec : p.tables.exec = Jvm.exec) (hb : c.code = cc) (hK : KK D G s) (hW : va_P D vwCl (wS LM ad (wM G ad I)) H) (f i j : Nat) (hf : 9 ≤ f) (hf2 : f < 35) (hi : i < szM f) (hj : j < lenM f) {x : Int32} (hx : x = nI j) (hdg : decode cc pc = .ok (.iaload, 1))
    (kk : ∀ y : Int32, y = I f i j → W p l e R s m args below meth c H locs cells slots Q (F0 m (pc + 1) ls (.int y :: rest))) : W p l e R s m args below meth c H locs cells slots Q (F0 m pc ls (.int x :: .ref (ad f i) :: rest)) :=
  r_iald hexec hb hK hW f i j (mM hf2 hi) (wM_arr hf) hj (by have := lenM_le f; omega) hx hdg kk
theorem rC_iast (hexec : p.tables.exec = Jvm.exec) (hb : c.code = cc) (hK : KK D G s) (hI : wI LC ad) (hW : va_P D vwCl (wS LC ad (wC G ad I)) H) (hS : va_S (wA LC ad) H0 H locs) (f i j : Nat) (hf : 9 ≤ f) (hf2 : f < 21) (hi : i < szC f) (hj : j < lenC f) {x y : Int32} (hx : x = nI j) (hdg : decode cc pc = .ok (.iastore, 1))
    (kk : ∀ (I' : St) (H1 : Heap) (locs1 : List Loc), I' = up3 I f i j y → va_P D vwCl (wS LC ad (wC G ad I')) H1 → va_S (wA LC ad) H0 H1 locs1 → W p l e R s m args below meth c H1 locs1 cells slots Q (F0 m (pc + 1) ls rest)) : W p l e R s m args below meth c H locs cells slots Q (F0 m pc ls (.int y :: .int x :: .ref (ad f i) :: rest)) :=
  r_iast (wd := wC G ad) hexec hb hK hI hW hS f i j (mC hf2 hi) (wC_arr hf) hj (by have := lenC_le f; omega) hx (wC_self hf) (fun f' i' _ hn => wC_up f' i' hn) hdg (fun H1 locs1 h1 h2 => kk _ H1 locs1 rfl h1 h2)
theorem rM_iast (hexec : p.tables.exec = Jvm.exec) (hb : c.code = cc) (hK : KK D G s) (hI : wI LM ad) (hW : va_P D vwCl (wS LM ad (wM G ad I)) H) (hS : va_S (wA LM ad) H0 H locs) (f i j : Nat) (hf : 9 ≤ f) (hf2 : f < 35) (hi : i < szM f) (hj : j < lenM f) {x y : Int32} (hx : x = nI j) (hdg : decode cc pc = .ok (.iastore, 1))
    (kk : ∀ (I' : St) (H1 : Heap) (locs1 : List Loc), I' = up3 I f i j y → va_P D vwCl (wS LM ad (wM G ad I')) H1 → va_S (wA LM ad) H0 H1 locs1 → W p l e R s m args below meth c H1 locs1 cells slots Q (F0 m (pc + 1) ls rest)) : W p l e R s m args below meth c H locs cells slots Q (F0 m pc ls (.int y :: .int x :: .ref (ad f i) :: rest)) :=
  r_iast (wd := wM G ad) hexec hb hK hI hW hS f i j (mM hf2 hi) (wM_arr hf) hj (by have := lenM_le f; omega) hx (wM_self hf) (fun f' i' _ hn => wM_up f' i' hn) hdg (fun H1 locs1 h1 h2 => kk _ H1 locs1 rfl h1 h2)
theorem rC_copy (hexec : p.tables.exec = Jvm.exec) (hb : c.code = cc) (hml : c.maxLocals = ls.size) {own : String} {index : Nat} (hown : s.vm.findClass own = some m.cls) (hlink : (Cond.methodLink own index arraycopyName).before args s = true) (hnat : (Cond.native arraycopyName).before args s = true) (hstat : (Cond.static arraycopyName).before args s = true) (hini : (Cond.initialized "java/lang/System").before args s = true)
    (hK : KK D G s) (hI : wI LC ad) (hW : va_P D vwCl (wS LC ad (wC G ad I)) H) (hS : va_S (wA LC ad) H0 H locs) (f0 i0 f i sp dp n : Nat) (hf0 : 9 ≤ f0) (hf02 : f0 < 21) (hi0 : i0 < szC f0) (hf : 9 ≤ f) (hf2 : f < 21) (hi : i < szC f) (h4 : sp + n ≤ lenC f0) (h5 : dp + n ≤ lenC f) {xs xd xn : Int32} (hxs : xs = nI sp) (hxd : xd = nI dp) (hxn : xn = nI n)
    (hframes : 1 ≤ R.frames) (hlocals : (rest.map fun v => v.category).sum + (nativeFrameWords "java/lang/System" "arraycopy" 5 + 11) ≤ R.locals) (hdg : decode cc pc = .ok (.invokestatic index, 3))
    (kk : ∀ (I' : St) (H1 : Heap) (locs1 : List Loc), I' = cp3 I f0 i0 f i sp dp n → va_P D vwCl (wS LC ad (wC G ad I')) H1 → va_S (wA LC ad) H0 H1 locs1 → W p l e R s m args below meth c H1 locs1 cells slots Q (F0 m (pc + 3) ls rest)) : W p l e R s m args below meth c H locs cells slots Q (F0 m pc ls (.int xn :: .int xd :: .ref (ad f i) :: .int xs :: .ref (ad f0 i0) :: rest)) := by
  have k1 := lenC_le f0
  have k2 := lenC_le f
  exact r_copy (wd := wC G ad) hexec hb hml hown hlink hnat hstat hini hK hI hW hS f0 i0 f i sp dp n (mC hf02 hi0) (mC hf2 hi) (wC_arr hf0) (wC_arr hf) hxs hxd hxn h4 h5 (by omega) (by omega) hframes hlocals (I' := cp3 I f0 i0 f i sp dp n) (by rw [wC_arr hf, cp3_cpy]) (fun f' i' _ hn => wC_dep (fun j => by simp only [cp3]; rw [if_neg (fun q => hn ⟨q.1, q.2.1⟩)])) hdg (fun H1 locs1 h1 h2 => kk _ H1 locs1 rfl h1 h2)
theorem rM_copy (hexec : p.tables.exec = Jvm.exec) (hb : c.code = cc) (hml : c.maxLocals = ls.size) {own : String} {index : Nat} (hown : s.vm.findClass own = some m.cls) (hlink : (Cond.methodLink own index arraycopyName).before args s = true) (hnat : (Cond.native arraycopyName).before args s = true) (hstat : (Cond.static arraycopyName).before args s = true) (hini : (Cond.initialized "java/lang/System").before args s = true)
    (hK : KK D G s) (hI : wI LM ad) (hW : va_P D vwCl (wS LM ad (wM G ad I)) H) (hS : va_S (wA LM ad) H0 H locs) (f0 i0 f i sp dp n : Nat) (hf0 : 9 ≤ f0) (hf02 : f0 < 35) (hi0 : i0 < szM f0) (hf : 9 ≤ f) (hf2 : f < 35) (hi : i < szM f) (h4 : sp + n ≤ lenM f0) (h5 : dp + n ≤ lenM f) {xs xd xn : Int32} (hxs : xs = nI sp) (hxd : xd = nI dp) (hxn : xn = nI n)
    (hframes : 1 ≤ R.frames) (hlocals : (rest.map fun v => v.category).sum + (nativeFrameWords "java/lang/System" "arraycopy" 5 + 11) ≤ R.locals) (hdg : decode cc pc = .ok (.invokestatic index, 3))
    (kk : ∀ (I' : St) (H1 : Heap) (locs1 : List Loc), I' = cp3 I f0 i0 f i sp dp n → va_P D vwCl (wS LM ad (wM G ad I')) H1 → va_S (wA LM ad) H0 H1 locs1 → W p l e R s m args below meth c H1 locs1 cells slots Q (F0 m (pc + 3) ls rest)) : W p l e R s m args below meth c H locs cells slots Q (F0 m pc ls (.int xn :: .int xd :: .ref (ad f i) :: .int xs :: .ref (ad f0 i0) :: rest)) := by
  have k1 := lenM_le f0
  have k2 := lenM_le f
  exact r_copy (wd := wM G ad) hexec hb hml hown hlink hnat hstat hini hK hI hW hS f0 i0 f i sp dp n (mM hf02 hi0) (mM hf2 hi) (wM_arr hf0) (wM_arr hf) hxs hxd hxn h4 h5 (by omega) (by omega) hframes hlocals (I' := cp3 I f0 i0 f i sp dp n) (by rw [wM_arr hf, cp3_cpy]) (fun f' i' _ hn => wM_dep (fun j => by simp only [cp3]; rw [if_neg (fun q => hn ⟨q.1, q.2.1⟩)])) hdg (fun H1 locs1 h1 h2 => kk _ H1 locs1 rfl h1 h2)
/-- an int field is written -/
theorem r_puti {L : List (Nat × Nat)} {wd : St → Cont} (hexec : p.tables.exec = Jvm.exec) (hb : c.code = cc) {own C : String} {T : u_T} {N ci index : Nat} {Ts : List Cond} (hts : ∀ w ∈ Ts, w.before args s = true) (hown : s.vm.findClass own = some m.cls) (hK : KK D G s) (hI : wI L ad) (hW : va_P D vwCl (wS L ad (wd I)) H) (hS : va_S (wA L ad) H0 H locs) (f i k : Nat) (hm : (f, i) ∈ L) {fs : List Value} (he : wd I f i = .inr (ci, fs)) (hc : vwCl[ci]? = some (C, T, N)) (hin : ∀ w ∈ u_ws C T N, w ∈ Ts) (hk : k < N) (hlink : (Cond.fieldLink own index C (T k).2.1 (T k).2.2.1).before args s = true) (hC : (T k).1 = C)
    (ty0 : Nat → FieldType) (hty : ∀ k, k < N → parseFieldDescriptor (T k).2.2.1 = some (ty0 k)) (hnm : ∀ a, a < N → ∀ b, b < N → a ≠ b → (T a).2.1 ≠ (T b).2.1) (hfin : (T k).2.2.2 = false) {ty : FieldType} {x : Int32} (hd : parseFieldDescriptor (T k).2.2.1 = some ty) (hn : narrow ty (.int x) = .int x) (hfit : fits ty (.int x) = true) (hl : k < fs.length)
    (he' : wd (up3 I f i k x) f i = .inr (ci, fs.set k (.int x))) (hu : ∀ f' i', ¬ (f' = f ∧ i' = i) → wd (up3 I f i k x) f' i' = wd I f' i') (hdg : decode cc pc = .ok (.putfield index, 3))
    (kk : ∀ (I' : St) (H1 : Heap) (locs1 : List Loc), I' = up3 I f i k x → va_P D vwCl (wS L ad (wd I')) H1 → va_S (wA L ad) H0 H1 locs1 → W p l e R s m args below meth c H1 locs1 cells slots Q (F0 m (pc + 3) ls rest)) : W p l e R s m args below meth c H locs cells slots Q (F0 m pc ls (.int x :: .ref (ad f i) :: rest)) :=
  r_put (wd := wd) (I' := up3 I f i k x) hexec hb hts hown hK hI hW hS f i k hm he hc hin hk hlink hC ty0 hty hnm hfin hd hn hfit hl he' (fun f' i' _ hne => hu f' i' hne) hdg (fun H1 locs1 h1 h2 => kk _ H1 locs1 rfl h1 h2)
end SIDES
/-- a method's contract out of its walk -/
theorem g_entry {l : Launch} {y : MethodName} {ws ws' : List Cond} {rm : Room} {Qc : Array Value → State → Outcome → State → Prop} {free : Addr → Prop} {cc : ByteArray} {ret : Option FieldType} {D : va_G} {G : Nat → ClassId} {L : List (Nat × Nat)} {ad : Nat → Nat → Nat} {av : List Value} {σ : Cont} {maxL : Nat} {C : String} (hC : C = y.cls) (hy : plainName y.cls = true) (hw : ws = Cond.code y cc maxL ret :: ws') (hav : (lg_sl av).length ≤ maxL)
    (body : ∀ (p : Program) (e : Env) (s : State) (m : MethodId) (args : Array Value) (below : List Frame) (meth : Method) (c : Code) (Q : State → Prop) (ls : Array Slot), Q = MQ below Qc args s 0 0 free → p.tables.exec = Jvm.exec → c.code = cc → meth.sig.returnType = ret → (∀ w ∈ ws, w.before args s = true) → s.vm.findClass C = some m.cls → meth.locks = false → c.maxLocals = maxL → va_P D vwCl (wS L ad σ) s.heap → KK D G s → lv_has ls maxL (lv_args 0 av) →
      W p l e rm s m args below meth c s.heap [] 0 0 Q (F0 m 0 ls [])) : Met l y ws rm (gPre D G L ad av σ) Qc 0 0 free := by
  refine Met.ofW (cc := cc) (maxL := maxL) (ret := ret) hy hw ?_
  intro p e s m args below meth c s₁ B hml hv
  obtain ⟨hav1, hW, hK⟩ := hv
  have hl := lv_entry av (n := maxL) hav
  have key := body p e s m args below meth c _ _ rfl B.exec B.bytes B.returns (atoms_spec (ws := ws) B.pre) (by rw [hC]; exact findClass_of_methodNamed B.named) B.notSynchronized hml hW hK hl
  rw [hav1, lg_entry_eq]
  rw [hav1] at key
  exact key
theorem p_entry {l : Launch} {y : MethodName} {ws ws' : List Cond} {rm : Room} {Qc : Array Value → State → Outcome → State → Prop} {free : Addr → Prop} {cc : ByteArray} {ret : Option FieldType} {av : List Value} {maxL : Nat} {C : String} (hC : C = y.cls) (hy : plainName y.cls = true) (hw : ws = Cond.code y cc maxL ret :: ws') (hav : (lg_sl av).length ≤ maxL)
    (body : ∀ (p : Program) (e : Env) (s : State) (m : MethodId) (args : Array Value) (below : List Frame) (meth : Method) (c : Code) (Q : State → Prop) (ls : Array Slot), Q = MQ below Qc args s 0 0 free → p.tables.exec = Jvm.exec → c.code = cc → meth.sig.returnType = ret → (∀ w ∈ ws, w.before args s = true) → s.vm.findClass C = some m.cls → meth.locks = false → c.maxLocals = maxL → lv_has ls maxL (lv_args 0 av) →
      W p l e rm s m args below meth c s.heap [] 0 0 Q (F0 m 0 ls [])) : Met l y ws rm (pPre av) Qc 0 0 free := by
  refine Met.ofW (cc := cc) (maxL := maxL) (ret := ret) hy hw ?_
  intro p e s m args below meth c s₁ B hml hv
  obtain ⟨hav1, -⟩ := hv
  have hl := lv_entry av (n := maxL) hav
  have key := body p e s m args below meth c _ _ rfl B.exec B.bytes B.returns (atoms_spec (ws := ws) B.pre) (by rw [hC]; exact findClass_of_methodNamed B.named) B.notSynchronized hml hl
  rw [hav1, lg_entry_eq]
  rw [hav1] at key
  exact key
