/-! ===== the law's rows: the script's ints, calls on either side while the other rests ===== -/
def LH (p : Program) (s : State) (m : MethodId) (meth : Method) (c : Code) (D : va_G) (G : Nat → ClassId) (b L t : Nat) (xs : Nat → Int32) : Prop := p.tables.exec = Jvm.exec ∧ c.code = cL_law ∧ c.maxLocals = 4 ∧ s.vm.findClass RL = some m.cls ∧ (∀ w ∈ wsL_law, w.before #[Value.ref b] s = true) ∧ va_X b L xs s s.heap ∧ b < s.heap.size ∧ KK D G s ∧ UDA (fun q => s.heap.size ≤ q) t s ∧ L ≤ 3584
def LI (D : va_G) (G : Nat → ClassId) (s : State) (I J : St) (H : Heap) (locs : List Loc) : Prop := Rel I J ∧ va_P D vwCl (wS LC (adC s.heap.size) (wC G (adC s.heap.size) I)) H ∧ va_P D vwCl (wS LM (aoM (s.heap.size + 236)) (wM G (aoM (s.heap.size + 236)) J)) H ∧ va_S (fun q => s.heap.size ≤ q) s.heap H locs
theorem wC_ge {B q : Nat} (h : wA LC (adC B) q) : B ≤ q := by
  obtain ⟨x, -, rfl⟩ := h
  exact Nat.le_add_right _ _
theorem wC_lt {B q : Nat} (h : wA LC (adC B) q) : q < B + 236 := by
  obtain ⟨x, hx, rfl⟩ := h
  exact Nat.add_lt_add_left (ltC x hx) _
theorem wM_ge {B q : Nat} (h : wA LM (aoM (B + 236)) q) : B + 236 ≤ q := by
  obtain ⟨x, -, rfl⟩ := h
  exact Nat.le_add_right _ _
theorem UDA.nar {A B : Nat → Prop} {t : Nat} {U : State} (h : UDA A t U) (hAB : ∀ q, B q → A q) : UDA B t U := ⟨va_Z.narrow h.1 hAB, va_T.narrow h.2 hAB⟩
theorem law_gt {i L : Nat} (hi : i < 5000) (hL : L ≤ 3584) : nI L - nI 7 < nI i ↔ ¬ i + 7 ≤ L := by
  rw [Int32.lt_iff_toInt_lt, Int32.toInt_sub, nI_toInt (by omega), nI_toInt (by omega), nI_toInt (by omega)]
  have e : ((L : Int) - ((7 : Nat) : Int)).bmod (2 ^ 32) = (L : Int) - 7 := by
    rw [Int.bmod]
    split <;> omega
  rw [e]
  omega
section LAWROWS
variable {p : Program} {l : Launch} {e : Env} {R : Room} {s : State} {m : MethodId} {args : Array Value} {below : List Frame} {meth : Method} {c : Code} {H : Heap} {locs : List Loc} {cells slots : Nat} {Q : State → Prop}
variable {pc : Nat} {ls : Array Slot} {rest : List Value} {D : va_G} {G : Nat → ClassId} {b L t : Nat} {xs : Nat → Int32}
theorem w_sc (S : LH p s m meth c D G b L t xs) (hS : va_S (fun q => s.heap.size ≤ q) s.heap H locs) {ca cm i : Nat} (hl : lv_has ls 4 [(3, .int (nI i)), (2, .ref cm), (1, .ref ca), (0, .ref b)]) (hi : i + 7 ≤ L) (j : Nat) (hj : j < 7) {j' : Int} (hj' : Int32.ofInt j' = nI j) (d0 : decode cL_law pc = .ok (.aload_n 0, 1)) (d1 : decode cL_law (pc + 1) = .ok (.iload_n 3, 1)) (d2 : decode cL_law (pc + 2) = .ok (.iconst j', 1)) (d3 : decode cL_law (pc + 3) = .ok (.iadd, 1)) (d4 : decode cL_law (pc + 4) = .ok (.iaload, 1))
    (kk : W p l e R s m args below meth c H locs cells slots Q (F0 m (pc + 5) ls (.int (xs (i + j)) :: rest))) : W p l e R s m args below meth c H locs cells slots Q (F0 m pc ls rest) := by
  obtain ⟨hx, hb, hml, hown, hts, hX, hbl, hK, hU, hL⟩ := S
  refine lv_aload_n hx hb d0 rfl (lv_at hl 3 rfl) ?_
  refine lv_iload_n hx hb d1 rfl (lv_at hl 0 rfl) ?_
  refine lv_iconst hx hb d2 hj' ?_
  refine lv_iadd hx hb d3 ?_
  rw [nI_add]
  refine va_sld hx hb hX hbl (Nat.not_le.mpr hbl) hS (vp_in_nI (show i + j < L by omega) (by omega)) d4 ?_
  rw [nI_clamp (by omega)]
  exact kk
theorem w_sc6 (S : LH p s m meth c D G b L t xs) (hS : va_S (fun q => s.heap.size ≤ q) s.heap H locs) {ca cm i : Nat} (hl : lv_has ls 4 [(3, .int (nI i)), (2, .ref cm), (1, .ref ca), (0, .ref b)]) (hi : i + 7 ≤ L) (j : Nat) (hj : j < 7) {j' : Int} (hj' : (Int8.ofInt j').toInt32 = nI j) (d0 : decode cL_law pc = .ok (.aload_n 0, 1)) (d1 : decode cL_law (pc + 1) = .ok (.iload_n 3, 1)) (d2 : decode cL_law (pc + 2) = .ok (.bipush j', 2)) (d3 : decode cL_law (pc + 4) = .ok (.iadd, 1)) (d4 : decode cL_law (pc + 5) = .ok (.iaload, 1))
    (kk : W p l e R s m args below meth c H locs cells slots Q (F0 m (pc + 6) ls (.int (xs (i + j)) :: rest))) : W p l e R s m args below meth c H locs cells slots Q (F0 m pc ls rest) := by
  obtain ⟨hx, hb, hml, hown, hts, hX, hbl, hK, hU, hL⟩ := S
  refine lv_aload_n hx hb d0 rfl (lv_at hl 3 rfl) ?_
  refine lv_iload_n hx hb d1 rfl (lv_at hl 0 rfl) ?_
  refine lv_bipush hx hb d2 hj' ?_
  refine lv_iadd hx hb d3 ?_
  rw [nI_add]
  refine va_sld hx hb hX hbl (Nat.not_le.mpr hbl) hS (vp_in_nI (show i + j < L by omega) (by omega)) d4 ?_
  rw [nI_clamp (by omega)]
  exact kk
theorem w_keepM {σ : Cont} {H1 : Heap} (hM : va_P D vwCl (wS LM (aoM (s.heap.size + 236)) σ) H) (hk : ∀ q : Nat, q < H.size → ¬ wA LC (adC s.heap.size) q → H1[q]? = H[q]?) : va_P D vwCl (wS LM (aoM (s.heap.size + 236)) σ) H1 := hM.kept fun k q hq => hk q.1 (hM k q hq).lt (fun z => by
  have h1 := wC_lt z
  obtain ⟨x, hx, rfl⟩ := wS_at hq
  have h2 : s.heap.size + 236 ≤ aoM (s.heap.size + 236) x.1 x.2 := Nat.le_add_right _ _
  exact absurd h1 (Nat.not_lt.mpr h2))
theorem w_keepC {σ : Cont} {H1 : Heap} (hC : va_P D vwCl (wS LC (adC s.heap.size) σ) H) (hk : ∀ q : Nat, q < H.size → ¬ wA LM (aoM (s.heap.size + 236)) q → H1[q]? = H[q]?) : va_P D vwCl (wS LC (adC s.heap.size) σ) H1 := hC.kept fun k q hq => hk q.1 (hC k q hq).lt (fun z => by
  have h1 := wM_ge z
  obtain ⟨x, hx, rfl⟩ := wS_at hq
  have h2 : adC s.heap.size x.1 x.2 < s.heap.size + 236 := Nat.add_lt_add_left (ltC x (List.mem_of_getElem? hx)) _
  exact absurd h2 (Nat.not_lt.mpr h1))
variable {st0 : List Value} {a : Array Value} {σ : Cont}
theorem w_c5i {post : Int32 → St → Prop} (hr : va_Run p l e R s m args below meth c H locs cells slots 0 0 (F0 m pc ls st0) rest (gQi D LC (adC s.heap.size) (wC G (adC s.heap.size)) post a) (wA LC (adC s.heap.size))) (ho : va_P D vwCl (wS LM (aoM (s.heap.size + 236)) σ) H) (hS : va_S (fun q => s.heap.size ≤ q) s.heap H locs)
    (kk : ∀ (r : Int32) (u : St) (H1 : Heap) (locs1 : List Loc), post r u → va_P D vwCl (wS LC (adC s.heap.size) ((wC G (adC s.heap.size)) u)) H1 → va_P D vwCl (wS LM (aoM (s.heap.size + 236)) σ) H1 → va_S (fun q => s.heap.size ≤ q) s.heap H1 locs1 → W p l e R s m args below meth c H1 locs1 cells slots Q (F0 m (pc + 3) ls (.int r :: rest))) : W p l e R s m args below meth c H locs cells slots Q (F0 m pc ls st0) :=
  va_calli hr hS (fun q _ h => wC_ge h) (fun q h => wC_ge h) (fun r u t H1 locs1 ht _ hp hB _ hk hS1 => kk r u H1 locs1 hp (by rw [← ht]; exact hB) (w_keepM ho hk) hS1)
theorem w_c5l {post : Int64 → St → Prop} (hr : va_Run p l e R s m args below meth c H locs cells slots 0 0 (F0 m pc ls st0) rest (gQl D LC (adC s.heap.size) (wC G (adC s.heap.size)) post a) (wA LC (adC s.heap.size))) (ho : va_P D vwCl (wS LM (aoM (s.heap.size + 236)) σ) H) (hS : va_S (fun q => s.heap.size ≤ q) s.heap H locs)
    (kk : ∀ (r : Int64) (u : St) (H1 : Heap) (locs1 : List Loc), post r u → va_P D vwCl (wS LC (adC s.heap.size) ((wC G (adC s.heap.size)) u)) H1 → va_P D vwCl (wS LM (aoM (s.heap.size + 236)) σ) H1 → va_S (fun q => s.heap.size ≤ q) s.heap H1 locs1 → W p l e R s m args below meth c H1 locs1 cells slots Q (F0 m (pc + 3) ls (.long r :: rest))) : W p l e R s m args below meth c H locs cells slots Q (F0 m pc ls st0) :=
  va_calll hr hS (fun q _ h => wC_ge h) (fun q h => wC_ge h) (fun r u t H1 locs1 ht _ hp hB _ hk hS1 => kk r u H1 locs1 hp (by rw [← ht]; exact hB) (w_keepM ho hk) hS1)
theorem w_c6i {post : Int32 → St → Prop} (hr : va_Run p l e R s m args below meth c H locs cells slots 0 0 (F0 m pc ls st0) rest (gQi D LM (aoM (s.heap.size + 236)) (wM G (aoM (s.heap.size + 236))) post a) (wA LM (aoM (s.heap.size + 236)))) (ho : va_P D vwCl (wS LC (adC s.heap.size) σ) H) (hS : va_S (fun q => s.heap.size ≤ q) s.heap H locs)
    (kk : ∀ (r : Int32) (u : St) (H1 : Heap) (locs1 : List Loc), post r u → va_P D vwCl (wS LM (aoM (s.heap.size + 236)) ((wM G (aoM (s.heap.size + 236))) u)) H1 → va_P D vwCl (wS LC (adC s.heap.size) σ) H1 → va_S (fun q => s.heap.size ≤ q) s.heap H1 locs1 → W p l e R s m args below meth c H1 locs1 cells slots Q (F0 m (pc + 3) ls (.int r :: rest))) : W p l e R s m args below meth c H locs cells slots Q (F0 m pc ls st0) :=
  va_calli hr hS (fun q _ h => Nat.le_trans (Nat.le_add_right _ _) (wM_ge h)) (fun q h => Nat.le_trans (Nat.le_add_right _ _) (wM_ge h)) (fun r u t H1 locs1 ht _ hp hB _ hk hS1 => kk r u H1 locs1 hp (by rw [← ht]; exact hB) (w_keepC ho hk) hS1)
theorem w_c6l {post : Int64 → St → Prop} (hr : va_Run p l e R s m args below meth c H locs cells slots 0 0 (F0 m pc ls st0) rest (gQl D LM (aoM (s.heap.size + 236)) (wM G (aoM (s.heap.size + 236))) post a) (wA LM (aoM (s.heap.size + 236)))) (ho : va_P D vwCl (wS LC (adC s.heap.size) σ) H) (hS : va_S (fun q => s.heap.size ≤ q) s.heap H locs)
    (kk : ∀ (r : Int64) (u : St) (H1 : Heap) (locs1 : List Loc), post r u → va_P D vwCl (wS LM (aoM (s.heap.size + 236)) ((wM G (aoM (s.heap.size + 236))) u)) H1 → va_P D vwCl (wS LC (adC s.heap.size) σ) H1 → va_S (fun q => s.heap.size ≤ q) s.heap H1 locs1 → W p l e R s m args below meth c H1 locs1 cells slots Q (F0 m (pc + 3) ls (.long r :: rest))) : W p l e R s m args below meth c H locs cells slots Q (F0 m pc ls st0) :=
  va_calll hr hS (fun q _ h => Nat.le_trans (Nat.le_add_right _ _) (wM_ge h)) (fun q h => Nat.le_trans (Nat.le_add_right _ _) (wM_ge h)) (fun r u t H1 locs1 ht _ hp hB _ hk hS1 => kk r u H1 locs1 hp (by rw [← ht]; exact hB) (w_keepC ho hk) hS1)
theorem g2_preV {L0 : List (Nat × Nat)} {ad : Nat → Nat → Nat} {B : State → Prop} {As : List Value} (hK : KK D G s) (hW : va_P D vwCl (wS L0 ad σ) H) (f i : Nat) (hm : (f, i) ∈ L0) {ci : Nat} {fs : List Value} (he : σ f i = .inr (ci, fs)) {q : vw_C} (hc : vwCl[ci]? = some q) (hB : ∀ U : State, U.heap = H → s.WarmedH U.vm → B U) (hBc : ∀ (U : State) (g : JFrame) (mk : MethodId) (a : Array Value), B U → B (U.calling g mk a)) : PreV s H q.1 (ad f i) (g2Pre D G L0 ad (.ref (ad f i) :: As) σ B) As := by
  have hP := wS_one hW hm
  rw [he] at hP
  exact ⟨fun a U g mk q => by obtain ⟨q0, ⟨q1, q2⟩, q3⟩ := q; exact ⟨q0, ⟨q1, q2.calling⟩, hBc _ _ _ _ q3⟩, va_recv hK.1 hP (ci := ci) (q0 := 0) hc rfl, fun U hU hWm => ⟨rfl, ⟨by rw [hU]; exact hW, hK.warm hWm⟩, hB U hU hWm⟩⟩
end LAWROWS
