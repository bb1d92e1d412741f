/-! ===== the law's calls, 4 ===== -/
section
variable {p : Program} {l : Launch} {e : Env} {s : State} {m : MethodId} {below : List Frame} {meth : Method} {c : Code} {H : Heap} {locs : List Loc} {Q : State → Prop} {ls : Array Slot} {D : va_G} {G : Nat → ClassId} {b L t : Nat} {xs : Nat → Int32}
set_option maxHeartbeats 4000000 in
set_option maxRecDepth 100000 in
theorem lc_image (S : LH p s m meth c D G b L t xs) {I J : St} (hI : LI D G s I J H locs) {i : Nat} (hl : lv_has ls 4 [(3, .int (nI i)), (2, .ref (aoM (s.heap.size + 236) 0 0)), (1, .ref (adC s.heap.size 0 0)), (0, .ref b)]) (hi : i + 7 ≤ L)
    (kk : ∀ (I J : St) (H : Heap) (locs : List Loc), LI D G s I J H locs → W p l e room_1 s m #[Value.ref b] below meth c H locs 600000 7302250 Q (F0 m 1299 ls [])) : W p l e room_1 s m #[Value.ref b] below meth c H locs 600000 7302250 Q (F0 m 1067 ls []) := by
  obtain ⟨hx, hb, hml, hown, hts, hX, hbl, hK, hU, hL⟩ := id S
  obtain ⟨hR, hC, hM, hS⟩ := hI
  refine lv_aload_n hx hb dL_law_1067 rfl (lv_at hl 2 rfl) ?_
  refine w_c5i (va_runV (As := []) (rest := []) ⟨hx, hb, hml, hown, hts⟩ (c_X5_image l D G (adC s.heap.size) (wI_of ndC oC _) I (hR.okW)) (cwV 0 hts gL_law_X5_image rfl rfl rfl (by decide +kernel) ⟨Nat.le_of_ble_eq_true rfl, Nat.le_of_ble_eq_true rfl⟩) (g_preV hK hC 0 0 (mC (by decide) (by decide)) rfl rfl) rfl rfl hl.1 rfl (lv_room (Nat.le_of_ble_eq_true rfl)) dL_law_1068 ⟨Nat.le_refl _, Nat.le_refl _⟩) hM hS (fun x5 u5 H locs h5 hC hM hS => ?_)
  refine lv_aload_n hx hb dL_law_1071 rfl (lv_at hl 1 rfl) ?_
  refine w_c6i (va_runV (As := []) (rest := [.int x5]) ⟨hx, hb, hml, hown, hts⟩ (c_X6_image l D G (aoM (s.heap.size + 236)) (wI_of ndM' oM _) J (hR.ok.T)) (cwV 0 hts gL_law_X6_image rfl rfl rfl (by decide +kernel) ⟨Nat.le_of_ble_eq_true rfl, Nat.le_of_ble_eq_true rfl⟩) (g_preV hK hM 0 0 (mM (by decide) (by decide)) rfl rfl) rfl rfl hl.1 rfl (lv_room (Nat.le_of_ble_eq_true rfl)) dL_law_1072 ⟨Nat.le_refl _, Nat.le_refl _⟩) hC hS (fun x6 u6 H locs h6 hM hC hS => ?_)
  obtain ⟨hq, hR⟩ := q_image hR  h5 h6
  exact lv_icmp_eq (tgt := 1299) hx hb dL_law_1075 (by decide) (fun _ => kk _ _ _ _ ⟨hR, hC, hM, hS⟩) (fun h => absurd hq h)
set_option maxHeartbeats 4000000 in
set_option maxRecDepth 100000 in
theorem lc_back (S : LH p s m meth c D G b L t xs) {I J : St} (hI : LI D G s I J H locs) {i : Nat} (hl : lv_has ls 4 [(3, .int (nI i)), (2, .ref (aoM (s.heap.size + 236) 0 0)), (1, .ref (adC s.heap.size 0 0)), (0, .ref b)]) (hi : i + 7 ≤ L)
    (kk : ∀ (I J : St) (H : Heap) (locs : List Loc), LI D G s I J H locs → W p l e room_1 s m #[Value.ref b] below meth c H locs 600000 7302250 Q (F0 m 1299 ls [])) : W p l e room_1 s m #[Value.ref b] below meth c H locs 600000 7302250 Q (F0 m 1080 ls []) := by
  obtain ⟨hx, hb, hml, hown, hts, hX, hbl, hK, hU, hL⟩ := id S
  obtain ⟨hR, hC, hM, hS⟩ := hI
  refine lv_aload_n hx hb dL_law_1080 rfl (lv_at hl 2 rfl) ?_
  refine w_c5i (va_runV (As := []) (rest := []) ⟨hx, hb, hml, hown, hts⟩ (c_X5_back l D G (adC s.heap.size) (wI_of ndC oC _) I (hR.okW)) (cwV 0 hts gL_law_X5_back rfl rfl rfl (by decide +kernel) ⟨Nat.le_of_ble_eq_true rfl, Nat.le_of_ble_eq_true rfl⟩) (g_preV hK hC 0 0 (mC (by decide) (by decide)) rfl rfl) rfl rfl hl.1 rfl (lv_room (Nat.le_of_ble_eq_true rfl)) dL_law_1081 ⟨Nat.le_refl _, Nat.le_refl _⟩) hM hS (fun x5 u5 H locs h5 hC hM hS => ?_)
  refine lv_aload_n hx hb dL_law_1084 rfl (lv_at hl 1 rfl) ?_
  refine w_c6i (va_runV (As := []) (rest := [.int x5]) ⟨hx, hb, hml, hown, hts⟩ (c_X6_back l D G (aoM (s.heap.size + 236)) (wI_of ndM' oM _) J (hR.ok.T)) (cwV 0 hts gL_law_X6_back rfl rfl rfl (by decide +kernel) ⟨Nat.le_of_ble_eq_true rfl, Nat.le_of_ble_eq_true rfl⟩) (g_preV hK hM 0 0 (mM (by decide) (by decide)) rfl rfl) rfl rfl hl.1 rfl (lv_room (Nat.le_of_ble_eq_true rfl)) dL_law_1085 ⟨Nat.le_refl _, Nat.le_refl _⟩) hC hS (fun x6 u6 H locs h6 hM hC hS => ?_)
  obtain ⟨hq, hR⟩ := q_back hR  h5 h6
  exact lv_icmp_eq (tgt := 1299) hx hb dL_law_1088 (by decide) (fun _ => kk _ _ _ _ ⟨hR, hC, hM, hS⟩) (fun h => absurd hq h)
set_option maxHeartbeats 4000000 in
set_option maxRecDepth 100000 in
theorem lc_count (S : LH p s m meth c D G b L t xs) {I J : St} (hI : LI D G s I J H locs) {i : Nat} (hl : lv_has ls 4 [(3, .int (nI i)), (2, .ref (aoM (s.heap.size + 236) 0 0)), (1, .ref (adC s.heap.size 0 0)), (0, .ref b)]) (hi : i + 7 ≤ L)
    (kk : ∀ (I J : St) (H : Heap) (locs : List Loc), LI D G s I J H locs → W p l e room_1 s m #[Value.ref b] below meth c H locs 600000 7302250 Q (F0 m 1299 ls [])) : W p l e room_1 s m #[Value.ref b] below meth c H locs 600000 7302250 Q (F0 m 1093 ls []) := by
  obtain ⟨hx, hb, hml, hown, hts, hX, hbl, hK, hU, hL⟩ := id S
  obtain ⟨hR, hC, hM, hS⟩ := hI
  refine lv_aload_n hx hb dL_law_1093 rfl (lv_at hl 2 rfl) ?_
  refine w_sc S hS hl hi 1 (by decide) (by decide) dL_law_1094 dL_law_1095 dL_law_1096 dL_law_1097 dL_law_1098 ?_
  refine w_c5i (va_runV (As := [.int (xs (i + 1))]) (rest := []) ⟨hx, hb, hml, hown, hts⟩ (c_X5_count l D G (adC s.heap.size) (wI_of ndC oC _) I (xs (i + 1))) (cwV 1 hts gL_law_X5_count rfl rfl rfl (by decide +kernel) ⟨Nat.le_of_ble_eq_true rfl, Nat.le_of_ble_eq_true rfl⟩) (g_preV hK hC 0 0 (mC (by decide) (by decide)) rfl rfl) rfl rfl hl.1 rfl (lv_room (Nat.le_of_ble_eq_true rfl)) dL_law_1099 ⟨Nat.le_refl _, Nat.le_refl _⟩) hM hS (fun x5 u5 H locs h5 hC hM hS => ?_)
  refine lv_aload_n hx hb dL_law_1102 rfl (lv_at hl 1 rfl) ?_
  refine w_sc S hS hl hi 1 (by decide) (by decide) dL_law_1103 dL_law_1104 dL_law_1105 dL_law_1106 dL_law_1107 ?_
  refine w_c6i (va_runV (As := [.int (xs (i + 1))]) (rest := [.int x5]) ⟨hx, hb, hml, hown, hts⟩ (c_X6_count l D G (aoM (s.heap.size + 236)) (wI_of ndM' oM _) J (xs (i + 1)) (hR.ok.T)) (cwV 1 hts gL_law_X6_count rfl rfl rfl (by decide +kernel) ⟨Nat.le_of_ble_eq_true rfl, Nat.le_of_ble_eq_true rfl⟩) (g_preV hK hM 0 0 (mM (by decide) (by decide)) rfl rfl) rfl rfl hl.1 rfl (lv_room (Nat.le_of_ble_eq_true rfl)) dL_law_1108 ⟨Nat.le_refl _, Nat.le_refl _⟩) hC hS (fun x6 u6 H locs h6 hM hC hS => ?_)
  obtain ⟨hq, hR⟩ := q_count hR _ h5 h6
  exact lv_icmp_eq (tgt := 1299) hx hb dL_law_1111 (by decide) (fun _ => kk _ _ _ _ ⟨hR, hC, hM, hS⟩) (fun h => absurd hq h)
set_option maxHeartbeats 4000000 in
set_option maxRecDepth 100000 in
theorem lc_sheet (S : LH p s m meth c D G b L t xs) {I J : St} (hI : LI D G s I J H locs) {i : Nat} (hl : lv_has ls 4 [(3, .int (nI i)), (2, .ref (aoM (s.heap.size + 236) 0 0)), (1, .ref (adC s.heap.size 0 0)), (0, .ref b)]) (hi : i + 7 ≤ L)
    (kk : ∀ (I J : St) (H : Heap) (locs : List Loc), LI D G s I J H locs → W p l e room_1 s m #[Value.ref b] below meth c H locs 600000 7302250 Q (F0 m 1299 ls [])) : W p l e room_1 s m #[Value.ref b] below meth c H locs 600000 7302250 Q (F0 m 1116 ls []) := by
  obtain ⟨hx, hb, hml, hown, hts, hX, hbl, hK, hU, hL⟩ := id S
  obtain ⟨hR, hC, hM, hS⟩ := hI
  refine lv_aload_n hx hb dL_law_1116 rfl (lv_at hl 2 rfl) ?_
  refine w_sc S hS hl hi 1 (by decide) (by decide) dL_law_1117 dL_law_1118 dL_law_1119 dL_law_1120 dL_law_1121 ?_
  refine w_sc S hS hl hi 2 (by decide) (by decide) dL_law_1122 dL_law_1123 dL_law_1124 dL_law_1125 dL_law_1126 ?_
  refine w_sc S hS hl hi 3 (by decide) (by decide) dL_law_1127 dL_law_1128 dL_law_1129 dL_law_1130 dL_law_1131 ?_
  refine w_c5i (va_runV (As := [.int (xs (i + 1)), .int (xs (i + 2)), .int (xs (i + 3))]) (rest := []) ⟨hx, hb, hml, hown, hts⟩ (c_X5_sheet l D G (adC s.heap.size) (wI_of ndC oC _) I (xs (i + 1)) (xs (i + 2)) (xs (i + 3))) (cwV 3 hts gL_law_X5_sheet rfl rfl rfl (by decide +kernel) ⟨Nat.le_of_ble_eq_true rfl, Nat.le_of_ble_eq_true rfl⟩) (g_preV hK hC 0 0 (mC (by decide) (by decide)) rfl rfl) rfl rfl hl.1 rfl (lv_room (Nat.le_of_ble_eq_true rfl)) dL_law_1132 ⟨Nat.le_refl _, Nat.le_refl _⟩) hM hS (fun x5 u5 H locs h5 hC hM hS => ?_)
  refine lv_aload_n hx hb dL_law_1135 rfl (lv_at hl 1 rfl) ?_
  refine w_sc S hS hl hi 1 (by decide) (by decide) dL_law_1136 dL_law_1137 dL_law_1138 dL_law_1139 dL_law_1140 ?_
  refine w_sc S hS hl hi 2 (by decide) (by decide) dL_law_1141 dL_law_1142 dL_law_1143 dL_law_1144 dL_law_1145 ?_
  refine w_sc S hS hl hi 3 (by decide) (by decide) dL_law_1146 dL_law_1147 dL_law_1148 dL_law_1149 dL_law_1150 ?_
  refine w_c6i (va_runV (As := [.int (xs (i + 1)), .int (xs (i + 2)), .int (xs (i + 3))]) (rest := [.int x5]) ⟨hx, hb, hml, hown, hts⟩ (c_X6_sheet l D G (aoM (s.heap.size + 236)) (wI_of ndM' oM _) J (xs (i + 1)) (xs (i + 2)) (xs (i + 3))) (cwV 3 hts gL_law_X6_sheet rfl rfl rfl (by decide +kernel) ⟨Nat.le_of_ble_eq_true rfl, Nat.le_of_ble_eq_true rfl⟩) (g_preV hK hM 0 0 (mM (by decide) (by decide)) rfl rfl) rfl rfl hl.1 rfl (lv_room (Nat.le_of_ble_eq_true rfl)) dL_law_1151 ⟨Nat.le_refl _, Nat.le_refl _⟩) hC hS (fun x6 u6 H locs h6 hM hC hS => ?_)
  obtain ⟨hq, hR⟩ := q_sheet hR _ _ _ h5 h6
  exact lv_icmp_eq (tgt := 1299) hx hb dL_law_1154 (by decide) (fun _ => kk _ _ _ _ ⟨hR, hC, hM, hS⟩) (fun h => absurd hq h)
set_option maxHeartbeats 4000000 in
set_option maxRecDepth 100000 in
theorem lc_put (S : LH p s m meth c D G b L t xs) {I J : St} (hI : LI D G s I J H locs) {i : Nat} (hl : lv_has ls 4 [(3, .int (nI i)), (2, .ref (aoM (s.heap.size + 236) 0 0)), (1, .ref (adC s.heap.size 0 0)), (0, .ref b)]) (hi : i + 7 ≤ L)
    (kk : ∀ (I J : St) (H : Heap) (locs : List Loc), LI D G s I J H locs → W p l e room_1 s m #[Value.ref b] below meth c H locs 600000 7302250 Q (F0 m 1299 ls [])) : W p l e room_1 s m #[Value.ref b] below meth c H locs 600000 7302250 Q (F0 m 1159 ls []) := by
  obtain ⟨hx, hb, hml, hown, hts, hX, hbl, hK, hU, hL⟩ := id S
  obtain ⟨hR, hC, hM, hS⟩ := hI
  refine lv_aload_n hx hb dL_law_1159 rfl (lv_at hl 2 rfl) ?_
  refine w_sc S hS hl hi 1 (by decide) (by decide) dL_law_1160 dL_law_1161 dL_law_1162 dL_law_1163 dL_law_1164 ?_
  refine w_sc S hS hl hi 2 (by decide) (by decide) dL_law_1165 dL_law_1166 dL_law_1167 dL_law_1168 dL_law_1169 ?_
  refine w_sc S hS hl hi 3 (by decide) (by decide) dL_law_1170 dL_law_1171 dL_law_1172 dL_law_1173 dL_law_1174 ?_
  refine w_c5i (va_runV (As := [.int (xs (i + 1)), .int (xs (i + 2)), .int (xs (i + 3))]) (rest := []) ⟨hx, hb, hml, hown, hts⟩ (c_X5_put l D G (adC s.heap.size) (wI_of ndC oC _) I (xs (i + 1)) (xs (i + 2)) (xs (i + 3)) (hR.okS)) (cwV 3 hts gL_law_X5_put rfl rfl rfl (by decide +kernel) ⟨Nat.le_of_ble_eq_true rfl, Nat.le_of_ble_eq_true rfl⟩) (g_preV hK hC 0 0 (mC (by decide) (by decide)) rfl rfl) rfl rfl hl.1 rfl (lv_room (Nat.le_of_ble_eq_true rfl)) dL_law_1175 ⟨Nat.le_refl _, Nat.le_refl _⟩) hM hS (fun x5 u5 H locs h5 hC hM hS => ?_)
  refine lv_aload_n hx hb dL_law_1178 rfl (lv_at hl 1 rfl) ?_
  refine w_sc S hS hl hi 1 (by decide) (by decide) dL_law_1179 dL_law_1180 dL_law_1181 dL_law_1182 dL_law_1183 ?_
  refine w_sc S hS hl hi 2 (by decide) (by decide) dL_law_1184 dL_law_1185 dL_law_1186 dL_law_1187 dL_law_1188 ?_
  refine w_sc S hS hl hi 3 (by decide) (by decide) dL_law_1189 dL_law_1190 dL_law_1191 dL_law_1192 dL_law_1193 ?_
  refine w_c6i (va_runV (As := [.int (xs (i + 1)), .int (xs (i + 2)), .int (xs (i + 3))]) (rest := [.int x5]) ⟨hx, hb, hml, hown, hts⟩ (c_X6_put l D G (aoM (s.heap.size + 236)) (wI_of ndM' oM _) J (xs (i + 1)) (xs (i + 2)) (xs (i + 3)) (hR.okSJ)) (cwV 3 hts gL_law_X6_put rfl rfl rfl (by decide +kernel) ⟨Nat.le_of_ble_eq_true rfl, Nat.le_of_ble_eq_true rfl⟩) (g_preV hK hM 0 0 (mM (by decide) (by decide)) rfl rfl) rfl rfl hl.1 rfl (lv_room (Nat.le_of_ble_eq_true rfl)) dL_law_1194 ⟨Nat.le_refl _, Nat.le_refl _⟩) hC hS (fun x6 u6 H locs h6 hM hC hS => ?_)
  obtain ⟨hq, hR⟩ := q_put hR _ _ _ h5 h6
  exact lv_icmp_eq (tgt := 1299) hx hb dL_law_1197 (by decide) (fun _ => kk _ _ _ _ ⟨hR, hC, hM, hS⟩) (fun h => absurd hq h)
set_option maxHeartbeats 4000000 in
set_option maxRecDepth 100000 in
theorem lc_item (S : LH p s m meth c D G b L t xs) {I J : St} (hI : LI D G s I J H locs) {i : Nat} (hl : lv_has ls 4 [(3, .int (nI i)), (2, .ref (aoM (s.heap.size + 236) 0 0)), (1, .ref (adC s.heap.size 0 0)), (0, .ref b)]) (hi : i + 7 ≤ L)
    (kk : ∀ (I J : St) (H : Heap) (locs : List Loc), LI D G s I J H locs → W p l e room_1 s m #[Value.ref b] below meth c H locs 600000 7302250 Q (F0 m 1299 ls [])) : W p l e room_1 s m #[Value.ref b] below meth c H locs 600000 7302250 Q (F0 m 1202 ls []) := by
  obtain ⟨hx, hb, hml, hown, hts, hX, hbl, hK, hU, hL⟩ := id S
  obtain ⟨hR, hC, hM, hS⟩ := hI
  refine lv_aload_n hx hb dL_law_1202 rfl (lv_at hl 2 rfl) ?_
  refine w_sc S hS hl hi 1 (by decide) (by decide) dL_law_1203 dL_law_1204 dL_law_1205 dL_law_1206 dL_law_1207 ?_
  refine w_sc S hS hl hi 2 (by decide) (by decide) dL_law_1208 dL_law_1209 dL_law_1210 dL_law_1211 dL_law_1212 ?_
  refine w_c5l (va_runV (As := [.int (xs (i + 1)), .int (xs (i + 2))]) (rest := []) ⟨hx, hb, hml, hown, hts⟩ (c_X5_item l D G (adC s.heap.size) (wI_of ndC oC _) I (xs (i + 1)) (xs (i + 2)) (hR.okS)) (cwV 2 hts gL_law_X5_item rfl rfl rfl (by decide +kernel) ⟨Nat.le_of_ble_eq_true rfl, Nat.le_of_ble_eq_true rfl⟩) (g_preV hK hC 0 0 (mC (by decide) (by decide)) rfl rfl) rfl rfl hl.1 rfl (lv_room (Nat.le_of_ble_eq_true rfl)) dL_law_1213 ⟨Nat.le_refl _, Nat.le_refl _⟩) hM hS (fun x5 u5 H locs h5 hC hM hS => ?_)
  refine lv_aload_n hx hb dL_law_1216 rfl (lv_at hl 1 rfl) ?_
  refine w_sc S hS hl hi 1 (by decide) (by decide) dL_law_1217 dL_law_1218 dL_law_1219 dL_law_1220 dL_law_1221 ?_
  refine w_sc S hS hl hi 2 (by decide) (by decide) dL_law_1222 dL_law_1223 dL_law_1224 dL_law_1225 dL_law_1226 ?_
  refine w_c6l (va_runV (As := [.int (xs (i + 1)), .int (xs (i + 2))]) (rest := [.long x5]) ⟨hx, hb, hml, hown, hts⟩ (c_X6_item l D G (aoM (s.heap.size + 236)) (wI_of ndM' oM _) J (xs (i + 1)) (xs (i + 2)) (hR.okSJ)) (cwV 2 hts gL_law_X6_item rfl rfl rfl (by decide +kernel) ⟨Nat.le_of_ble_eq_true rfl, Nat.le_of_ble_eq_true rfl⟩) (g_preV hK hM 0 0 (mM (by decide) (by decide)) rfl rfl) rfl rfl hl.1 rfl (lv_room (Nat.le_of_ble_eq_true rfl)) dL_law_1227 ⟨Nat.le_refl _, Nat.le_refl _⟩) hC hS (fun x6 u6 H locs h6 hM hC hS => ?_)
  obtain ⟨hq, hR⟩ := q_item hR _ _ h5 h6
  refine W.lcmp hx hb dL_law_1230 ?_
  exact lv_if_eq (tgt := 1299) hx hb dL_law_1231 (by decide) (fun _ => kk _ _ _ _ ⟨hR, hC, hM, hS⟩) (fun h => absurd (lg_cmp_0.mpr hq) h)
set_option maxHeartbeats 4000000 in
set_option maxRecDepth 100000 in
theorem lc_copy (S : LH p s m meth c D G b L t xs) {I J : St} (hI : LI D G s I J H locs) {i : Nat} (hl : lv_has ls 4 [(3, .int (nI i)), (2, .ref (aoM (s.heap.size + 236) 0 0)), (1, .ref (adC s.heap.size 0 0)), (0, .ref b)]) (hi : i + 7 ≤ L)
    (kk : ∀ (I J : St) (H : Heap) (locs : List Loc), LI D G s I J H locs → W p l e room_1 s m #[Value.ref b] below meth c H locs 600000 7302250 Q (F0 m 1299 ls [])) : W p l e room_1 s m #[Value.ref b] below meth c H locs 600000 7302250 Q (F0 m 1236 ls []) := by
  obtain ⟨hx, hb, hml, hown, hts, hX, hbl, hK, hU, hL⟩ := id S
  obtain ⟨hR, hC, hM, hS⟩ := hI
  refine lv_aload_n hx hb dL_law_1236 rfl (lv_at hl 2 rfl) ?_
  refine w_sc S hS hl hi 1 (by decide) (by decide) dL_law_1237 dL_law_1238 dL_law_1239 dL_law_1240 dL_law_1241 ?_
  refine w_sc S hS hl hi 2 (by decide) (by decide) dL_law_1242 dL_law_1243 dL_law_1244 dL_law_1245 dL_law_1246 ?_
  refine w_sc S hS hl hi 3 (by decide) (by decide) dL_law_1247 dL_law_1248 dL_law_1249 dL_law_1250 dL_law_1251 ?_
  refine w_sc S hS hl hi 4 (by decide) (by decide) dL_law_1252 dL_law_1253 dL_law_1254 dL_law_1255 dL_law_1256 ?_
  refine w_sc S hS hl hi 5 (by decide) (by decide) dL_law_1257 dL_law_1258 dL_law_1259 dL_law_1260 dL_law_1261 ?_
  refine w_c5i (va_runV (As := [.int (xs (i + 1)), .int (xs (i + 2)), .int (xs (i + 3)), .int (xs (i + 4)), .int (xs (i + 5))]) (rest := []) ⟨hx, hb, hml, hown, hts⟩ (c_X5_copy l D G (adC s.heap.size) (wI_of ndC oC _) I (xs (i + 1)) (xs (i + 2)) (xs (i + 3)) (xs (i + 4)) (xs (i + 5)) (hR.okS)) (cwV 5 hts gL_law_X5_copy rfl rfl rfl (by decide +kernel) ⟨Nat.le_of_ble_eq_true rfl, Nat.le_of_ble_eq_true rfl⟩) (g_preV hK hC 0 0 (mC (by decide) (by decide)) rfl rfl) rfl rfl hl.1 rfl (lv_room (Nat.le_of_ble_eq_true rfl)) dL_law_1262 ⟨Nat.le_refl _, Nat.le_refl _⟩) hM hS (fun x5 u5 H locs h5 hC hM hS => ?_)
  refine lv_aload_n hx hb dL_law_1265 rfl (lv_at hl 1 rfl) ?_
  refine w_sc S hS hl hi 1 (by decide) (by decide) dL_law_1266 dL_law_1267 dL_law_1268 dL_law_1269 dL_law_1270 ?_
  refine w_sc S hS hl hi 2 (by decide) (by decide) dL_law_1271 dL_law_1272 dL_law_1273 dL_law_1274 dL_law_1275 ?_
  refine w_sc S hS hl hi 3 (by decide) (by decide) dL_law_1276 dL_law_1277 dL_law_1278 dL_law_1279 dL_law_1280 ?_
  refine w_sc S hS hl hi 4 (by decide) (by decide) dL_law_1281 dL_law_1282 dL_law_1283 dL_law_1284 dL_law_1285 ?_
  refine w_sc S hS hl hi 5 (by decide) (by decide) dL_law_1286 dL_law_1287 dL_law_1288 dL_law_1289 dL_law_1290 ?_
  refine w_c6i (va_runV (As := [.int (xs (i + 1)), .int (xs (i + 2)), .int (xs (i + 3)), .int (xs (i + 4)), .int (xs (i + 5))]) (rest := [.int x5]) ⟨hx, hb, hml, hown, hts⟩ (c_X6_copy l D G (aoM (s.heap.size + 236)) (wI_of ndM' oM _) J (xs (i + 1)) (xs (i + 2)) (xs (i + 3)) (xs (i + 4)) (xs (i + 5)) (hR.okSJ)) (cwV 5 hts gL_law_X6_copy rfl rfl rfl (by decide +kernel) ⟨Nat.le_of_ble_eq_true rfl, Nat.le_of_ble_eq_true rfl⟩) (g_preV hK hM 0 0 (mM (by decide) (by decide)) rfl rfl) rfl rfl hl.1 rfl (lv_room (Nat.le_of_ble_eq_true rfl)) dL_law_1291 ⟨Nat.le_refl _, Nat.le_refl _⟩) hC hS (fun x6 u6 H locs h6 hM hC hS => ?_)
  obtain ⟨hq, hR⟩ := q_copy hR _ _ _ _ _ h5 h6
  exact lv_icmp_eq (tgt := 1299) hx hb dL_law_1294 (by decide) (fun _ => kk _ _ _ _ ⟨hR, hC, hM, hS⟩) (fun h => absurd hq h)
end
