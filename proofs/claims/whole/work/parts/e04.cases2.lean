/-! the law: its cases -/
set_option maxRecDepth 100000 in
theorem lc_30 {p : Program} {l : Launch} {e : Env} {s : State} {m : MethodId} {args : Array Value} {below : List Frame} {meth : Method} {c : Code} {Q : State → Prop} {D : va_G} {cA : Nat → ClassId} {base : Nat} {sA : Nat → Nat} {b L : Nat} {xs : Nat → Int32} {i : Int32} {h : Zh} {u : Nat} (X : zX p s m args meth c cL_law RL 7 D cA base sA) (r : zRm room_1 s D cA base zh0) (hb : base = s.heap.size ∧ b < s.heap.size ∧ va_X b L xs s s.heap) (inv : Inv h u) (hu : u ≤ 59000) (hz : ∀ k : Int32, k = 1 ∨ k = 2 ∨ k = 3 ∨ k = 4 ∨ k = 5 → zin (i + k) L) (K : ∀ h2, Inv h2 (u + 100) → zGA p l e room_1 s m args below meth c Q 7 D cA base zh0 1565 (lwLO base b i) [] h2) : zGA p l e room_1 s m args below meth c Q 7 D cA base zh0 1155 (lwLO base b i) [] h := by
  obtain ⟨o, h1, h2, e1, e2, inv2⟩ := op_wrong inv hu (toR (xs (i + 1).toNatClampNeg))
  simp only [toI] at e1 e2
  have k0 := inv.k0
  have k76 := kx_wrong e2
  refine a_aload_n X 3 dL_law_1155 rfl ?_
  refine ax_arg X hb (v := 1) dL_law_1156 dL_law_1157 dL_law_1159 dL_law_1160 dL_law_1161 (by decide) (hz 1 (by decide)) ?_
  refine a_callVA X r 1 (sX10_wrong e1) zf10 k0 ydX10_wrong w_ml_RL_145 w_instanceMethod_X10_wrong w_sel_X10_wrong w_ini_RX10 w_code_X10_wrong (by decide) rfl (st := []) rfl rfl (Nat.le_of_ble_eq_true rfl) dL_law_1162 ?_
  refine a_aload_n X 2 dL_law_1165 rfl ?_
  refine ax_arg X hb (v := 1) dL_law_1166 dL_law_1167 dL_law_1169 dL_law_1170 dL_law_1171 (by decide) (hz 1 (by decide)) ?_
  refine a_callV X r 1 (sX12_wrong e2) zf12 k76 ydX12_wrong w_ml_RL_148 w_instanceMethod_X12_wrong w_sel_X12_wrong w_ini_RX12 w_code_X12_wrong (by decide) rfl (st := [.int o]) rfl rfl (Nat.le_of_ble_eq_true rfl) dL_law_1172 ?_
  exact a_icmp_eq X 1565 dL_law_1175 (by decide) (fun _ => K h2 inv2) (fun hn => absurd rfl hn)
set_option maxRecDepth 100000 in
theorem lc_31 {p : Program} {l : Launch} {e : Env} {s : State} {m : MethodId} {args : Array Value} {below : List Frame} {meth : Method} {c : Code} {Q : State → Prop} {D : va_G} {cA : Nat → ClassId} {base : Nat} {sA : Nat → Nat} {b L : Nat} {xs : Nat → Int32} {i : Int32} {h : Zh} {u : Nat} (X : zX p s m args meth c cL_law RL 7 D cA base sA) (r : zRm room_1 s D cA base zh0) (hb : base = s.heap.size ∧ b < s.heap.size ∧ va_X b L xs s s.heap) (inv : Inv h u) (hu : u ≤ 59000) (hz : ∀ k : Int32, k = 1 ∨ k = 2 ∨ k = 3 ∨ k = 4 ∨ k = 5 → zin (i + k) L) (K : ∀ h2, Inv h2 (u + 100) → zGA p l e room_1 s m args below meth c Q 7 D cA base zh0 1565 (lwLO base b i) [] h2) : zGA p l e room_1 s m args below meth c Q 7 D cA base zh0 1180 (lwLO base b i) [] h := by
  obtain ⟨o, h1, h2, e1, e2, inv2⟩ := op_found inv hu
  have k0 := inv.k0
  have k76 := kx_found e2
  refine a_aload_n X 3 dL_law_1180 rfl ?_
  refine a_callVA X r 0 (sX10_found e1) zf10 k0 ydX10_found w_ml_RL_149 w_instanceMethod_X10_found w_sel_X10_found w_ini_RX10 w_code_X10_found (by decide) rfl (st := []) rfl rfl (Nat.le_of_ble_eq_true rfl) dL_law_1181 ?_
  refine a_aload_n X 2 dL_law_1184 rfl ?_
  refine a_callV X r 0 (sX12_found e2) zf12 k76 ydX12_found w_ml_RL_152 w_instanceMethod_X12_found w_sel_X12_found w_ini_RX12 w_code_X12_found (by decide) rfl (st := [.int o]) rfl rfl (Nat.le_of_ble_eq_true rfl) dL_law_1185 ?_
  exact a_icmp_eq X 1565 dL_law_1188 (by decide) (fun _ => K h2 inv2) (fun hn => absurd rfl hn)
set_option maxRecDepth 100000 in
theorem lc_32 {p : Program} {l : Launch} {e : Env} {s : State} {m : MethodId} {args : Array Value} {below : List Frame} {meth : Method} {c : Code} {Q : State → Prop} {D : va_G} {cA : Nat → ClassId} {base : Nat} {sA : Nat → Nat} {b L : Nat} {xs : Nat → Int32} {i : Int32} {h : Zh} {u : Nat} (X : zX p s m args meth c cL_law RL 7 D cA base sA) (r : zRm room_1 s D cA base zh0) (hb : base = s.heap.size ∧ b < s.heap.size ∧ va_X b L xs s s.heap) (inv : Inv h u) (hu : u ≤ 59000) (hz : ∀ k : Int32, k = 1 ∨ k = 2 ∨ k = 3 ∨ k = 4 ∨ k = 5 → zin (i + k) L) (K : ∀ h2, Inv h2 (u + 100) → zGA p l e room_1 s m args below meth c Q 7 D cA base zh0 1565 (lwLO base b i) [] h2) : zGA p l e room_1 s m args below meth c Q 7 D cA base zh0 1193 (lwLO base b i) [] h := by
  obtain ⟨o, h1, h2, e1, e2, inv2⟩ := op_apart inv hu (toR (xs (i + 1).toNatClampNeg)) (toR (xs (i + 2).toNatClampNeg))
  simp only [toI] at e1 e2
  have k0 := inv.k0
  have k76 := kx_apart e2
  refine a_aload_n X 3 dL_law_1193 rfl ?_
  refine ax_arg X hb (v := 1) dL_law_1194 dL_law_1195 dL_law_1197 dL_law_1198 dL_law_1199 (by decide) (hz 1 (by decide)) ?_
  refine ax_arg X hb (v := 2) dL_law_1200 dL_law_1201 dL_law_1203 dL_law_1204 dL_law_1205 (by decide) (hz 2 (by decide)) ?_
  refine a_callVA X r 2 (sX10_apart e1) zf10 k0 ydX10_apart w_ml_RL_153 w_instanceMethod_X10_apart w_sel_X10_apart w_ini_RX10 w_code_X10_apart (by decide) rfl (st := []) rfl rfl (Nat.le_of_ble_eq_true rfl) dL_law_1206 ?_
  refine a_aload_n X 2 dL_law_1209 rfl ?_
  refine ax_arg X hb (v := 1) dL_law_1210 dL_law_1211 dL_law_1213 dL_law_1214 dL_law_1215 (by decide) (hz 1 (by decide)) ?_
  refine ax_arg X hb (v := 2) dL_law_1216 dL_law_1217 dL_law_1219 dL_law_1220 dL_law_1221 (by decide) (hz 2 (by decide)) ?_
  refine a_callV X r 2 (sX12_apart e2) zf12 k76 ydX12_apart w_ml_RL_156 w_instanceMethod_X12_apart w_sel_X12_apart w_ini_RX12 w_code_X12_apart (by decide) rfl (st := [.int o]) rfl rfl (Nat.le_of_ble_eq_true rfl) dL_law_1222 ?_
  exact a_icmp_eq X 1565 dL_law_1225 (by decide) (fun _ => K h2 inv2) (fun hn => absurd rfl hn)
set_option maxRecDepth 100000 in
theorem lc_33 {p : Program} {l : Launch} {e : Env} {s : State} {m : MethodId} {args : Array Value} {below : List Frame} {meth : Method} {c : Code} {Q : State → Prop} {D : va_G} {cA : Nat → ClassId} {base : Nat} {sA : Nat → Nat} {b L : Nat} {xs : Nat → Int32} {i : Int32} {h : Zh} {u : Nat} (X : zX p s m args meth c cL_law RL 7 D cA base sA) (r : zRm room_1 s D cA base zh0) (hb : base = s.heap.size ∧ b < s.heap.size ∧ va_X b L xs s s.heap) (inv : Inv h u) (hu : u ≤ 59000) (hz : ∀ k : Int32, k = 1 ∨ k = 2 ∨ k = 3 ∨ k = 4 ∨ k = 5 → zin (i + k) L) (K : ∀ h2, Inv h2 (u + 100) → zGA p l e room_1 s m args below meth c Q 7 D cA base zh0 1565 (lwLO base b i) [] h2) : zGA p l e room_1 s m args below meth c Q 7 D cA base zh0 1230 (lwLO base b i) [] h := by
  obtain ⟨o, h1, h2, e1, e2, inv2⟩ := op_mean (b := decide (¬ xs (i + 3).toNatClampNeg = 0)) inv hu (toR (xs (i + 1).toNatClampNeg)) (toR (xs (i + 2).toNatClampNeg))
  simp only [toI] at e1 e2
  have k0 := inv.k0
  have k76 := kx_mean e2
  refine a_aload_n X 3 dL_law_1230 rfl ?_
  refine ax_arg X hb (v := 1) dL_law_1231 dL_law_1232 dL_law_1234 dL_law_1235 dL_law_1236 (by decide) (hz 1 (by decide)) ?_
  refine ax_arg X hb (v := 2) dL_law_1237 dL_law_1238 dL_law_1240 dL_law_1241 dL_law_1242 (by decide) (hz 2 (by decide)) ?_
  refine ax_bool X hb (v := 3) dL_law_1243 dL_law_1244 dL_law_1246 dL_law_1247 dL_law_1248 dL_law_1249 dL_law_1252 dL_law_1253 dL_law_1256 (by decide) (hz 3 (by decide)) (by decide) (by decide) ?_
  refine a_callVA X r 3 (sX10_mean e1) zf10 k0 ydX10_mean w_ml_RL_157 w_instanceMethod_X10_mean w_sel_X10_mean w_ini_RX10 w_code_X10_mean (by decide) rfl (st := []) rfl rfl (Nat.le_of_ble_eq_true rfl) dL_law_1257 ?_
  refine a_aload_n X 2 dL_law_1260 rfl ?_
  refine ax_arg X hb (v := 1) dL_law_1261 dL_law_1262 dL_law_1264 dL_law_1265 dL_law_1266 (by decide) (hz 1 (by decide)) ?_
  refine ax_arg X hb (v := 2) dL_law_1267 dL_law_1268 dL_law_1270 dL_law_1271 dL_law_1272 (by decide) (hz 2 (by decide)) ?_
  refine ax_bool X hb (v := 3) dL_law_1273 dL_law_1274 dL_law_1276 dL_law_1277 dL_law_1278 dL_law_1279 dL_law_1282 dL_law_1283 dL_law_1286 (by decide) (hz 3 (by decide)) (by decide) (by decide) ?_
  refine a_callV X r 3 (sX12_mean e2) zf12 k76 ydX12_mean w_ml_RL_161 w_instanceMethod_X12_mean w_sel_X12_mean w_ini_RX12 w_code_X12_mean (by decide) rfl (st := [.int o]) rfl rfl (Nat.le_of_ble_eq_true rfl) dL_law_1287 ?_
  exact a_icmp_eq X 1565 dL_law_1290 (by decide) (fun _ => K h2 inv2) (fun hn => absurd rfl hn)
set_option maxRecDepth 100000 in
theorem lc_34 {p : Program} {l : Launch} {e : Env} {s : State} {m : MethodId} {args : Array Value} {below : List Frame} {meth : Method} {c : Code} {Q : State → Prop} {D : va_G} {cA : Nat → ClassId} {base : Nat} {sA : Nat → Nat} {b L : Nat} {xs : Nat → Int32} {i : Int32} {h : Zh} {u : Nat} (X : zX p s m args meth c cL_law RL 7 D cA base sA) (r : zRm room_1 s D cA base zh0) (hb : base = s.heap.size ∧ b < s.heap.size ∧ va_X b L xs s s.heap) (inv : Inv h u) (hu : u ≤ 59000) (hz : ∀ k : Int32, k = 1 ∨ k = 2 ∨ k = 3 ∨ k = 4 ∨ k = 5 → zin (i + k) L) (K : ∀ h2, Inv h2 (u + 100) → zGA p l e room_1 s m args below meth c Q 7 D cA base zh0 1565 (lwLO base b i) [] h2) : zGA p l e room_1 s m args below meth c Q 7 D cA base zh0 1295 (lwLO base b i) [] h := by
  obtain ⟨o, h1, h2, e1, e2, inv2⟩ := op_hardest inv hu
  have k0 := inv.k0
  have k76 := kx_hardest e2
  refine a_aload_n X 3 dL_law_1295 rfl ?_
  refine a_callVA X r 0 (sX10_hardest e1) zf10 k0 ydX10_hardest w_ml_RL_162 w_instanceMethod_X10_hardest w_sel_X10_hardest w_ini_RX10 w_code_X10_hardest (by decide) rfl (st := []) rfl rfl (Nat.le_of_ble_eq_true rfl) dL_law_1296 ?_
  refine a_aload_n X 2 dL_law_1299 rfl ?_
  refine a_callV X r 0 (sX12_hardest e2) zf12 k76 ydX12_hardest w_ml_RL_165 w_instanceMethod_X12_hardest w_sel_X12_hardest w_ini_RX12 w_code_X12_hardest (by decide) rfl (st := [.int o]) rfl rfl (Nat.le_of_ble_eq_true rfl) dL_law_1300 ?_
  exact a_icmp_eq X 1565 dL_law_1303 (by decide) (fun _ => K h2 inv2) (fun hn => absurd rfl hn)
set_option maxRecDepth 100000 in
theorem lc_35 {p : Program} {l : Launch} {e : Env} {s : State} {m : MethodId} {args : Array Value} {below : List Frame} {meth : Method} {c : Code} {Q : State → Prop} {D : va_G} {cA : Nat → ClassId} {base : Nat} {sA : Nat → Nat} {b L : Nat} {xs : Nat → Int32} {i : Int32} {h : Zh} {u : Nat} (X : zX p s m args meth c cL_law RL 7 D cA base sA) (r : zRm room_1 s D cA base zh0) (hb : base = s.heap.size ∧ b < s.heap.size ∧ va_X b L xs s s.heap) (inv : Inv h u) (hu : u ≤ 59000) (hz : ∀ k : Int32, k = 1 ∨ k = 2 ∨ k = 3 ∨ k = 4 ∨ k = 5 → zin (i + k) L) (K : ∀ h2, Inv h2 (u + 100) → zGA p l e room_1 s m args below meth c Q 7 D cA base zh0 1565 (lwLO base b i) [] h2) : zGA p l e room_1 s m args below meth c Q 7 D cA base zh0 1308 (lwLO base b i) [] h := by
  obtain ⟨o, h1, h2, e1, e2, inv2⟩ := op_shows inv hu (toR (xs (i + 1).toNatClampNeg)) (toR (xs (i + 2).toNatClampNeg))
  simp only [toI] at e1 e2
  have k0 := inv.k0
  have k76 := kx_shows e2
  refine a_aload_n X 3 dL_law_1308 rfl ?_
  refine ax_arg X hb (v := 1) dL_law_1309 dL_law_1310 dL_law_1312 dL_law_1313 dL_law_1314 (by decide) (hz 1 (by decide)) ?_
  refine ax_arg X hb (v := 2) dL_law_1315 dL_law_1316 dL_law_1318 dL_law_1319 dL_law_1320 (by decide) (hz 2 (by decide)) ?_
  refine a_callVA X r 2 (sX10_shows e1) zf10 k0 ydX10_shows w_ml_RL_166 w_instanceMethod_X10_shows w_sel_X10_shows w_ini_RX10 w_code_X10_shows (by decide) rfl (st := []) rfl rfl (Nat.le_of_ble_eq_true rfl) dL_law_1321 ?_
  refine a_aload_n X 2 dL_law_1324 rfl ?_
  refine ax_arg X hb (v := 1) dL_law_1325 dL_law_1326 dL_law_1328 dL_law_1329 dL_law_1330 (by decide) (hz 1 (by decide)) ?_
  refine ax_arg X hb (v := 2) dL_law_1331 dL_law_1332 dL_law_1334 dL_law_1335 dL_law_1336 (by decide) (hz 2 (by decide)) ?_
  refine a_callV X r 2 (sX12_shows e2) zf12 k76 ydX12_shows w_ml_RL_169 w_instanceMethod_X12_shows w_sel_X12_shows w_ini_RX12 w_code_X12_shows (by decide) rfl (st := [.int o]) rfl rfl (Nat.le_of_ble_eq_true rfl) dL_law_1337 ?_
  exact a_icmp_eq X 1565 dL_law_1340 (by decide) (fun _ => K h2 inv2) (fun hn => absurd rfl hn)
set_option maxRecDepth 100000 in
theorem lc_36 {p : Program} {l : Launch} {e : Env} {s : State} {m : MethodId} {args : Array Value} {below : List Frame} {meth : Method} {c : Code} {Q : State → Prop} {D : va_G} {cA : Nat → ClassId} {base : Nat} {sA : Nat → Nat} {b L : Nat} {xs : Nat → Int32} {i : Int32} {h : Zh} {u : Nat} (X : zX p s m args meth c cL_law RL 7 D cA base sA) (r : zRm room_1 s D cA base zh0) (hb : base = s.heap.size ∧ b < s.heap.size ∧ va_X b L xs s s.heap) (inv : Inv h u) (hu : u ≤ 59000) (hz : ∀ k : Int32, k = 1 ∨ k = 2 ∨ k = 3 ∨ k = 4 ∨ k = 5 → zin (i + k) L) (K : ∀ h2, Inv h2 (u + 100) → zGA p l e room_1 s m args below meth c Q 7 D cA base zh0 1565 (lwLO base b i) [] h2) : zGA p l e room_1 s m args below meth c Q 7 D cA base zh0 1345 (lwLO base b i) [] h := by
  obtain ⟨o, h1, h2, e1, e2, inv2⟩ := op_seed inv hu (toR (xs (i + 1).toNatClampNeg))
  simp only [toI] at e1 e2
  have k0 := inv.k0
  have k76 := kx_seed e2
  refine a_aload_n X 3 dL_law_1345 rfl ?_
  refine ax_arg X hb (v := 1) dL_law_1346 dL_law_1347 dL_law_1349 dL_law_1350 dL_law_1351 (by decide) (hz 1 (by decide)) ?_
  refine a_callV X r 1 (sX10_seed e1) zf10 k0 ydX10_seed w_ml_RL_170 w_instanceMethod_X10_seed w_sel_X10_seed w_ini_RX10 w_code_X10_seed (by decide) rfl (st := []) rfl rfl (Nat.le_of_ble_eq_true rfl) dL_law_1352 ?_
  refine a_aload_n X 2 dL_law_1355 rfl ?_
  refine ax_arg X hb (v := 1) dL_law_1356 dL_law_1357 dL_law_1359 dL_law_1360 dL_law_1361 (by decide) (hz 1 (by decide)) ?_
  refine a_callV X r 1 (sX12_seed e2) zf12 k76 ydX12_seed w_ml_RL_174 w_instanceMethod_X12_seed w_sel_X12_seed w_ini_RX12 w_code_X12_seed (by decide) rfl (st := [.int o]) rfl rfl (Nat.le_of_ble_eq_true rfl) dL_law_1362 ?_
  exact a_icmp_eq X 1565 dL_law_1365 (by decide) (fun _ => K h2 inv2) (fun hn => absurd rfl hn)
set_option maxRecDepth 100000 in
theorem lc_37 {p : Program} {l : Launch} {e : Env} {s : State} {m : MethodId} {args : Array Value} {below : List Frame} {meth : Method} {c : Code} {Q : State → Prop} {D : va_G} {cA : Nat → ClassId} {base : Nat} {sA : Nat → Nat} {b L : Nat} {xs : Nat → Int32} {i : Int32} {h : Zh} {u : Nat} (X : zX p s m args meth c cL_law RL 7 D cA base sA) (r : zRm room_1 s D cA base zh0) (hb : base = s.heap.size ∧ b < s.heap.size ∧ va_X b L xs s s.heap) (inv : Inv h u) (hu : u ≤ 59000) (hz : ∀ k : Int32, k = 1 ∨ k = 2 ∨ k = 3 ∨ k = 4 ∨ k = 5 → zin (i + k) L) (K : ∀ h2, Inv h2 (u + 100) → zGA p l e room_1 s m args below meth c Q 7 D cA base zh0 1565 (lwLO base b i) [] h2) : zGA p l e room_1 s m args below meth c Q 7 D cA base zh0 1370 (lwLO base b i) [] h := by
  obtain ⟨o, h1, h2, e1, e2, inv2⟩ := op_draw inv hu
  have k0 := inv.k0
  have k76 := kx_draw e2
  refine a_aload_n X 3 dL_law_1370 rfl ?_
  refine a_callV X r 0 (sX10_draw e1) zf10 k0 ydX10_draw w_ml_RL_175 w_instanceMethod_X10_draw w_sel_X10_draw w_ini_RX10 w_code_X10_draw (by decide) rfl (st := []) rfl rfl (Nat.le_of_ble_eq_true rfl) dL_law_1371 ?_
  refine a_aload_n X 2 dL_law_1374 rfl ?_
  refine a_callV X r 0 (sX12_draw e2) zf12 k76 ydX12_draw w_ml_RL_178 w_instanceMethod_X12_draw w_sel_X12_draw w_ini_RX12 w_code_X12_draw (by decide) rfl (st := [.int o]) rfl rfl (Nat.le_of_ble_eq_true rfl) dL_law_1375 ?_
  exact a_icmp_eq X 1565 dL_law_1378 (by decide) (fun _ => K h2 inv2) (fun hn => absurd rfl hn)
set_option maxRecDepth 100000 in
theorem lc_38 {p : Program} {l : Launch} {e : Env} {s : State} {m : MethodId} {args : Array Value} {below : List Frame} {meth : Method} {c : Code} {Q : State → Prop} {D : va_G} {cA : Nat → ClassId} {base : Nat} {sA : Nat → Nat} {b L : Nat} {xs : Nat → Int32} {i : Int32} {h : Zh} {u : Nat} (X : zX p s m args meth c cL_law RL 7 D cA base sA) (r : zRm room_1 s D cA base zh0) (hb : base = s.heap.size ∧ b < s.heap.size ∧ va_X b L xs s s.heap) (inv : Inv h u) (hu : u ≤ 59000) (hz : ∀ k : Int32, k = 1 ∨ k = 2 ∨ k = 3 ∨ k = 4 ∨ k = 5 → zin (i + k) L) (K : ∀ h2, Inv h2 (u + 100) → zGA p l e room_1 s m args below meth c Q 7 D cA base zh0 1565 (lwLO base b i) [] h2) : zGA p l e room_1 s m args below meth c Q 7 D cA base zh0 1383 (lwLO base b i) [] h := by
  obtain ⟨o, h1, h2, e1, e2, inv2⟩ := op_strike inv hu
  have k0 := inv.k0
  have k76 := kx_strike e2
  refine a_aload_n X 3 dL_law_1383 rfl ?_
  refine a_callV X r 0 (sX10_strike e1) zf10 k0 ydX10_strike w_ml_RL_179 w_instanceMethod_X10_strike w_sel_X10_strike w_ini_RX10 w_code_X10_strike (by decide) rfl (st := []) rfl rfl (Nat.le_of_ble_eq_true rfl) dL_law_1384 ?_
  refine a_aload_n X 2 dL_law_1387 rfl ?_
  refine a_callV X r 0 (sX12_strike e2) zf12 k76 ydX12_strike w_ml_RL_183 w_instanceMethod_X12_strike w_sel_X12_strike w_ini_RX12 w_code_X12_strike (by decide) rfl (st := [.int o]) rfl rfl (Nat.le_of_ble_eq_true rfl) dL_law_1388 ?_
  exact a_icmp_eq X 1565 dL_law_1391 (by decide) (fun _ => K h2 inv2) (fun hn => absurd rfl hn)
set_option maxRecDepth 100000 in
theorem lc_39 {p : Program} {l : Launch} {e : Env} {s : State} {m : MethodId} {args : Array Value} {below : List Frame} {meth : Method} {c : Code} {Q : State → Prop} {D : va_G} {cA : Nat → ClassId} {base : Nat} {sA : Nat → Nat} {b L : Nat} {xs : Nat → Int32} {i : Int32} {h : Zh} {u : Nat} (X : zX p s m args meth c cL_law RL 7 D cA base sA) (r : zRm room_1 s D cA base zh0) (hb : base = s.heap.size ∧ b < s.heap.size ∧ va_X b L xs s s.heap) (inv : Inv h u) (hu : u ≤ 59000) (hz : ∀ k : Int32, k = 1 ∨ k = 2 ∨ k = 3 ∨ k = 4 ∨ k = 5 → zin (i + k) L) (K : ∀ h2, Inv h2 (u + 100) → zGA p l e room_1 s m args below meth c Q 7 D cA base zh0 1565 (lwLO base b i) [] h2) : zGA p l e room_1 s m args below meth c Q 7 D cA base zh0 1396 (lwLO base b i) [] h := by
  obtain ⟨o, h1, h2, e1, e2, inv2⟩ := op_image inv hu
  have k0 := inv.k0
  have k76 := kx_image e2
  refine a_aload_n X 3 dL_law_1396 rfl ?_
  refine a_callV X r 0 (sX10_image e1) zf10 k0 ydX10_image w_ml_RL_184 w_instanceMethod_X10_image w_sel_X10_image w_ini_RX10 w_code_X10_image (by decide) rfl (st := []) rfl rfl (Nat.le_of_ble_eq_true rfl) dL_law_1397 ?_
  refine a_aload_n X 2 dL_law_1400 rfl ?_
  refine a_callV X r 0 (sX12_image e2) zf12 k76 ydX12_image w_ml_RL_187 w_instanceMethod_X12_image w_sel_X12_image w_ini_RX12 w_code_X12_image (by decide) rfl (st := [.int o]) rfl rfl (Nat.le_of_ble_eq_true rfl) dL_law_1401 ?_
  exact a_icmp_eq X 1565 dL_law_1404 (by decide) (fun _ => K h2 inv2) (fun hn => absurd rfl hn)
set_option maxRecDepth 100000 in
theorem lc_40 {p : Program} {l : Launch} {e : Env} {s : State} {m : MethodId} {args : Array Value} {below : List Frame} {meth : Method} {c : Code} {Q : State → Prop} {D : va_G} {cA : Nat → ClassId} {base : Nat} {sA : Nat → Nat} {b L : Nat} {xs : Nat → Int32} {i : Int32} {h : Zh} {u : Nat} (X : zX p s m args meth c cL_law RL 7 D cA base sA) (r : zRm room_1 s D cA base zh0) (hb : base = s.heap.size ∧ b < s.heap.size ∧ va_X b L xs s s.heap) (inv : Inv h u) (hu : u ≤ 59000) (hz : ∀ k : Int32, k = 1 ∨ k = 2 ∨ k = 3 ∨ k = 4 ∨ k = 5 → zin (i + k) L) (K : ∀ h2, Inv h2 (u + 100) → zGA p l e room_1 s m args below meth c Q 7 D cA base zh0 1565 (lwLO base b i) [] h2) : zGA p l e room_1 s m args below meth c Q 7 D cA base zh0 1409 (lwLO base b i) [] h := by
  obtain ⟨o, h1, h2, e1, e2, inv2⟩ := op_back inv hu (toR (xs (i + 1).toNatClampNeg))
  simp only [toI] at e1 e2
  have k0 := inv.k0
  have k76 := kx_back e2
  refine a_aload_n X 3 dL_law_1409 rfl ?_
  refine ax_arg X hb (v := 1) dL_law_1410 dL_law_1411 dL_law_1413 dL_law_1414 dL_law_1415 (by decide) (hz 1 (by decide)) ?_
  refine a_callV X r 1 (sX10_back e1) zf10 k0 ydX10_back w_ml_RL_188 w_instanceMethod_X10_back w_sel_X10_back w_ini_RX10 w_code_X10_back (by decide) rfl (st := []) rfl rfl (Nat.le_of_ble_eq_true rfl) dL_law_1416 ?_
  refine a_aload_n X 2 dL_law_1419 rfl ?_
  refine ax_arg X hb (v := 1) dL_law_1420 dL_law_1421 dL_law_1423 dL_law_1424 dL_law_1425 (by decide) (hz 1 (by decide)) ?_
  refine a_callV X r 1 (sX12_back e2) zf12 k76 ydX12_back w_ml_RL_191 w_instanceMethod_X12_back w_sel_X12_back w_ini_RX12 w_code_X12_back (by decide) rfl (st := [.int o]) rfl rfl (Nat.le_of_ble_eq_true rfl) dL_law_1426 ?_
  exact a_icmp_eq X 1565 dL_law_1429 (by decide) (fun _ => K h2 inv2) (fun hn => absurd rfl hn)
set_option maxRecDepth 100000 in
theorem lc_42 {p : Program} {l : Launch} {e : Env} {s : State} {m : MethodId} {args : Array Value} {below : List Frame} {meth : Method} {c : Code} {Q : State → Prop} {D : va_G} {cA : Nat → ClassId} {base : Nat} {sA : Nat → Nat} {b L : Nat} {xs : Nat → Int32} {i : Int32} {h : Zh} {u : Nat} (X : zX p s m args meth c cL_law RL 7 D cA base sA) (r : zRm room_1 s D cA base zh0) (hb : base = s.heap.size ∧ b < s.heap.size ∧ va_X b L xs s s.heap) (inv : Inv h u) (hu : u ≤ 59000) (hz : ∀ k : Int32, k = 1 ∨ k = 2 ∨ k = 3 ∨ k = 4 ∨ k = 5 → zin (i + k) L) (K : ∀ h2, Inv h2 (u + 100) → zGA p l e room_1 s m args below meth c Q 7 D cA base zh0 1565 (lwLO base b i) [] h2) : zGA p l e room_1 s m args below meth c Q 7 D cA base zh0 1502 (lwLO base b i) [] h := by
  obtain ⟨o, h1, h2, e1, e2, inv2⟩ := op_size inv hu (toR (xs (i + 1).toNatClampNeg))
  simp only [toI] at e1 e2
  have k0 := inv.k0
  have k76 := kx_size e2
  refine a_aload_n X 3 dL_law_1502 rfl ?_
  refine ax_arg X hb (v := 1) dL_law_1503 dL_law_1504 dL_law_1506 dL_law_1507 dL_law_1508 (by decide) (hz 1 (by decide)) ?_
  refine a_callV X r 1 (sX10_size e1) zf10 k0 ydX10_size w_ml_RL_201 w_instanceMethod_X10_size w_sel_X10_size w_ini_RX10 w_code_X10_size (by decide) rfl (st := []) rfl rfl (Nat.le_of_ble_eq_true rfl) dL_law_1509 ?_
  refine a_aload_n X 2 dL_law_1512 rfl ?_
  refine ax_arg X hb (v := 1) dL_law_1513 dL_law_1514 dL_law_1516 dL_law_1517 dL_law_1518 (by decide) (hz 1 (by decide)) ?_
  refine a_callV X r 1 (sX12_size e2) zf12 k76 ydX12_size w_ml_RL_204 w_instanceMethod_X12_size w_sel_X12_size w_ini_RX12 w_code_X12_size (by decide) rfl (st := [.int o]) rfl rfl (Nat.le_of_ble_eq_true rfl) dL_law_1519 ?_
  exact a_icmp_eq X 1565 dL_law_1522 (by decide) (fun _ => K h2 inv2) (fun hn => absurd rfl hn)
set_option maxRecDepth 100000 in
theorem lc_43 {p : Program} {l : Launch} {e : Env} {s : State} {m : MethodId} {args : Array Value} {below : List Frame} {meth : Method} {c : Code} {Q : State → Prop} {D : va_G} {cA : Nat → ClassId} {base : Nat} {sA : Nat → Nat} {b L : Nat} {xs : Nat → Int32} {i : Int32} {h : Zh} {u : Nat} (X : zX p s m args meth c cL_law RL 7 D cA base sA) (r : zRm room_1 s D cA base zh0) (hb : base = s.heap.size ∧ b < s.heap.size ∧ va_X b L xs s s.heap) (inv : Inv h u) (hu : u ≤ 59000) (hz : ∀ k : Int32, k = 1 ∨ k = 2 ∨ k = 3 ∨ k = 4 ∨ k = 5 → zin (i + k) L) (K : ∀ h2, Inv h2 (u + 100) → zGA p l e room_1 s m args below meth c Q 7 D cA base zh0 1565 (lwLO base b i) [] h2) : zGA p l e room_1 s m args below meth c Q 7 D cA base zh0 1527 (lwLO base b i) [] h := by
  obtain ⟨o, h1, h2, e1, e2, inv2⟩ := op_words inv hu (toR (xs (i + 1).toNatClampNeg))
  simp only [toI] at e1 e2
  have k0 := inv.k0
  have k76 := kx_words e2
  refine a_aload_n X 3 dL_law_1527 rfl ?_
  refine ax_arg X hb (v := 1) dL_law_1528 dL_law_1529 dL_law_1531 dL_law_1532 dL_law_1533 (by decide) (hz 1 (by decide)) ?_
  refine a_callV X r 1 (sX10_words e1) zf10 k0 ydX10_words w_ml_RL_205 w_instanceMethod_X10_words w_sel_X10_words w_ini_RX10 w_code_X10_words (by decide) rfl (st := []) rfl rfl (Nat.le_of_ble_eq_true rfl) dL_law_1534 ?_
  refine a_aload_n X 2 dL_law_1537 rfl ?_
  refine ax_arg X hb (v := 1) dL_law_1538 dL_law_1539 dL_law_1541 dL_law_1542 dL_law_1543 (by decide) (hz 1 (by decide)) ?_
  refine a_callV X r 1 (sX12_words e2) zf12 k76 ydX12_words w_ml_RL_208 w_instanceMethod_X12_words w_sel_X12_words w_ini_RX12 w_code_X12_words (by decide) rfl (st := [.int o]) rfl rfl (Nat.le_of_ble_eq_true rfl) dL_law_1544 ?_
  exact a_icmp_eq X 1565 dL_law_1547 (by decide) (fun _ => K h2 inv2) (fun hn => absurd rfl hn)
set_option maxRecDepth 100000 in
theorem lc_44 {p : Program} {l : Launch} {e : Env} {s : State} {m : MethodId} {args : Array Value} {below : List Frame} {meth : Method} {c : Code} {Q : State → Prop} {D : va_G} {cA : Nat → ClassId} {base : Nat} {sA : Nat → Nat} {b L : Nat} {xs : Nat → Int32} {i : Int32} {h : Zh} {u : Nat} (X : zX p s m args meth c cL_law RL 7 D cA base sA) (r : zRm room_1 s D cA base zh0) (hb : base = s.heap.size ∧ b < s.heap.size ∧ va_X b L xs s s.heap) (inv : Inv h u) (hu : u ≤ 59000) (hz : ∀ k : Int32, k = 1 ∨ k = 2 ∨ k = 3 ∨ k = 4 ∨ k = 5 → zin (i + k) L) (K : ∀ h2, Inv h2 (u + 100) → zGA p l e room_1 s m args below meth c Q 7 D cA base zh0 1565 (lwLO base b i) [] h2) : zGA p l e room_1 s m args below meth c Q 7 D cA base zh0 1552 (lwLO base b i) [] h := by
  obtain ⟨o, h1, h2, e1, e2, inv2⟩ := op_trouble inv hu
  have k0 := inv.k0
  have k76 := kx_trouble e2
  refine a_aload_n X 3 dL_law_1552 rfl ?_
  refine a_callV X r 0 (sX10_trouble e1) zf10 k0 ydX10_trouble w_ml_RL_209 w_instanceMethod_X10_trouble w_sel_X10_trouble w_ini_RX10 w_code_X10_trouble (by decide) rfl (st := []) rfl rfl (Nat.le_of_ble_eq_true rfl) dL_law_1553 ?_
  refine a_aload_n X 2 dL_law_1556 rfl ?_
  refine a_callV X r 0 (sX12_trouble e2) zf12 k76 ydX12_trouble w_ml_RL_212 w_instanceMethod_X12_trouble w_sel_X12_trouble w_ini_RX12 w_code_X12_trouble (by decide) rfl (st := [.int o]) rfl rfl (Nat.le_of_ble_eq_true rfl) dL_law_1557 ?_
  exact a_icmp_eq X 1565 dL_law_1560 (by decide) (fun _ => K h2 inv2) (fun hn => absurd rfl hn)
