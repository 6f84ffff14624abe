/-! the law: its cases -/
set_option maxRecDepth 100000 in
theorem lc_0 {p : Program} {l : Launch} {e : Env} {s : State} {m : MethodId} {args : Array Value} {below : List Frame} {meth : Method} {c : Code} {Q : State → Prop} {D : va_G} {cA : Nat → ClassId} {base : Nat} {sA : Nat → Nat} {b L : Nat} {xs : Nat → Int32} {i : Int32} {h : Zh} {u : Nat} (X : zX p s m args meth c cL_law RL 7 D cA base sA) (r : zRm room_1 s D cA base zh0) (hb : base = s.heap.size ∧ b < s.heap.size ∧ va_X b L xs s s.heap) (inv : Inv h u) (hu : u ≤ 59000) (hz : ∀ k : Int32, k = 1 ∨ k = 2 ∨ k = 3 ∨ k = 4 ∨ k = 5 → zin (i + k) L) (K : ∀ h2, Inv h2 (u + 100) → zGA p l e room_1 s m args below meth c Q 7 D cA base zh0 1565 (lwLO base b i) [] h2) : zGA p l e room_1 s m args below meth c Q 7 D cA base zh0 236 (lwLO base b i) [] h := by
  obtain ⟨o, h1, h2, e1, e2, inv2⟩ := op_feed (a := (xs (i + 1).toNatClampNeg)) (b := (xs (i + 2).toNatClampNeg)) (c := (xs (i + 3).toNatClampNeg)) (d := (xs (i + 4).toNatClampNeg)) (e := (xs (i + 5).toNatClampNeg)) inv hu
  have k0 := inv.k0
  have k76 := kx_feed e2
  refine a_aload_n X 3 dL_law_236 rfl ?_
  refine ax_arg X hb (v := 1) dL_law_237 dL_law_238 dL_law_240 dL_law_241 dL_law_242 (by decide) (hz 1 (by decide)) ?_
  refine ax_arg X hb (v := 2) dL_law_243 dL_law_244 dL_law_246 dL_law_247 dL_law_248 (by decide) (hz 2 (by decide)) ?_
  refine ax_arg X hb (v := 3) dL_law_249 dL_law_250 dL_law_252 dL_law_253 dL_law_254 (by decide) (hz 3 (by decide)) ?_
  refine ax_arg X hb (v := 4) dL_law_255 dL_law_256 dL_law_258 dL_law_259 dL_law_260 (by decide) (hz 4 (by decide)) ?_
  refine ax_arg X hb (v := 5) dL_law_261 dL_law_262 dL_law_264 dL_law_265 dL_law_266 (by decide) (hz 5 (by decide)) ?_
  refine a_callV X r 5 (sX10_feed e1) zf10 k0 ydX10_feed w_ml_RL_19 w_instanceMethod_X10_feed w_sel_X10_feed w_ini_RX10 w_code_X10_feed (by decide) rfl (st := []) rfl rfl (Nat.le_of_ble_eq_true rfl) dL_law_267 ?_
  refine a_aload_n X 2 dL_law_270 rfl ?_
  refine ax_arg X hb (v := 1) dL_law_271 dL_law_272 dL_law_274 dL_law_275 dL_law_276 (by decide) (hz 1 (by decide)) ?_
  refine ax_arg X hb (v := 2) dL_law_277 dL_law_278 dL_law_280 dL_law_281 dL_law_282 (by decide) (hz 2 (by decide)) ?_
  refine ax_arg X hb (v := 3) dL_law_283 dL_law_284 dL_law_286 dL_law_287 dL_law_288 (by decide) (hz 3 (by decide)) ?_
  refine ax_arg X hb (v := 4) dL_law_289 dL_law_290 dL_law_292 dL_law_293 dL_law_294 (by decide) (hz 4 (by decide)) ?_
  refine ax_arg X hb (v := 5) dL_law_295 dL_law_296 dL_law_298 dL_law_299 dL_law_300 (by decide) (hz 5 (by decide)) ?_
  refine a_callV X r 5 (sX12_feed e2) zf12 k76 ydX12_feed w_ml_RL_23 w_instanceMethod_X12_feed w_sel_X12_feed w_ini_RX12 w_code_X12_feed (by decide) rfl (st := [.int o]) rfl rfl (Nat.le_of_ble_eq_true rfl) dL_law_301 ?_
  exact a_icmp_eq X 1565 dL_law_304 (by decide) (fun _ => K h2 inv2) (fun hn => absurd rfl hn)
set_option maxRecDepth 100000 in
theorem lc_1 {p : Program} {l : Launch} {e : Env} {s : State} {m : MethodId} {args : Array Value} {below : List Frame} {meth : Method} {c : Code} {Q : State → Prop} {D : va_G} {cA : Nat → ClassId} {base : Nat} {sA : Nat → Nat} {b L : Nat} {xs : Nat → Int32} {i : Int32} {h : Zh} {u : Nat} (X : zX p s m args meth c cL_law RL 7 D cA base sA) (r : zRm room_1 s D cA base zh0) (hb : base = s.heap.size ∧ b < s.heap.size ∧ va_X b L xs s s.heap) (inv : Inv h u) (hu : u ≤ 59000) (hz : ∀ k : Int32, k = 1 ∨ k = 2 ∨ k = 3 ∨ k = 4 ∨ k = 5 → zin (i + k) L) (K : ∀ h2, Inv h2 (u + 100) → zGA p l e room_1 s m args below meth c Q 7 D cA base zh0 1565 (lwLO base b i) [] h2) : zGA p l e room_1 s m args below meth c Q 7 D cA base zh0 309 (lwLO base b i) [] h := by
  obtain ⟨o, h1, h2, e1, e2, inv2⟩ := op_trick inv hu (toR (xs (i + 1).toNatClampNeg))
  simp only [toI] at e1 e2
  have k0 := inv.k0
  have k76 := kx_trick e2
  refine a_aload_n X 3 dL_law_309 rfl ?_
  refine ax_arg X hb (v := 1) dL_law_310 dL_law_311 dL_law_313 dL_law_314 dL_law_315 (by decide) (hz 1 (by decide)) ?_
  refine a_callV X r 1 (sX10_trick e1) zf10 k0 ydX10_trick w_ml_RL_24 w_instanceMethod_X10_trick w_sel_X10_trick w_ini_RX10 w_code_X10_trick (by decide) rfl (st := []) rfl rfl (Nat.le_of_ble_eq_true rfl) dL_law_316 ?_
  refine a_aload_n X 2 dL_law_319 rfl ?_
  refine ax_arg X hb (v := 1) dL_law_320 dL_law_321 dL_law_323 dL_law_324 dL_law_325 (by decide) (hz 1 (by decide)) ?_
  refine a_callVA X r 1 (sX12_trick e2) zf12 k76 ydX12_trick w_ml_RL_28 w_instanceMethod_X12_trick w_sel_X12_trick w_ini_RX12 w_code_X12_trick (by decide) rfl (st := [.int o]) rfl rfl (Nat.le_of_ble_eq_true rfl) dL_law_326 ?_
  exact a_icmp_eq X 1565 dL_law_329 (by decide) (fun _ => K h2 inv2) (fun hn => absurd rfl hn)
set_option maxRecDepth 100000 in
theorem lc_2 {p : Program} {l : Launch} {e : Env} {s : State} {m : MethodId} {args : Array Value} {below : List Frame} {meth : Method} {c : Code} {Q : State → Prop} {D : va_G} {cA : Nat → ClassId} {base : Nat} {sA : Nat → Nat} {b L : Nat} {xs : Nat → Int32} {i : Int32} {h : Zh} {u : Nat} (X : zX p s m args meth c cL_law RL 7 D cA base sA) (r : zRm room_1 s D cA base zh0) (hb : base = s.heap.size ∧ b < s.heap.size ∧ va_X b L xs s s.heap) (inv : Inv h u) (hu : u ≤ 59000) (hz : ∀ k : Int32, k = 1 ∨ k = 2 ∨ k = 3 ∨ k = 4 ∨ k = 5 → zin (i + k) L) (K : ∀ h2, Inv h2 (u + 100) → zGA p l e room_1 s m args below meth c Q 7 D cA base zh0 1565 (lwLO base b i) [] h2) : zGA p l e room_1 s m args below meth c Q 7 D cA base zh0 334 (lwLO base b i) [] h := by
  obtain ⟨o, h1, h2, e1, e2, inv2⟩ := op_fault inv hu
  have k0 := inv.k0
  have k76 := kx_fault e2
  refine a_aload_n X 3 dL_law_334 rfl ?_
  refine a_callV X r 0 (sX10_fault e1) zf10 k0 ydX10_fault w_ml_RL_29 w_instanceMethod_X10_fault w_sel_X10_fault w_ini_RX10 w_code_X10_fault (by decide) rfl (st := []) rfl rfl (Nat.le_of_ble_eq_true rfl) dL_law_335 ?_
  refine a_aload_n X 2 dL_law_338 rfl ?_
  refine a_callV X r 0 (sX12_fault e2) zf12 k76 ydX12_fault w_ml_RL_33 w_instanceMethod_X12_fault w_sel_X12_fault w_ini_RX12 w_code_X12_fault (by decide) rfl (st := [.int o]) rfl rfl (Nat.le_of_ble_eq_true rfl) dL_law_339 ?_
  exact a_icmp_eq X 1565 dL_law_342 (by decide) (fun _ => K h2 inv2) (fun hn => absurd rfl hn)
set_option maxRecDepth 100000 in
theorem lc_3 {p : Program} {l : Launch} {e : Env} {s : State} {m : MethodId} {args : Array Value} {below : List Frame} {meth : Method} {c : Code} {Q : State → Prop} {D : va_G} {cA : Nat → ClassId} {base : Nat} {sA : Nat → Nat} {b L : Nat} {xs : Nat → Int32} {i : Int32} {h : Zh} {u : Nat} (X : zX p s m args meth c cL_law RL 7 D cA base sA) (r : zRm room_1 s D cA base zh0) (hb : base = s.heap.size ∧ b < s.heap.size ∧ va_X b L xs s s.heap) (inv : Inv h u) (hu : u ≤ 59000) (hz : ∀ k : Int32, k = 1 ∨ k = 2 ∨ k = 3 ∨ k = 4 ∨ k = 5 → zin (i + k) L) (K : ∀ h2, Inv h2 (u + 100) → zGA p l e room_1 s m args below meth c Q 7 D cA base zh0 1565 (lwLO base b i) [] h2) : zGA p l e room_1 s m args below meth c Q 7 D cA base zh0 347 (lwLO base b i) [] h := by
  obtain ⟨o, h1, h2, e1, e2, inv2⟩ := op_where inv hu
  have k0 := inv.k0
  have k76 := kx_where e2
  refine a_aload_n X 3 dL_law_347 rfl ?_
  refine a_callV X r 0 (sX10_where e1) zf10 k0 ydX10_where w_ml_RL_34 w_instanceMethod_X10_where w_sel_X10_where w_ini_RX10 w_code_X10_where (by decide) rfl (st := []) rfl rfl (Nat.le_of_ble_eq_true rfl) dL_law_348 ?_
  refine a_aload_n X 2 dL_law_351 rfl ?_
  refine a_callV X r 0 (sX12_where e2) zf12 k76 ydX12_where w_ml_RL_37 w_instanceMethod_X12_where w_sel_X12_where w_ini_RX12 w_code_X12_where (by decide) rfl (st := [.int o]) rfl rfl (Nat.le_of_ble_eq_true rfl) dL_law_352 ?_
  exact a_icmp_eq X 1565 dL_law_355 (by decide) (fun _ => K h2 inv2) (fun hn => absurd rfl hn)
set_option maxRecDepth 100000 in
theorem lc_4 {p : Program} {l : Launch} {e : Env} {s : State} {m : MethodId} {args : Array Value} {below : List Frame} {meth : Method} {c : Code} {Q : State → Prop} {D : va_G} {cA : Nat → ClassId} {base : Nat} {sA : Nat → Nat} {b L : Nat} {xs : Nat → Int32} {i : Int32} {h : Zh} {u : Nat} (X : zX p s m args meth c cL_law RL 7 D cA base sA) (r : zRm room_1 s D cA base zh0) (hb : base = s.heap.size ∧ b < s.heap.size ∧ va_X b L xs s s.heap) (inv : Inv h u) (hu : u ≤ 59000) (hz : ∀ k : Int32, k = 1 ∨ k = 2 ∨ k = 3 ∨ k = 4 ∨ k = 5 → zin (i + k) L) (K : ∀ h2, Inv h2 (u + 100) → zGA p l e room_1 s m args below meth c Q 7 D cA base zh0 1565 (lwLO base b i) [] h2) : zGA p l e room_1 s m args below meth c Q 7 D cA base zh0 360 (lwLO base b i) [] h := by
  obtain ⟨o, h1, h2, e1, e2, inv2⟩ := op_hands inv hu
  have k0 := inv.k0
  have k76 := kx_hands e2
  refine a_aload_n X 3 dL_law_360 rfl ?_
  refine a_callV X r 0 (sX10_hands e1) zf10 k0 ydX10_hands w_ml_RL_38 w_instanceMethod_X10_hands w_sel_X10_hands w_ini_RX10 w_code_X10_hands (by decide) rfl (st := []) rfl rfl (Nat.le_of_ble_eq_true rfl) dL_law_361 ?_
  refine a_aload_n X 2 dL_law_364 rfl ?_
  refine a_callV X r 0 (sX12_hands e2) zf12 k76 ydX12_hands w_ml_RL_41 w_instanceMethod_X12_hands w_sel_X12_hands w_ini_RX12 w_code_X12_hands (by decide) rfl (st := [.int o]) rfl rfl (Nat.le_of_ble_eq_true rfl) dL_law_365 ?_
  exact a_icmp_eq X 1565 dL_law_368 (by decide) (fun _ => K h2 inv2) (fun hn => absurd rfl hn)
set_option maxRecDepth 100000 in
theorem lc_5 {p : Program} {l : Launch} {e : Env} {s : State} {m : MethodId} {args : Array Value} {below : List Frame} {meth : Method} {c : Code} {Q : State → Prop} {D : va_G} {cA : Nat → ClassId} {base : Nat} {sA : Nat → Nat} {b L : Nat} {xs : Nat → Int32} {i : Int32} {h : Zh} {u : Nat} (X : zX p s m args meth c cL_law RL 7 D cA base sA) (r : zRm room_1 s D cA base zh0) (hb : base = s.heap.size ∧ b < s.heap.size ∧ va_X b L xs s s.heap) (inv : Inv h u) (hu : u ≤ 59000) (hz : ∀ k : Int32, k = 1 ∨ k = 2 ∨ k = 3 ∨ k = 4 ∨ k = 5 → zin (i + k) L) (K : ∀ h2, Inv h2 (u + 100) → zGA p l e room_1 s m args below meth c Q 7 D cA base zh0 1565 (lwLO base b i) [] h2) : zGA p l e room_1 s m args below meth c Q 7 D cA base zh0 373 (lwLO base b i) [] h := by
  obtain ⟨o, h1, h2, e1, e2, inv2⟩ := op_rows inv hu
  have k0 := inv.k0
  have k76 := kx_rows e2
  refine a_aload_n X 3 dL_law_373 rfl ?_
  refine a_callV X r 0 (sX10_rows e1) zf10 k0 ydX10_rows w_ml_RL_42 w_instanceMethod_X10_rows w_sel_X10_rows w_ini_RX10 w_code_X10_rows (by decide) rfl (st := []) rfl rfl (Nat.le_of_ble_eq_true rfl) dL_law_374 ?_
  refine a_aload_n X 2 dL_law_377 rfl ?_
  refine a_callV X r 0 (sX12_rows e2) zf12 k76 ydX12_rows w_ml_RL_45 w_instanceMethod_X12_rows w_sel_X12_rows w_ini_RX12 w_code_X12_rows (by decide) rfl (st := [.int o]) rfl rfl (Nat.le_of_ble_eq_true rfl) dL_law_378 ?_
  exact a_icmp_eq X 1565 dL_law_381 (by decide) (fun _ => K h2 inv2) (fun hn => absurd rfl hn)
set_option maxRecDepth 100000 in
theorem lc_6 {p : Program} {l : Launch} {e : Env} {s : State} {m : MethodId} {args : Array Value} {below : List Frame} {meth : Method} {c : Code} {Q : State → Prop} {D : va_G} {cA : Nat → ClassId} {base : Nat} {sA : Nat → Nat} {b L : Nat} {xs : Nat → Int32} {i : Int32} {h : Zh} {u : Nat} (X : zX p s m args meth c cL_law RL 7 D cA base sA) (r : zRm room_1 s D cA base zh0) (hb : base = s.heap.size ∧ b < s.heap.size ∧ va_X b L xs s s.heap) (inv : Inv h u) (hu : u ≤ 59000) (hz : ∀ k : Int32, k = 1 ∨ k = 2 ∨ k = 3 ∨ k = 4 ∨ k = 5 → zin (i + k) L) (K : ∀ h2, Inv h2 (u + 100) → zGA p l e room_1 s m args below meth c Q 7 D cA base zh0 1565 (lwLO base b i) [] h2) : zGA p l e room_1 s m args below meth c Q 7 D cA base zh0 386 (lwLO base b i) [] h := by
  obtain ⟨o, h1, h2, e1, e2, inv2⟩ := op_hand inv hu (toR (xs (i + 1).toNatClampNeg)) (toR (xs (i + 2).toNatClampNeg))
  simp only [toI] at e1 e2
  have k0 := inv.k0
  have k76 := kx_hand e2
  refine a_aload_n X 3 dL_law_386 rfl ?_
  refine ax_arg X hb (v := 1) dL_law_387 dL_law_388 dL_law_390 dL_law_391 dL_law_392 (by decide) (hz 1 (by decide)) ?_
  refine ax_arg X hb (v := 2) dL_law_393 dL_law_394 dL_law_396 dL_law_397 dL_law_398 (by decide) (hz 2 (by decide)) ?_
  refine a_callV X r 2 (sX10_hand e1) zf10 k0 ydX10_hand w_ml_RL_46 w_instanceMethod_X10_hand w_sel_X10_hand w_ini_RX10 w_code_X10_hand (by decide) rfl (st := []) rfl rfl (Nat.le_of_ble_eq_true rfl) dL_law_399 ?_
  refine a_aload_n X 2 dL_law_402 rfl ?_
  refine ax_arg X hb (v := 1) dL_law_403 dL_law_404 dL_law_406 dL_law_407 dL_law_408 (by decide) (hz 1 (by decide)) ?_
  refine ax_arg X hb (v := 2) dL_law_409 dL_law_410 dL_law_412 dL_law_413 dL_law_414 (by decide) (hz 2 (by decide)) ?_
  refine a_callV X r 2 (sX12_hand e2) zf12 k76 ydX12_hand w_ml_RL_49 w_instanceMethod_X12_hand w_sel_X12_hand w_ini_RX12 w_code_X12_hand (by decide) rfl (st := [.int o]) rfl rfl (Nat.le_of_ble_eq_true rfl) dL_law_415 ?_
  exact a_icmp_eq X 1565 dL_law_418 (by decide) (fun _ => K h2 inv2) (fun hn => absurd rfl hn)
set_option maxRecDepth 100000 in
theorem lc_7 {p : Program} {l : Launch} {e : Env} {s : State} {m : MethodId} {args : Array Value} {below : List Frame} {meth : Method} {c : Code} {Q : State → Prop} {D : va_G} {cA : Nat → ClassId} {base : Nat} {sA : Nat → Nat} {b L : Nat} {xs : Nat → Int32} {i : Int32} {h : Zh} {u : Nat} (X : zX p s m args meth c cL_law RL 7 D cA base sA) (r : zRm room_1 s D cA base zh0) (hb : base = s.heap.size ∧ b < s.heap.size ∧ va_X b L xs s s.heap) (inv : Inv h u) (hu : u ≤ 59000) (hz : ∀ k : Int32, k = 1 ∨ k = 2 ∨ k = 3 ∨ k = 4 ∨ k = 5 → zin (i + k) L) (K : ∀ h2, Inv h2 (u + 100) → zGA p l e room_1 s m args below meth c Q 7 D cA base zh0 1565 (lwLO base b i) [] h2) : zGA p l e room_1 s m args below meth c Q 7 D cA base zh0 423 (lwLO base b i) [] h := by
  obtain ⟨o, h1, h2, e1, e2, inv2⟩ := op_handOf inv hu (toR (xs (i + 1).toNatClampNeg)) (toR (xs (i + 2).toNatClampNeg)) (toR (xs (i + 3).toNatClampNeg)) (toR (xs (i + 4).toNatClampNeg)) (toR (xs (i + 5).toNatClampNeg))
  simp only [toI] at e1 e2
  have k0 := inv.k0
  have k76 := kx_handOf e2
  refine a_aload_n X 3 dL_law_423 rfl ?_
  refine ax_arg X hb (v := 1) dL_law_424 dL_law_425 dL_law_427 dL_law_428 dL_law_429 (by decide) (hz 1 (by decide)) ?_
  refine ax_arg X hb (v := 2) dL_law_430 dL_law_431 dL_law_433 dL_law_434 dL_law_435 (by decide) (hz 2 (by decide)) ?_
  refine ax_arg X hb (v := 3) dL_law_436 dL_law_437 dL_law_439 dL_law_440 dL_law_441 (by decide) (hz 3 (by decide)) ?_
  refine ax_arg X hb (v := 4) dL_law_442 dL_law_443 dL_law_445 dL_law_446 dL_law_447 (by decide) (hz 4 (by decide)) ?_
  refine ax_arg X hb (v := 5) dL_law_448 dL_law_449 dL_law_451 dL_law_452 dL_law_453 (by decide) (hz 5 (by decide)) ?_
  refine a_callV X r 5 (sX10_handOf e1) zf10 k0 ydX10_handOf w_ml_RL_50 w_instanceMethod_X10_handOf w_sel_X10_handOf w_ini_RX10 w_code_X10_handOf (by decide) rfl (st := []) rfl rfl (Nat.le_of_ble_eq_true rfl) dL_law_454 ?_
  refine a_aload_n X 2 dL_law_457 rfl ?_
  refine ax_arg X hb (v := 1) dL_law_458 dL_law_459 dL_law_461 dL_law_462 dL_law_463 (by decide) (hz 1 (by decide)) ?_
  refine ax_arg X hb (v := 2) dL_law_464 dL_law_465 dL_law_467 dL_law_468 dL_law_469 (by decide) (hz 2 (by decide)) ?_
  refine ax_arg X hb (v := 3) dL_law_470 dL_law_471 dL_law_473 dL_law_474 dL_law_475 (by decide) (hz 3 (by decide)) ?_
  refine ax_arg X hb (v := 4) dL_law_476 dL_law_477 dL_law_479 dL_law_480 dL_law_481 (by decide) (hz 4 (by decide)) ?_
  refine ax_arg X hb (v := 5) dL_law_482 dL_law_483 dL_law_485 dL_law_486 dL_law_487 (by decide) (hz 5 (by decide)) ?_
  refine a_callV X r 5 (sX12_handOf e2) zf12 k76 ydX12_handOf w_ml_RL_53 w_instanceMethod_X12_handOf w_sel_X12_handOf w_ini_RX12 w_code_X12_handOf (by decide) rfl (st := [.int o]) rfl rfl (Nat.le_of_ble_eq_true rfl) dL_law_488 ?_
  exact a_icmp_eq X 1565 dL_law_491 (by decide) (fun _ => K h2 inv2) (fun hn => absurd rfl hn)
set_option maxRecDepth 100000 in
theorem lc_8 {p : Program} {l : Launch} {e : Env} {s : State} {m : MethodId} {args : Array Value} {below : List Frame} {meth : Method} {c : Code} {Q : State → Prop} {D : va_G} {cA : Nat → ClassId} {base : Nat} {sA : Nat → Nat} {b L : Nat} {xs : Nat → Int32} {i : Int32} {h : Zh} {u : Nat} (X : zX p s m args meth c cL_law RL 7 D cA base sA) (r : zRm room_1 s D cA base zh0) (hb : base = s.heap.size ∧ b < s.heap.size ∧ va_X b L xs s s.heap) (inv : Inv h u) (hu : u ≤ 59000) (hz : ∀ k : Int32, k = 1 ∨ k = 2 ∨ k = 3 ∨ k = 4 ∨ k = 5 → zin (i + k) L) (K : ∀ h2, Inv h2 (u + 100) → zGA p l e room_1 s m args below meth c Q 7 D cA base zh0 1565 (lwLO base b i) [] h2) : zGA p l e room_1 s m args below meth c Q 7 D cA base zh0 496 (lwLO base b i) [] h := by
  obtain ⟨o, h1, h2, e1, e2, inv2⟩ := op_row inv hu (toR (xs (i + 1).toNatClampNeg)) (toR (xs (i + 2).toNatClampNeg))
  simp only [toI] at e1 e2
  have k0 := inv.k0
  have k76 := kx_row e2
  refine a_aload_n X 3 dL_law_496 rfl ?_
  refine ax_arg X hb (v := 1) dL_law_497 dL_law_498 dL_law_500 dL_law_501 dL_law_502 (by decide) (hz 1 (by decide)) ?_
  refine ax_arg X hb (v := 2) dL_law_503 dL_law_504 dL_law_506 dL_law_507 dL_law_508 (by decide) (hz 2 (by decide)) ?_
  refine a_callV X r 2 (sX10_row e1) zf10 k0 ydX10_row w_ml_RL_54 w_instanceMethod_X10_row w_sel_X10_row w_ini_RX10 w_code_X10_row (by decide) rfl (st := []) rfl rfl (Nat.le_of_ble_eq_true rfl) dL_law_509 ?_
  refine a_aload_n X 2 dL_law_512 rfl ?_
  refine ax_arg X hb (v := 1) dL_law_513 dL_law_514 dL_law_516 dL_law_517 dL_law_518 (by decide) (hz 1 (by decide)) ?_
  refine ax_arg X hb (v := 2) dL_law_519 dL_law_520 dL_law_522 dL_law_523 dL_law_524 (by decide) (hz 2 (by decide)) ?_
  refine a_callV X r 2 (sX12_row e2) zf12 k76 ydX12_row w_ml_RL_57 w_instanceMethod_X12_row w_sel_X12_row w_ini_RX12 w_code_X12_row (by decide) rfl (st := [.int o]) rfl rfl (Nat.le_of_ble_eq_true rfl) dL_law_525 ?_
  exact a_icmp_eq X 1565 dL_law_528 (by decide) (fun _ => K h2 inv2) (fun hn => absurd rfl hn)
set_option maxRecDepth 100000 in
theorem lc_9 {p : Program} {l : Launch} {e : Env} {s : State} {m : MethodId} {args : Array Value} {below : List Frame} {meth : Method} {c : Code} {Q : State → Prop} {D : va_G} {cA : Nat → ClassId} {base : Nat} {sA : Nat → Nat} {b L : Nat} {xs : Nat → Int32} {i : Int32} {h : Zh} {u : Nat} (X : zX p s m args meth c cL_law RL 7 D cA base sA) (r : zRm room_1 s D cA base zh0) (hb : base = s.heap.size ∧ b < s.heap.size ∧ va_X b L xs s s.heap) (inv : Inv h u) (hu : u ≤ 59000) (hz : ∀ k : Int32, k = 1 ∨ k = 2 ∨ k = 3 ∨ k = 4 ∨ k = 5 → zin (i + k) L) (K : ∀ h2, Inv h2 (u + 100) → zGA p l e room_1 s m args below meth c Q 7 D cA base zh0 1565 (lwLO base b i) [] h2) : zGA p l e room_1 s m args below meth c Q 7 D cA base zh0 533 (lwLO base b i) [] h := by
  obtain ⟨o, h1, h2, e1, e2, inv2⟩ := op_tilted inv hu (toR (xs (i + 1).toNatClampNeg))
  simp only [toI] at e1 e2
  have k0 := inv.k0
  have k76 := kx_tilted e2
  refine a_aload_n X 3 dL_law_533 rfl ?_
  refine ax_arg X hb (v := 1) dL_law_534 dL_law_535 dL_law_537 dL_law_538 dL_law_539 (by decide) (hz 1 (by decide)) ?_
  refine a_callV X r 1 (sX10_tilted e1) zf10 k0 ydX10_tilted w_ml_RL_58 w_instanceMethod_X10_tilted w_sel_X10_tilted w_ini_RX10 w_code_X10_tilted (by decide) rfl (st := []) rfl rfl (Nat.le_of_ble_eq_true rfl) dL_law_540 ?_
  refine a_aload_n X 2 dL_law_543 rfl ?_
  refine ax_arg X hb (v := 1) dL_law_544 dL_law_545 dL_law_547 dL_law_548 dL_law_549 (by decide) (hz 1 (by decide)) ?_
  refine a_callV X r 1 (sX12_tilted e2) zf12 k76 ydX12_tilted w_ml_RL_61 w_instanceMethod_X12_tilted w_sel_X12_tilted w_ini_RX12 w_code_X12_tilted (by decide) rfl (st := [.int o]) rfl rfl (Nat.le_of_ble_eq_true rfl) dL_law_550 ?_
  exact a_icmp_eq X 1565 dL_law_553 (by decide) (fun _ => K h2 inv2) (fun hn => absurd rfl hn)
set_option maxRecDepth 100000 in
theorem lc_10 {p : Program} {l : Launch} {e : Env} {s : State} {m : MethodId} {args : Array Value} {below : List Frame} {meth : Method} {c : Code} {Q : State → Prop} {D : va_G} {cA : Nat → ClassId} {base : Nat} {sA : Nat → Nat} {b L : Nat} {xs : Nat → Int32} {i : Int32} {h : Zh} {u : Nat} (X : zX p s m args meth c cL_law RL 7 D cA base sA) (r : zRm room_1 s D cA base zh0) (hb : base = s.heap.size ∧ b < s.heap.size ∧ va_X b L xs s s.heap) (inv : Inv h u) (hu : u ≤ 59000) (hz : ∀ k : Int32, k = 1 ∨ k = 2 ∨ k = 3 ∨ k = 4 ∨ k = 5 → zin (i + k) L) (K : ∀ h2, Inv h2 (u + 100) → zGA p l e room_1 s m args below meth c Q 7 D cA base zh0 1565 (lwLO base b i) [] h2) : zGA p l e room_1 s m args below meth c Q 7 D cA base zh0 558 (lwLO base b i) [] h := by
  obtain ⟨o, h1, h2, e1, e2, inv2⟩ := op_fits inv hu (toR (xs (i + 1).toNatClampNeg)) (toR (xs (i + 2).toNatClampNeg))
  simp only [toI] at e1 e2
  have k0 := inv.k0
  have k76 := kx_fits e2
  refine a_aload_n X 3 dL_law_558 rfl ?_
  refine ax_arg X hb (v := 1) dL_law_559 dL_law_560 dL_law_562 dL_law_563 dL_law_564 (by decide) (hz 1 (by decide)) ?_
  refine ax_arg X hb (v := 2) dL_law_565 dL_law_566 dL_law_568 dL_law_569 dL_law_570 (by decide) (hz 2 (by decide)) ?_
  refine a_callV X r 2 (sX10_fits e1) zf10 k0 ydX10_fits w_ml_RL_62 w_instanceMethod_X10_fits w_sel_X10_fits w_ini_RX10 w_code_X10_fits (by decide) rfl (st := []) rfl rfl (Nat.le_of_ble_eq_true rfl) dL_law_571 ?_
  refine a_aload_n X 2 dL_law_574 rfl ?_
  refine ax_arg X hb (v := 1) dL_law_575 dL_law_576 dL_law_578 dL_law_579 dL_law_580 (by decide) (hz 1 (by decide)) ?_
  refine ax_arg X hb (v := 2) dL_law_581 dL_law_582 dL_law_584 dL_law_585 dL_law_586 (by decide) (hz 2 (by decide)) ?_
  refine a_callV X r 2 (sX12_fits e2) zf12 k76 ydX12_fits w_ml_RL_65 w_instanceMethod_X12_fits w_sel_X12_fits w_ini_RX12 w_code_X12_fits (by decide) rfl (st := [.int o]) rfl rfl (Nat.le_of_ble_eq_true rfl) dL_law_587 ?_
  exact a_icmp_eq X 1565 dL_law_590 (by decide) (fun _ => K h2 inv2) (fun hn => absurd rfl hn)
set_option maxRecDepth 100000 in
theorem lc_11 {p : Program} {l : Launch} {e : Env} {s : State} {m : MethodId} {args : Array Value} {below : List Frame} {meth : Method} {c : Code} {Q : State → Prop} {D : va_G} {cA : Nat → ClassId} {base : Nat} {sA : Nat → Nat} {b L : Nat} {xs : Nat → Int32} {i : Int32} {h : Zh} {u : Nat} (X : zX p s m args meth c cL_law RL 7 D cA base sA) (r : zRm room_1 s D cA base zh0) (hb : base = s.heap.size ∧ b < s.heap.size ∧ va_X b L xs s s.heap) (inv : Inv h u) (hu : u ≤ 59000) (hz : ∀ k : Int32, k = 1 ∨ k = 2 ∨ k = 3 ∨ k = 4 ∨ k = 5 → zin (i + k) L) (K : ∀ h2, Inv h2 (u + 100) → zGA p l e room_1 s m args below meth c Q 7 D cA base zh0 1565 (lwLO base b i) [] h2) : zGA p l e room_1 s m args below meth c Q 7 D cA base zh0 595 (lwLO base b i) [] h := by
  obtain ⟨o, h1, h2, e1, e2, inv2⟩ := op_fitting inv hu
  have k0 := inv.k0
  have k76 := kx_fitting e2
  refine a_aload_n X 3 dL_law_595 rfl ?_
  refine a_callV X r 0 (sX10_fitting e1) zf10 k0 ydX10_fitting w_ml_RL_66 w_instanceMethod_X10_fitting w_sel_X10_fitting w_ini_RX10 w_code_X10_fitting (by decide) rfl (st := []) rfl rfl (Nat.le_of_ble_eq_true rfl) dL_law_596 ?_
  refine a_aload_n X 2 dL_law_599 rfl ?_
  refine a_callV X r 0 (sX12_fitting e2) zf12 k76 ydX12_fitting w_ml_RL_69 w_instanceMethod_X12_fitting w_sel_X12_fitting w_ini_RX12 w_code_X12_fitting (by decide) rfl (st := [.int o]) rfl rfl (Nat.le_of_ble_eq_true rfl) dL_law_600 ?_
  exact a_icmp_eq X 1565 dL_law_603 (by decide) (fun _ => K h2 inv2) (fun hn => absurd rfl hn)
set_option maxRecDepth 100000 in
theorem lc_12 {p : Program} {l : Launch} {e : Env} {s : State} {m : MethodId} {args : Array Value} {below : List Frame} {meth : Method} {c : Code} {Q : State → Prop} {D : va_G} {cA : Nat → ClassId} {base : Nat} {sA : Nat → Nat} {b L : Nat} {xs : Nat → Int32} {i : Int32} {h : Zh} {u : Nat} (X : zX p s m args meth c cL_law RL 7 D cA base sA) (r : zRm room_1 s D cA base zh0) (hb : base = s.heap.size ∧ b < s.heap.size ∧ va_X b L xs s s.heap) (inv : Inv h u) (hu : u ≤ 59000) (hz : ∀ k : Int32, k = 1 ∨ k = 2 ∨ k = 3 ∨ k = 4 ∨ k = 5 → zin (i + k) L) (K : ∀ h2, Inv h2 (u + 100) → zGA p l e room_1 s m args below meth c Q 7 D cA base zh0 1565 (lwLO base b i) [] h2) : zGA p l e room_1 s m args below meth c Q 7 D cA base zh0 608 (lwLO base b i) [] h := by
  obtain ⟨o, h1, h2, e1, e2, inv2⟩ := op_lays inv hu (toR (xs (i + 1).toNatClampNeg)) (toR (xs (i + 2).toNatClampNeg))
  simp only [toI] at e1 e2
  have k0 := inv.k0
  have k76 := kx_lays e2
  refine a_aload_n X 3 dL_law_608 rfl ?_
  refine ax_arg X hb (v := 1) dL_law_609 dL_law_610 dL_law_612 dL_law_613 dL_law_614 (by decide) (hz 1 (by decide)) ?_
  refine ax_arg X hb (v := 2) dL_law_615 dL_law_616 dL_law_618 dL_law_619 dL_law_620 (by decide) (hz 2 (by decide)) ?_
  refine a_callVA X r 2 (sX10_lays e1) zf10 k0 ydX10_lays w_ml_RL_70 w_instanceMethod_X10_lays w_sel_X10_lays w_ini_RX10 w_code_X10_lays (by decide) rfl (st := []) rfl rfl (Nat.le_of_ble_eq_true rfl) dL_law_621 ?_
  refine a_aload_n X 2 dL_law_624 rfl ?_
  refine ax_arg X hb (v := 1) dL_law_625 dL_law_626 dL_law_628 dL_law_629 dL_law_630 (by decide) (hz 1 (by decide)) ?_
  refine ax_arg X hb (v := 2) dL_law_631 dL_law_632 dL_law_634 dL_law_635 dL_law_636 (by decide) (hz 2 (by decide)) ?_
  refine a_callV X r 2 (sX12_lays e2) zf12 k76 ydX12_lays w_ml_RL_73 w_instanceMethod_X12_lays w_sel_X12_lays w_ini_RX12 w_code_X12_lays (by decide) rfl (st := [.int o]) rfl rfl (Nat.le_of_ble_eq_true rfl) dL_law_637 ?_
  exact a_icmp_eq X 1565 dL_law_640 (by decide) (fun _ => K h2 inv2) (fun hn => absurd rfl hn)
set_option maxRecDepth 100000 in
theorem lc_13 {p : Program} {l : Launch} {e : Env} {s : State} {m : MethodId} {args : Array Value} {below : List Frame} {meth : Method} {c : Code} {Q : State → Prop} {D : va_G} {cA : Nat → ClassId} {base : Nat} {sA : Nat → Nat} {b L : Nat} {xs : Nat → Int32} {i : Int32} {h : Zh} {u : Nat} (X : zX p s m args meth c cL_law RL 7 D cA base sA) (r : zRm room_1 s D cA base zh0) (hb : base = s.heap.size ∧ b < s.heap.size ∧ va_X b L xs s s.heap) (inv : Inv h u) (hu : u ≤ 59000) (hz : ∀ k : Int32, k = 1 ∨ k = 2 ∨ k = 3 ∨ k = 4 ∨ k = 5 → zin (i + k) L) (K : ∀ h2, Inv h2 (u + 100) → zGA p l e room_1 s m args below meth c Q 7 D cA base zh0 1565 (lwLO base b i) [] h2) : zGA p l e room_1 s m args below meth c Q 7 D cA base zh0 645 (lwLO base b i) [] h := by
  obtain ⟨o, h1, h2, e1, e2, inv2⟩ := op_kept inv hu (toR (xs (i + 1).toNatClampNeg)) (toR (xs (i + 2).toNatClampNeg)) (toR (xs (i + 3).toNatClampNeg))
  simp only [toI] at e1 e2
  have k0 := inv.k0
  have k76 := kx_kept e2
  refine a_aload_n X 3 dL_law_645 rfl ?_
  refine ax_arg X hb (v := 1) dL_law_646 dL_law_647 dL_law_649 dL_law_650 dL_law_651 (by decide) (hz 1 (by decide)) ?_
  refine ax_arg X hb (v := 2) dL_law_652 dL_law_653 dL_law_655 dL_law_656 dL_law_657 (by decide) (hz 2 (by decide)) ?_
  refine ax_arg X hb (v := 3) dL_law_658 dL_law_659 dL_law_661 dL_law_662 dL_law_663 (by decide) (hz 3 (by decide)) ?_
  refine a_callVA X r 3 (sX10_kept e1) zf10 k0 ydX10_kept w_ml_RL_74 w_instanceMethod_X10_kept w_sel_X10_kept w_ini_RX10 w_code_X10_kept (by decide) rfl (st := []) rfl rfl (Nat.le_of_ble_eq_true rfl) dL_law_664 ?_
  refine a_aload_n X 2 dL_law_667 rfl ?_
  refine ax_arg X hb (v := 1) dL_law_668 dL_law_669 dL_law_671 dL_law_672 dL_law_673 (by decide) (hz 1 (by decide)) ?_
  refine ax_arg X hb (v := 2) dL_law_674 dL_law_675 dL_law_677 dL_law_678 dL_law_679 (by decide) (hz 2 (by decide)) ?_
  refine ax_arg X hb (v := 3) dL_law_680 dL_law_681 dL_law_683 dL_law_684 dL_law_685 (by decide) (hz 3 (by decide)) ?_
  refine a_callV X r 3 (sX12_kept e2) zf12 k76 ydX12_kept w_ml_RL_78 w_instanceMethod_X12_kept w_sel_X12_kept w_ini_RX12 w_code_X12_kept (by decide) rfl (st := [.int o]) rfl rfl (Nat.le_of_ble_eq_true rfl) dL_law_686 ?_
  exact a_icmp_eq X 1565 dL_law_689 (by decide) (fun _ => K h2 inv2) (fun hn => absurd rfl hn)
set_option maxRecDepth 100000 in
theorem lc_14 {p : Program} {l : Launch} {e : Env} {s : State} {m : MethodId} {args : Array Value} {below : List Frame} {meth : Method} {c : Code} {Q : State → Prop} {D : va_G} {cA : Nat → ClassId} {base : Nat} {sA : Nat → Nat} {b L : Nat} {xs : Nat → Int32} {i : Int32} {h : Zh} {u : Nat} (X : zX p s m args meth c cL_law RL 7 D cA base sA) (r : zRm room_1 s D cA base zh0) (hb : base = s.heap.size ∧ b < s.heap.size ∧ va_X b L xs s s.heap) (inv : Inv h u) (hu : u ≤ 59000) (hz : ∀ k : Int32, k = 1 ∨ k = 2 ∨ k = 3 ∨ k = 4 ∨ k = 5 → zin (i + k) L) (K : ∀ h2, Inv h2 (u + 100) → zGA p l e room_1 s m args below meth c Q 7 D cA base zh0 1565 (lwLO base b i) [] h2) : zGA p l e room_1 s m args below meth c Q 7 D cA base zh0 694 (lwLO base b i) [] h := by
  obtain ⟨o, h1, h2, e1, e2, inv2⟩ := op_says inv hu (toR (xs (i + 1).toNatClampNeg)) (toR (xs (i + 2).toNatClampNeg))
  simp only [toI] at e1 e2
  have k0 := inv.k0
  have k76 := kx_says e2
  refine a_aload_n X 3 dL_law_694 rfl ?_
  refine ax_arg X hb (v := 1) dL_law_695 dL_law_696 dL_law_698 dL_law_699 dL_law_700 (by decide) (hz 1 (by decide)) ?_
  refine ax_arg X hb (v := 2) dL_law_701 dL_law_702 dL_law_704 dL_law_705 dL_law_706 (by decide) (hz 2 (by decide)) ?_
  refine a_callVA X r 2 (sX10_says e1) zf10 k0 ydX10_says w_ml_RL_79 w_instanceMethod_X10_says w_sel_X10_says w_ini_RX10 w_code_X10_says (by decide) rfl (st := []) rfl rfl (Nat.le_of_ble_eq_true rfl) dL_law_707 ?_
  refine a_aload_n X 2 dL_law_710 rfl ?_
  refine ax_arg X hb (v := 1) dL_law_711 dL_law_712 dL_law_714 dL_law_715 dL_law_716 (by decide) (hz 1 (by decide)) ?_
  refine ax_arg X hb (v := 2) dL_law_717 dL_law_718 dL_law_720 dL_law_721 dL_law_722 (by decide) (hz 2 (by decide)) ?_
  refine a_callV X r 2 (sX12_says e2) zf12 k76 ydX12_says w_ml_RL_82 w_instanceMethod_X12_says w_sel_X12_says w_ini_RX12 w_code_X12_says (by decide) rfl (st := [.int o]) rfl rfl (Nat.le_of_ble_eq_true rfl) dL_law_723 ?_
  exact a_icmp_eq X 1565 dL_law_726 (by decide) (fun _ => K h2 inv2) (fun hn => absurd rfl hn)
