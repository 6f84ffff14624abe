/-! the law, case 41: led -/
theorem w_code_X12_led : Cond.code yX12_led cX12_led 5 (some .int) ∈ zgd := zgd_in (List.mem_append_right _ (List.mem_of_getElem? (i := 1973) (by decide +kernel))) (by decide +kernel)
theorem w_code_X12_thrown : Cond.code yX12_thrown cX12_thrown 1 (some .int) ∈ zgd := zgd_in (List.mem_append_right _ (List.mem_of_getElem? (i := 1382) (by decide +kernel))) (by decide +kernel)
theorem w_ini_RL : Cond.initialized RL ∈ zgd := zgd_in (List.mem_append_right _ (List.mem_of_getElem? (i := 0) (by decide +kernel))) (by decide +kernel)
theorem w_instanceMethod_X12_led : Cond.instanceMethod yX12_led ∈ zgd := zgd_in (List.mem_append_right _ (List.mem_of_getElem? (i := 1971) (by decide +kernel))) (by decide +kernel)
theorem w_instanceMethod_X12_thrown : Cond.instanceMethod yX12_thrown ∈ zgd := zgd_in (List.mem_append_right _ (List.mem_of_getElem? (i := 1380) (by decide +kernel))) (by decide +kernel)
theorem w_ml_RL_192 : Cond.methodLink RL 192 yL_led ∈ zgd := zgd_in (List.mem_append_right _ (List.mem_of_getElem? (i := 1155) (by decide +kernel))) (by decide +kernel)
theorem w_ml_RL_197 : Cond.methodLink RL 197 yX12_led ∈ zgd := zgd_in (List.mem_append_right _ (List.mem_of_getElem? (i := 1970) (by decide +kernel))) (by decide +kernel)
theorem w_ml_RL_198 : Cond.methodLink RL 198 yX12_thrown ∈ zgd := zgd_in (List.mem_append_right _ (List.mem_of_getElem? (i := 1379) (by decide +kernel))) (by decide +kernel)
theorem w_sel_X12_led : Cond.selects RX12 yX12_led yX12_led ∈ zgd := zgd_in (List.mem_append_right _ (List.mem_of_getElem? (i := 1972) (by decide +kernel))) (by decide +kernel)
theorem w_sel_X12_thrown : Cond.selects RX12 yX12_thrown yX12_thrown ∈ zgd := zgd_in (List.mem_append_right _ (List.mem_of_getElem? (i := 1381) (by decide +kernel))) (by decide +kernel)
theorem w_static_L_led : Cond.static yL_led ∈ zgd := zgd_in (List.mem_append_right _ (List.mem_of_getElem? (i := 1156) (by decide +kernel))) (by decide +kernel)
theorem dL_law_1434 : decode cL_law 1434 = .ok (.aload_n 1, 1) := by decide +kernel
theorem dL_law_1435 : decode cL_law 1435 = .ok (.aload_n 0, 1) := by decide +kernel
theorem dL_law_1436 : decode cL_law 1436 = .ok (.iload 4, 2) := by decide +kernel
theorem dL_law_1438 : decode cL_law 1438 = .ok (.iconst 1, 1) := by decide +kernel
theorem dL_law_1439 : decode cL_law 1439 = .ok (.iadd, 1) := by decide +kernel
theorem dL_law_1440 : decode cL_law 1440 = .ok (.iaload, 1) := by decide +kernel
theorem dL_law_1441 : decode cL_law 1441 = .ok (.aload_n 0, 1) := by decide +kernel
theorem dL_law_1442 : decode cL_law 1442 = .ok (.iload 4, 2) := by decide +kernel
theorem dL_law_1444 : decode cL_law 1444 = .ok (.iconst 2, 1) := by decide +kernel
theorem dL_law_1445 : decode cL_law 1445 = .ok (.iadd, 1) := by decide +kernel
theorem dL_law_1446 : decode cL_law 1446 = .ok (.iaload, 1) := by decide +kernel
theorem dL_law_1447 : decode cL_law 1447 = .ok (.aload_n 3, 1) := by decide +kernel
theorem dL_law_1448 : decode cL_law 1448 = .ok (.invokestatic 192, 3) := by decide +kernel
theorem dL_law_1451 : decode cL_law 1451 = .ok (.istore 5, 2) := by decide +kernel
theorem dL_law_1453 : decode cL_law 1453 = .ok (.aload_n 2, 1) := by decide +kernel
theorem dL_law_1454 : decode cL_law 1454 = .ok (.aload_n 0, 1) := by decide +kernel
theorem dL_law_1455 : decode cL_law 1455 = .ok (.iload 4, 2) := by decide +kernel
theorem dL_law_1457 : decode cL_law 1457 = .ok (.iconst 1, 1) := by decide +kernel
theorem dL_law_1458 : decode cL_law 1458 = .ok (.iadd, 1) := by decide +kernel
theorem dL_law_1459 : decode cL_law 1459 = .ok (.iaload, 1) := by decide +kernel
theorem dL_law_1460 : decode cL_law 1460 = .ok (.aload_n 0, 1) := by decide +kernel
theorem dL_law_1461 : decode cL_law 1461 = .ok (.iload 4, 2) := by decide +kernel
theorem dL_law_1463 : decode cL_law 1463 = .ok (.iconst 2, 1) := by decide +kernel
theorem dL_law_1464 : decode cL_law 1464 = .ok (.iadd, 1) := by decide +kernel
theorem dL_law_1465 : decode cL_law 1465 = .ok (.iaload, 1) := by decide +kernel
theorem dL_law_1466 : decode cL_law 1466 = .ok (.invokevirtual 197, 3) := by decide +kernel
theorem dL_law_1469 : decode cL_law 1469 = .ok (.istore 6, 2) := by decide +kernel
theorem dL_law_1471 : decode cL_law 1471 = .ok (.aload_n 2, 1) := by decide +kernel
theorem dL_law_1472 : decode cL_law 1472 = .ok (.invokevirtual 198, 3) := by decide +kernel
theorem dL_law_1475 : decode cL_law 1475 = .ok (.iload 5, 2) := by decide +kernel
theorem dL_law_1477 : decode cL_law 1477 = .ok (.if_icmp .eq 5, 3) := by decide +kernel
theorem dL_law_1480 : decode cL_law 1480 = .ok (.iconst 0, 1) := by decide +kernel
theorem dL_law_1481 : decode cL_law 1481 = .ok (.ireturn, 1) := by decide +kernel
theorem dL_law_1482 : decode cL_law 1482 = .ok (.iload 5, 2) := by decide +kernel
theorem dL_law_1484 : decode cL_law 1484 = .ok (.ifCond .ne 15, 3) := by decide +kernel
theorem dL_law_1487 : decode cL_law 1487 = .ok (.aload_n 3, 1) := by decide +kernel
theorem dL_law_1488 : decode cL_law 1488 = .ok (.iconst 0, 1) := by decide +kernel
theorem dL_law_1489 : decode cL_law 1489 = .ok (.laload, 1) := by decide +kernel
theorem dL_law_1490 : decode cL_law 1490 = .ok (.iload 6, 2) := by decide +kernel
theorem dL_law_1492 : decode cL_law 1492 = .ok (.i2l, 1) := by decide +kernel
theorem dL_law_1493 : decode cL_law 1493 = .ok (.lcmp, 1) := by decide +kernel
theorem dL_law_1494 : decode cL_law 1494 = .ok (.ifCond .eq 5, 3) := by decide +kernel
theorem dL_law_1497 : decode cL_law 1497 = .ok (.iconst 0, 1) := by decide +kernel
theorem dL_law_1498 : decode cL_law 1498 = .ok (.ireturn, 1) := by decide +kernel
theorem dL_law_1499 : decode cL_law 1499 = .ok (.goto 66, 3) := by decide +kernel
theorem zgoodWH {w0 : Cond} (h : w0 ∈ zgd) : GoodIn zgd (w0 :: zgd) := by
  intro w hw
  rcases List.mem_cons.mp hw with e | e
  · subst e
    exact ⟨h, good_of_word (List.mem_filter.mp h).2⟩
  · exact ⟨e, good_of_word (List.mem_filter.mp e).2⟩
theorem lg_cmp_self (x : Int64) : lg_cmp x x = 0 := by
  unfold lg_cmp
  rw [if_neg (Int64.lt_irrefl), if_pos rfl]
theorem ydL_led : (parseMethodDescriptor yL_led.desc).map (fun d => d.parameters.length) = some 4 := by decide +kernel
set_option maxHeartbeats 4000000 in
set_option maxRecDepth 100000 in
theorem lc_41 {p : Program} {l : Launch} {e : Env} {s : State} {m : MethodId} {args : Array Value} {below : List Frame} {meth : Method} {c : Code} {Q : State → Prop} {D : va_G} {cA : Nat → ClassId} {base : Nat} {sA : Nat → Nat} {b L : Nat} {xs : Nat → Int32} {i : Int32} {h : Zh} {u : Nat} (hl : l.stackTraces = false) (hxm : zXm base s) (X : zX p s m args meth c cL_law RL 7 D cA base sA) (r : zRm room_1 s D cA base zh0) (hb : base = s.heap.size ∧ b < s.heap.size ∧ va_X b L xs s s.heap) (inv : Inv h u) (hu : u ≤ 59000) (hz : ∀ k : Int32, k = 1 ∨ k = 2 ∨ k = 3 ∨ k = 4 ∨ k = 5 → zin (i + k) L) (K : ∀ h2, Inv h2 (u + 100) → zGA p l e room_1 s m args below meth c Q 7 D cA base zh0 1565 (lwLO base b i) [] h2) : zGA p l e room_1 s m args below meth c Q 7 D cA base zh0 1434 (lwLO base b i) [] h := by
  obtain ⟨y, h1, hp, ⟨k0, r5, k25⟩, hroom, ⟨k100, l100⟩, A1, A2⟩ := led_op inv hu (toR (xs (i + 1).toNatClampNeg)) (toR (xs (i + 2).toNatClampNeg))
  simp only [toI] at hp A1 A2
  generalize hx1 : xs (i + 1).toNatClampNeg = x1 at hp A1 A2
  generalize hx2 : xs (i + 2).toNatClampNeg = x2 at hp A1 A2
  have hbw := X.2.2.2.2.1
  -- behind the class's answer
  have tail : ∀ (rv o : Int32) (hE h3 : Zh), fX12_led 76 x1 x2 hE = some (o, h3) → fX12_thrown 76 h3 = some (rv, h3) → St h3 → Inv h3 (u + 100) → (¬ rv = 0 ∨ zJ h3 100 (0 : Int32).toNatClampNeg = o.toInt64) → zGA p l e room_1 s m args below meth c Q 7 D cA base zh0 1451 (lwLO base b i) [.int rv] hE := by
    intro rv o hE h3 q1 q2 q3 q4 q5
    have k76 : zK hE 76 = 12 := by
      unfold fX12_led at q1
      exact (zite (zlet_n (x := hE) rfl q1)).1
    refine a_istore X ((5, .int rv) :: lwLO base b i) dL_law_1451 (by decide) rfl ?_
    refine a_aload_n X 3 dL_law_1453 rfl ?_
    refine a_aload_n X 5 dL_law_1454 rfl ?_
    refine a_iload X 1 dL_law_1455 rfl ?_
    refine a_iconst X (v := 1) dL_law_1457 (by decide) ?_
    refine a_iadd X dL_law_1458 ?_
    refine ax_ald X hb (hz 1 (by decide)) dL_law_1459 ?_
    refine a_aload_n X 5 dL_law_1460 rfl ?_
    refine a_iload X 1 dL_law_1461 rfl ?_
    refine a_iconst X (v := 2) dL_law_1463 (by decide) ?_
    refine a_iadd X dL_law_1464 ?_
    refine ax_ald X hb (hz 2 (by decide)) dL_law_1465 ?_
    rw [hx1, hx2]
    refine a_callV X r 2 (sX12_led q1) zf12 k76 ydX12_led w_ml_RL_197 w_instanceMethod_X12_led w_sel_X12_led w_ini_RX12 w_code_X12_led (by decide) rfl (st := []) rfl rfl (Nat.le_of_ble_eq_true rfl) dL_law_1466 ?_
    refine a_istore X ((6, .int o) :: (5, .int rv) :: lwLO base b i) dL_law_1469 (by decide) rfl ?_
    refine a_aload_n X 4 dL_law_1471 rfl ?_
    refine a_callV X r 0 (sX12_thrown q2) zf12 (sK76 q3) ydX12_thrown w_ml_RL_198 w_instanceMethod_X12_thrown w_sel_X12_thrown w_ini_RX12 w_code_X12_thrown (by decide) rfl (st := []) rfl rfl (Nat.le_of_ble_eq_true rfl) dL_law_1472 ?_
    refine a_iload X 1 dL_law_1475 rfl ?_
    refine a_icmp_eq X 1482 dL_law_1477 (by decide) (fun _ => ?_) (fun hn => absurd rfl hn)
    have fin : zGA p l e room_1 s m args below meth c Q 7 D cA base zh0 1499 ((6, .int o) :: (5, .int rv) :: lwLO base b i) [] h3 := by
      refine a_goto X 1565 dL_law_1499 (by decide) ?_
      exact a_sub (lo' := lwLO base b i) [2, 3, 4, 5, 6] rfl (K h3 q4)
    refine a_iload X 1 dL_law_1482 rfl ?_
    refine a_if_ne X 1499 dL_law_1484 (by decide) (fun _ => fin) (fun h0 => ?_)
    have q6 := q5.resolve_left (fun z => z h0)
    refine a_aload_n X 3 dL_law_1487 rfl ?_
    refine a_iconst X (v := 0) dL_law_1488 (by decide) ?_
    refine a_lald X (sK100 q3) (by rw [sL100 q3]; decide) dL_law_1489 ?_
    rw [q6]
    refine a_iload X 0 dL_law_1490 rfl ?_
    refine a_i2l X dL_law_1492 ?_
    refine a_lcmp X dL_law_1493 ?_
    rw [lg_cmp_self]
    exact a_if_eq X 1499 dL_law_1494 (by decide) (fun _ => fin) (fun hn => absurd rfl hn)
  refine a_aload_n X 3 dL_law_1434 rfl ?_
  refine ax_arg X hb (v := 1) dL_law_1435 dL_law_1436 dL_law_1438 dL_law_1439 dL_law_1440 (by decide) (hz 1 (by decide)) ?_
  refine ax_arg X hb (v := 2) dL_law_1441 dL_law_1442 dL_law_1444 dL_law_1445 dL_law_1446 (by decide) (hz 2 (by decide)) ?_
  rw [hx1, hx2]
  refine a_aload_n X 1 dL_law_1447 rfl ?_
  intro z H locs ls hW hS hl1 T hT XS
  have S : CallFix p m c cL_law 7 s args zgd RL := ⟨X.1, X.2.1, X.2.2.1, X.2.2.2.1, X.2.2.2.2.1⟩
  have cw : vx_CSW room_1 s args RL 192 yL_led cL_led 5 (some .int) lledH (lledW :: zgd) (ldR h) (zNC - zN h) (zNS - zS h) 4 := ⟨⟨rfl, rfl, Nat.le_of_ble_eq_true rfl, Nat.le_of_ble_eq_true rfl, pay_in hbw (zgoodWH w_lled.1), List.mem_cons_self⟩, hbw _ w_lled.1, hbw _ w_ini_RL, ⟨by decide, by decide⟩, fun sig hs => by
    have h2 := ydL_led
    rw [hs] at h2
    exact (Option.some.inj h2).symm, hbw _ w_ml_RL_192, hbw _ w_static_L_led⟩
  obtain ⟨v, st₀, t, T', Lc, e5, X', hL, e1, e2, hq, stp⟩ := vx_runSW (As := [.ref (base + 0), .int x1, .int x2, .ref (base + 100)]) (rest := []) S (sL_led (sA := sA) hl hp k0 r5 k25 hroom k100 l100) cw ⟨fun _ _ _ _ q => ⟨q.1, q.2.1.blind, q.2.2.1, q.2.2.2.1, q.2.2.2.2.blind⟩, fun U hU hWm => ⟨rfl, X.2.2.2.2.2.2.kept hWm hS hU, by rw [hU]; exact hW, z.1, hxm.kept hWm hS hU⟩⟩ (g := F0 m 1448 ls [.ref (base + 100), .int x2, .int x1, .ref (base + 0)]) rfl rfl hl1.1 rfl (lv_room (Nat.le_of_ble_eq_true rfl)) dL_law_1448 (a_roomA r z) T hT XS
  have aft : ∀ (rv : Int32) (hE : Zh), zQA D cA base h hE (some (.int rv)) ([.ref (base + 0), .int x1, .int x2, .ref (base + 100)] : List Value).toArray st₀ (.returned v) t → zGA p l e room_1 s m args below meth c Q 7 D cA base zh0 1451 (lwLO base b i) [.int rv] hE → ∃ t2, Steps p.tables e below (T.setTop (F0 m 1448 ls [.ref (base + 100), .int x2, .int x1, .ref (base + 0)])) t2 ∧ Q t2 := by
    intro rv hE ⟨hv, hW', hF, hz9⟩ kk
    have hv : v = some (.int rv) := by injection hv
    subst hv
    obtain ⟨hF1, hF2⟩ := hF
    rw [e5] at hF1 hF2
    have hW2 : zW D cA base hE T'.heap := by rw [e1]; exact hW'
    have z' : zgA zh0 hE := ⟨hz9.1, z.2.tr hz9.2⟩
    obtain ⟨g1, g2⟩ := r.tight hW2 z'
    obtain ⟨t2, a1, b1⟩ := W.tight (cells := zN h - zN zh0 + (zNC - zN h)) (slots := zS h - zS zh0 + (zNS - zS h)) g1 g2 (kk z' T'.heap (locs ++ Lc) ls hW2 ⟨Nat.le_trans hS.1 (by rw [e1]; exact hF1), fun q h1 h2 => by rw [e1, hF2 q (Nat.lt_of_lt_of_le h1 hS.1) h2]; exact hS.2.1 q h1 h2, fun q hq => by
      rcases List.mem_append.mp hq with h3 | h3
      · exact hS.2.2 q h3
      · exact hL q h3⟩ hl1) T' rfl X'
    exact ⟨t2, stp t2 a1, b1⟩
  rcases hq with ⟨hy, hq⟩ | ⟨hy, n, hn, hq⟩
  · obtain ⟨h3, q1, q2, q3, q4, q5⟩ := A1 hy
    exact aft 0 _ hq (tail 0 y _ h3 q1 q2 q4 q5 (Or.inr q3))
  · obtain ⟨o, h3, q1, q2, q3, q4⟩ := A2 hy n hn
    exact aft 1 _ hq (tail 1 o _ h3 q1 q2 q3 q4 (Or.inl (by decide)))
