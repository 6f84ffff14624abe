/-! led in the law: it catches -/
theorem w_code_X10_led : Cond.code yX10_led cX10_led 4 (some .int) ∈ zgd := zgd_in (List.mem_append_right _ (List.mem_of_getElem? (i := 1162) (by decide +kernel))) (by decide +kernel)
theorem w_instanceMethod_X10_led : Cond.instanceMethod yX10_led ∈ zgd := zgd_in (List.mem_append_right _ (List.mem_of_getElem? (i := 1160) (by decide +kernel))) (by decide +kernel)
theorem w_ml_RL_7 : Cond.methodLink RL 7 yX10_led ∈ zgd := zgd_in (List.mem_append_right _ (List.mem_of_getElem? (i := 1159) (by decide +kernel))) (by decide +kernel)
theorem w_sel_X10_led : Cond.selects RX10 yX10_led yX10_led ∈ zgd := zgd_in (List.mem_append_right _ (List.mem_of_getElem? (i := 1161) (by decide +kernel))) (by decide +kernel)
theorem dL_led_0 : decode cL_led 0 = .ok (.aload_n 3, 1) := by decide +kernel
theorem dL_led_1 : decode cL_led 1 = .ok (.iconst 0, 1) := by decide +kernel
theorem dL_led_2 : decode cL_led 2 = .ok (.aload_n 0, 1) := by decide +kernel
theorem dL_led_3 : decode cL_led 3 = .ok (.iload_n 1, 1) := by decide +kernel
theorem dL_led_4 : decode cL_led 4 = .ok (.iload_n 2, 1) := by decide +kernel
theorem dL_led_5 : decode cL_led 5 = .ok (.invokevirtual 7, 3) := by decide +kernel
theorem dL_led_8 : decode cL_led 8 = .ok (.i2l, 1) := by decide +kernel
theorem dL_led_9 : decode cL_led 9 = .ok (.lastore, 1) := by decide +kernel
theorem dL_led_10 : decode cL_led 10 = .ok (.goto 7, 3) := by decide +kernel
theorem dL_led_13 : decode cL_led 13 = .ok (.astore 4, 2) := by decide +kernel
theorem dL_led_15 : decode cL_led 15 = .ok (.iconst 1, 1) := by decide +kernel
theorem dL_led_16 : decode cL_led 16 = .ok (.ireturn, 1) := by decide +kernel
theorem dL_led_17 : decode cL_led 17 = .ok (.iconst 0, 1) := by decide +kernel
theorem dL_led_18 : decode cL_led 18 = .ok (.ireturn, 1) := by decide +kernel
theorem ydX10_led : yX10_led.cls = RX10 ∧ yX10_led.cls ≠ "java/lang/invoke/MethodHandle" ∧ yX10_led.cls ≠ "java/lang/invoke/VarHandle" ∧ (parseMethodDescriptor yX10_led.desc).map (fun d => d.parameters.length) = some 2 := by decide +kernel
abbrev lledH : List (Nat × Nat × Nat × Nat) := [(0, 10, 13, 13)]
abbrev lledW : Cond := .codeWith yL_led cL_led 5 (some .int) lledH
theorem w_lled : lledW ∈ zgd ∧ Cond.classLink RL 13 "java/util/NoSuchElementException" ∈ zgd := by
  refine ⟨zgd_in ?_ ?_, zgd_in ?_ ?_⟩
  · decide +kernel
  · decide +kernel
  · decide +kernel
  · decide +kernel
theorem xt_ofWH {l : Launch} {y : MethodName} {ws ws' : List Cond} {rm : Room} {Pc : Array Value → State → Prop} {Qc : Array Value → State → Outcome → State → Prop} {mc ms : Nat} {free : Addr → Prop} {cc : ByteArray} {maxL : Nat} {ret : Option FieldType} {hh : List (Nat × Nat × Nat × Nat)}
    (hy : plainName y.cls = true) (hw : ws = Cond.codeWith y cc maxL ret hh :: ws')
    (body : ∀ p e s m args below meth c s₁, BodyLoose p l y (headSpec ws rm) cc maxL ret e s m args below meth c s₁ → c.maxLocals = maxL → Pc args s →
      W p l e (headSpec ws rm).room s m args below meth c s.heap [] 0 0 (MQ below Qc args s mc ms free) (entryFrame m args maxL)) : Met l y ws rm Pc Qc mc ms free := by
  refine MetFree.of_bodyS (code := cc) (maxLocals := maxL) (ret := ret) hy ?_ ?_
  · intro args s m h hn
    obtain ⟨m9, meth, c, hn9, h1, h2, h3, h4, -, h5, h6, -⟩ := Cond.codeWith_spec (atoms_spec (ws := ws) h _ (by rw [hw]; exact List.mem_cons_self))
    cases hn.symm.trans hn9
    exact ⟨meth, c, h1, h2, h3, h4, h5, h6⟩
  · intro p e s m args below meth c s₁ B hml hP _
    have hh0 : s₁.heap = s.heap := by rw [B.state]; rfl
    obtain ⟨t, a1, o, b1, b2, b3⟩ := body p e s m args below meth c s₁ B hml hP s₁ hh0 (Stand.of_body B)
    exact ⟨t, o, a1, b1, b2, b3⟩
def ldQ (D : va_G) (cA : Nat → ClassId) (base : Nat) (h h1 : Zh) (y : Int32) : Array Value → State → Outcome → State → Prop := fun a st oc t => (0 ≤ y ∧ zQA D cA base h (zsJ h1 100 (0 : Int32).toNatClampNeg y.toInt64) (some (.int 0)) a st oc t) ∨ (y < 0 ∧ ∃ n : Nat, n ≤ 6 ∧ zQA D cA base h (znw h1 999 n n) (some (.int 1)) a st oc t)
abbrev ldR (h : Zh) : Room := { frames := 13, cells := zNC - zN h, slots := zNS - zS h, locals := 480 }
set_option maxHeartbeats 4000000 in
set_option maxRecDepth 100000 in
theorem sL_led {l : Launch} {D : va_G} {cA : Nat → ClassId} {base : Nat} {sA : Nat → Nat} {x1 x2 y : Int32} {h h1 : Zh} (hl : l.stackTraces = false) (hp : LdP x1 x2 h y h1) (k0 : zK h 0 = 10) (r5 : zR h 0 5 = some 25) (k25 : zK h 25 = 4) (hroom : zN h1 + 1 ≤ zNC ∧ zS h1 + 6 ≤ zNS) (k100 : zK h1 100 = 102) (l100 : zL h1 100 = 1) : Met l yL_led (lledW :: zgd) (ldR h) (va_Pc [.ref (base + 0), .int x1, .int x2, .ref (base + 100)] (fun U => zAm D cA base sA U ∧ zW D cA base h U.heap ∧ zcnt h ∧ zXm base U)) (ldQ D cA base h h1 y) (zNC - zN h) (zNS - zS h) (zA base) := by
  refine xt_ofWH (cc := cL_led) (maxL := 5) (ret := some .int) (hh := lledH) (by decide) rfl ?_
  intro p e s m args below meth c s₁ B hml hv
  obtain ⟨rfl, hA, hW, hc, hxm⟩ := hv
  have hts := atoms_spec (ws := lledW :: zgd) B.pre
  have htb : c.exceptionTable.toList = tableOf lledH := vx_table (x := yL_led) B (hts _ List.mem_cons_self)
  have hle := lv_entry ([.ref (base + 0), .int x1, .int x2, .ref (base + 100)]) (n := 5) (Nat.le_of_ble_eq_true rfl)
  rw [lg_entry_eq]
  refine W.cs (Nat.sub_self (zN h)).symm (Nat.sub_self (zS h)).symm ?_
  have X : zX p s m ([.ref (base + 0), .int x1, .int x2, .ref (base + 100)] : List Value).toArray meth c cL_led RL 5 D cA base sA := ⟨B.exec, B.bytes, hml, findClass_of_methodNamed B.named, fun w hw => hts w (List.mem_cons_of_mem _ hw), B.notSynchronized, hA⟩
  have r : zRm (ldR h) s D cA base h := ⟨rfl, rfl, hW, hc⟩
  generalize hargs : ([.ref (base + 0), .int x1, .int x2, .ref (base + 100)] : List Value).toArray = args at X ⊢
  have kr : zGA p l e (ldR h) s m args below meth c (MQ below (ldQ D cA base h h1 y) args s (zNC - zN h) (zNS - zS h) (zA base)) 5 D cA base h 8 [(0, .ref (base + 0)), (1, .int x1), (2, .int x2), (3, .ref (base + 100))] [.int y, .int 0, .ref (base + 100)] h1 ∨ y < 0 := by
    by_cases hy : 0 ≤ y
    · refine Or.inl ?_
      refine a_i2l X dL_led_8 ?_
      refine a_last X k100 (by rw [l100]; decide) dL_led_9 ?_
      refine a_goto X 17 dL_led_10 (by decide) ?_
      refine a_iconst X (v := 0) dL_led_17 (by decide) ?_
      intro z H locs ls hW1 hS hl1
      exact W.widen (by have := z.1.2; omega) (by have := z.1.2; omega) (W.iret X.1 X.2.1 B.returns (fun t ht hWt => Or.inl ⟨hy, rfl, by rw [ht]; exact hW1, hS.F ht, z⟩) hS.2.2 dL_led_18 X.2.2.2.2.2.1)
    · exact Or.inr (Int32.not_le.mp hy)
  have kt : ∀ (n q : Nat), n ≤ 6 → y < 0 → zGA p l e (ldR h) s m args below meth c (MQ below (ldQ D cA base h h1 y) args s (zNC - zN h) (zNS - zS h) (zA base)) 5 D cA base h 13 [(0, .ref (base + 0)), (1, .int x1), (2, .int x2), (3, .ref (base + 100))] [.ref q] (znw h1 999 n n) := by
    intro n q hn hy
    refine a_astore X [(4, .ref q), (0, .ref (base + 0)), (1, .int x1), (2, .int x2), (3, .ref (base + 100))] dL_led_13 (by decide) rfl ?_
    refine a_iconst X (v := 1) dL_led_15 (by decide) ?_
    intro z H locs ls hW1 hS hl1
    exact W.widen (by have := z.1.2; omega) (by have := z.1.2; omega) (W.iret X.1 X.2.1 B.returns (fun t ht hWt => Or.inr ⟨hy, n, hn, rfl, by rw [ht]; exact hW1, hS.F ht, z⟩) hS.2.2 dL_led_16 X.2.2.2.2.2.1)
  have start : zGA p l e (ldR h) s m args below meth c (MQ below (ldQ D cA base h h1 y) args s (zNC - zN h) (zNS - zS h) (zA base)) 5 D cA base h 0 [(0, .ref (base + 0)), (1, .int x1), (2, .int x2), (3, .ref (base + 100))] [] h := by
    refine a_aload_n X 3 dL_led_0 rfl ?_
    refine a_iconst X (v := 0) dL_led_1 (by decide) ?_
    refine a_aload_n X 0 dL_led_2 rfl ?_
    refine a_iload_n X 1 dL_led_3 rfl ?_
    refine a_iload_n X 2 dL_led_4 rfl ?_
    intro z H locs ls hW1 hS hl1 T hT XS
    have S : CallFix p m c cL_led 5 s args zgd RL := ⟨X.1, X.2.1, X.2.2.1, X.2.2.2.1, X.2.2.2.2.1⟩
    have ha := (hW1.2.1 0).1 (by rw [k0]; decide)
    rw [k0] at ha
    have hb := X.2.2.2.2.1
    have hR : zRm (ldR h) s D cA base h := r
    rcases vx_runV (As := [.int x1, .int x2]) (rest := [.int 0, .ref (base + 100)]) (b := base + 0) (C := RX10) (own := RL) S (sX10_led (sA := sA) hl hp k0 r5 k25 hroom) (n := 2) ⟨callB_of 2 hb (zgoodW w_code_X10_led) rfl rfl rfl (hb _ w_ini_RX10) (hb _ w_ml_RL_7) ⟨ydX10_led.2.1, ydX10_led.2.2⟩ ⟨Nat.le_of_ble_eq_true rfl, Nat.le_of_ble_eq_true rfl⟩, hb _ w_instanceMethod_X10_led, hb _ w_sel_X10_led⟩
      ⟨fun _ _ _ _ q => ⟨q.1, q.2.1.blind, q.2.2.1, q.2.2.2.1, q.2.2.2.2.blind⟩, va_recv X.2.2.2.2.2.2.1 (zP1 ha) zf10.2.1 (q0 := 0) rfl, fun U hU hWm => ⟨rfl, hA.kept hWm hS hU, by rw [hU]; exact hW1, hc, hxm.kept hWm hS hU⟩⟩
      (g := F0 m 5 ls [.int x2, .int x1, .ref (base + 0), .int 0, .ref (base + 100)]) rfl rfl hl1.1 rfl (lv_room (Nat.le_of_ble_eq_true rfl)) dL_led_5 (a_roomA r z) T hT XS with ⟨v, st₀, t, T', L, e5, X', hL, e1, e2, ⟨hy, hv, hW', hF, hz9⟩, stp⟩ | ⟨q, st₀, t, T', L, E, ce, e5, X', hL, e1, e2, ⟨hy, hE, ⟨n, hn6, hW', hz9⟩, hF⟩, hce, hcv, hcl, stp⟩
    · have hv : v = some (.int y) := by injection hv
      subst hv
      obtain ⟨hF1, hF2⟩ := hF
      rw [e5] at hF1 hF2
      have hW2 : zW D cA base h1 T'.heap := by rw [e1]; exact hW'
      obtain ⟨g1, g2⟩ := r.tight hW2 hz9
      have kk := kr.resolve_right (Int32.not_lt.mpr hy)
      obtain ⟨t2, a1, b1⟩ := W.tight (cells := zN h - zN h + (zNC - zN h)) (slots := zS h - zS h + (zNS - zS h)) g1 g2 (kk hz9 T'.heap (locs ++ L) ls hW2 ⟨Nat.le_trans hS.1 (by rw [e1]; exact hF1), fun q h1 h2 => by rw [e1, hF2 q (Nat.lt_of_lt_of_le h1 hS.1) h2]; exact hS.2.1 q h1 h2, fun q hq => by
        rcases List.mem_append.mp hq with h3 | h3
        · exact hS.2.2 q h3
        · exact hL q h3⟩ hl1) T' rfl X'
      exact ⟨t2, stp t2 a1, b1⟩
    · obtain ⟨hF1, hF2⟩ := hF
      rw [e5] at hF1 hF2
      have hW2 : zW D cA base (znw h1 999 n n) T'.heap := by rw [e1]; exact hW'
      obtain ⟨g1, g2⟩ := r.tight hW2 hz9
      subst hE
      obtain ⟨t2, a1, b1⟩ := vx_catch (cells := zN h - zN h + (zNC - zN h)) (slots := zS h - zS h + (zNS - zS h)) (pc := 5) (rest := [.int 0, .ref (base + 100)]) (ls := ls) (own := RL) (name := "java/util/NoSuchElementException") X.2.2.2.1 [] { startPc := 0, endPc := 10, handlerPc := 13, catchType := 13 } [] (htb.trans rfl) (fun z hz => nomatch hz) rfl (by decide) (hb _ w_lled.2) (va_Nw.use rfl (hxm.1 _ (by decide))) (H := T'.heap) (by rw [e1]; exact hce) hcv hcl (W.tight g1 g2 (kt n q hn6 hy hz9 T'.heap (locs ++ L) ls hW2 ⟨Nat.le_trans hS.1 (by rw [e1]; exact hF1), fun q h1 h2 => by rw [e1, hF2 q (Nat.lt_of_lt_of_le h1 hS.1) h2]; exact hS.2.1 q h1 h2, fun q hq => by
        rcases List.mem_append.mp hq with h3 | h3
        · exact hS.2.2 q h3
        · exact hL q h3⟩ hl1)) T' rfl X'
      exact ⟨t2, stp.trans a1, b1⟩
  subst hargs
  exact start (zgA.rf hc) s.heap [] _ hW va_S.rf hle
