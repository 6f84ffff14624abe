/-! led: it may throw -/
theorem w_code_X4_failedHand : Cond.code yX4_failedHand cX4_failedHand 5 (some .int) ∈ zgd := zgd_in (List.mem_append_right _ (List.mem_of_getElem? (i := 1166) (by decide +kernel))) (by decide +kernel)
theorem w_instanceMethod_X4_failedHand : Cond.instanceMethod yX4_failedHand ∈ zgd := zgd_in (List.mem_append_right _ (List.mem_of_getElem? (i := 1164) (by decide +kernel))) (by decide +kernel)
theorem w_ml_RX10_278 : Cond.methodLink RX10 278 yX4_failedHand ∈ zgd := zgd_in (List.mem_append_right _ (List.mem_of_getElem? (i := 1163) (by decide +kernel))) (by decide +kernel)
theorem w_sel_X4_failedHand : Cond.selects RX4 yX4_failedHand yX4_failedHand ∈ zgd := zgd_in (List.mem_append_right _ (List.mem_of_getElem? (i := 1165) (by decide +kernel))) (by decide +kernel)
theorem dX10_led_0 : decode cX10_led 0 = .ok (.aload_n 0, 1) := by decide +kernel
theorem dX10_led_1 : decode cX10_led 1 = .ok (.iload_n 1, 1) := by decide +kernel
theorem dX10_led_2 : decode cX10_led 2 = .ok (.invokevirtual 157, 3) := by decide +kernel
theorem dX10_led_5 : decode cX10_led 5 = .ok (.ifCond .eq 8, 3) := by decide +kernel
theorem dX10_led_8 : decode cX10_led 8 = .ok (.bipush (-2), 2) := by decide +kernel
theorem dX10_led_10 : decode cX10_led 10 = .ok (.goto 19, 3) := by decide +kernel
theorem dX10_led_13 : decode cX10_led 13 = .ok (.aload_n 0, 1) := by decide +kernel
theorem dX10_led_14 : decode cX10_led 14 = .ok (.getfield 33, 3) := by decide +kernel
theorem dX10_led_17 : decode cX10_led 17 = .ok (.aload_n 0, 1) := by decide +kernel
theorem dX10_led_18 : decode cX10_led 18 = .ok (.getfield 33, 3) := by decide +kernel
theorem dX10_led_21 : decode cX10_led 21 = .ok (.iload_n 1, 1) := by decide +kernel
theorem dX10_led_22 : decode cX10_led 22 = .ok (.invokevirtual 160, 3) := by decide +kernel
theorem dX10_led_25 : decode cX10_led 25 = .ok (.iload_n 2, 1) := by decide +kernel
theorem dX10_led_26 : decode cX10_led 26 = .ok (.invokevirtual 278, 3) := by decide +kernel
theorem dX10_led_29 : decode cX10_led 29 = .ok (.istore_n 3, 1) := by decide +kernel
theorem dX10_led_30 : decode cX10_led 30 = .ok (.iload_n 3, 1) := by decide +kernel
theorem dX10_led_31 : decode cX10_led 31 = .ok (.ifCond .ge 14, 3) := by decide +kernel
theorem dX10_led_34 : decode cX10_led 34 = .ok (.new 281, 3) := by decide +kernel
theorem dX10_led_37 : decode cX10_led 37 = .ok (.dup, 1) := by decide +kernel
theorem dX10_led_38 : decode cX10_led 38 = .ok (.ldc_w 283, 3) := by decide +kernel
theorem dX10_led_41 : decode cX10_led 41 = .ok (.invokespecial 285, 3) := by decide +kernel
theorem dX10_led_44 : decode cX10_led 44 = .ok (.athrow, 1) := by decide +kernel
theorem dX10_led_45 : decode cX10_led 45 = .ok (.iload_n 3, 1) := by decide +kernel
theorem dX10_led_46 : decode cX10_led 46 = .ok (.ireturn, 1) := by decide +kernel
def xt_bad : List Cond := [.castable "java/util/NoSuchElementException" "java/util/NoSuchElementException", .declares (Bundle.initS "java/lang/RuntimeException"), .declares (Bundle.initS "java/lang/Exception"), .declares (Bundle.initS "java/lang/Throwable")]
abbrev xt_led : List Cond := xt_no RX10 285 "java/util/NoSuchElementException" 13 prog_30_method_4_code "java/lang/RuntimeException" ["java/lang/Exception"]
def zXm (base : Nat) (U : State) : Prop := (∀ w ∈ xt_bad, va_Nw w U) ∧ vx_Zq Bundle.tN "UNASSIGNED_STACK" Bundle.steD (zA base) U U.heap ∧ vx_Zq Bundle.tN "SUPPRESSED_SENTINEL" Bundle.listD (zA base) U U.heap
theorem led_at : ∀ w ∈ xt_led, (w ∈ lw_tbl ∧ goodWord w = true) ∨ w ∈ xt_bad := by decide +kernel
theorem led_bad : ∀ w ∈ xt_bad, w ∈ lw_tbl ∧ w.onTables = true := by decide +kernel
theorem led_ot : ∀ w ∈ Cond.classLink RX10 281 "java/util/NoSuchElementException" :: Cond.initialized "java/util/NoSuchElementException" :: xt_led, vx_ot w = true := by decide +kernel
theorem led_w : Cond.classLink RX10 281 "java/util/NoSuchElementException" ∈ zgd ∧ Cond.initialized "java/util/NoSuchElementException" ∈ zgd := by
  refine ⟨zgd_in ?_ ?_, zgd_in ?_ ?_⟩
  · decide +kernel
  · decide +kernel
  · decide +kernel
  · decide +kernel
theorem led_x0 : decode prog_30_method_4_code 0 = .ok (.aload_n 0, 1) := by decide +kernel
theorem led_x1 : decode prog_30_method_4_code 1 = .ok (.aload_n 1, 1) := by decide +kernel
theorem led_x2 : decode prog_30_method_4_code 2 = .ok (.invokespecial 13, 3) := by decide +kernel
theorem led_x5 : decode prog_30_method_4_code 5 = .ok (.return_, 1) := by decide +kernel
theorem led_lit : (RX10, 283, "no such hand", 25) ∈ zlit := by decide +kernel
theorem zXm.blind {base : Nat} {U : State} {g : JFrame} {mk : MethodId} {a : Array Value} (h : zXm base U) : zXm base (U.calling g mk a) := ⟨fun w hw => va_Nw.same (u := U) (U := U.calling g mk a) (led_bad w hw).2 rfl (h.1 w hw), vx_Zq.moved (u := U) (U := U.calling g mk a) (Vm.Alike.refl U.vm) h.2.1, vx_Zq.moved (u := U) (U := U.calling g mk a) (Vm.Alike.refl U.vm) h.2.2⟩
theorem xt_badw {s U : State} (hW : s.WarmedH U.vm) (h : ∀ w ∈ xt_bad, va_Nw w s) : ∀ w ∈ xt_bad, va_Nw w U := by
  intro w hw
  have h1 := h w hw
  simp only [xt_bad, List.mem_cons, List.not_mem_nil, or_false] at hw
  rcases hw with rfl | rfl | rfl | rfl
  · exact va_Nw.warmC hW h1
  · exact va_Nw.warmD hW h1
  · exact va_Nw.warmD hW h1
  · exact va_Nw.warmD hW h1
theorem zXm.kept {base : Nat} {s U : State} {H : Heap} {locs : List Loc} (h : zXm base s) (hW : s.WarmedH U.vm) (hS : va_S (zA base) s.heap H locs) (hU : U.heap = H) : zXm base U := ⟨xt_badw hW h.1, by rw [hU]; exact (vx_Zq.moved hW.alike h.2.1).kept hS.2.1, by rw [hU]; exact (vx_Zq.moved hW.alike h.2.2).kept hS.2.1⟩
theorem zat_junk {D : va_G} {cA : Nat → ClassId} {base n : Nat} {h : Zh} (H : Heap) : zat D cA base (znw h 999 n n) (zN h) H := by
  have e : zK (znw h 999 n n) (zN h) = 999 := z1_self _ _ _
  exact ⟨fun q => absurd (e ▸ q) (by decide), fun t ht q => by rw [e] at q; omega⟩
def ldX (D : va_G) (cA : Nat → ClassId) (base : Nat) (h h1 : Zh) (y : Int32) (E : String) (st t : State) : Prop := y < 0 ∧ E = "java/util/NoSuchElementException" ∧ (∃ n : Nat, n ≤ 6 ∧ zW D cA base (znw h1 999 n n) t.heap ∧ zgA h (znw h1 999 n n)) ∧ va_F (zA base) st t
theorem zsz_junk {h : Zh} {n : Nat} : zsz (znw h 999 n n) (zN h) = n := by
  unfold zsz
  rw [show zK (znw h 999 n n) (zN h) = 999 from z1_self _ _ _, if_neg (by decide)]
  exact z1_self _ _ _
def LdP (x1 x2 : Int32) (h : Zh) (y : Int32) (h1 : Zh) : Prop := (fX10_noRule 0 x1 h = some (1, h) ∧ y = -2 ∧ h1 = h) ∨ ∃ (k : Nat) (ha : Zh), fX10_noRule 0 x1 h = some (0, h) ∧ fX4_laidBy 25 x1 h = some (k, ha) ∧ zK ha 25 = 4 ∧ fX4_failedHand 25 k x2 ha = some (y, h1)
set_option maxHeartbeats 4000000 in
set_option maxRecDepth 100000 in
theorem sX10_led {l : Launch} {D : va_G} {cA : Nat → ClassId} {base : Nat} {sA : Nat → Nat} {x1 x2 y : Int32} {h h1 : Zh} (hl : l.stackTraces = false) (hp : LdP x1 x2 h y h1) (k0 : zK h 0 = 10) (r5 : zR h 0 5 = some 25) (k25 : zK h 25 = 4) (hroom : zN h1 + 1 ≤ zNC ∧ zS h1 + 6 ≤ zNS) : vx_Met l yX10_led (.code yX10_led cX10_led 4 (some .int) :: zgd) { frames := 12, cells := zNC - zN h, slots := zNS - zS h, locals := 450 } (va_Pc [.ref (base + 0), .int x1, .int x2] (fun U => zAm D cA base sA U ∧ zW D cA base h U.heap ∧ zcnt h ∧ zXm base U)) (fun a st oc t => 0 ≤ y ∧ zQA D cA base h h1 (some (.int y)) a st oc t) (ldX D cA base h h1 y) (zNC - zN h) (zNS - zS h) (zA base) := by
  refine vx_ofW (cc := cX10_led) (maxL := 4) (ret := some .int) (by decide) rfl ?_
  intro p e s m args below meth c s₁ B hml hnx hv
  obtain ⟨rfl, hA, hW, hc, hxm⟩ := hv
  have hts := atoms_spec (ws := .code yX10_led cX10_led 4 (some .int) :: zgd) B.pre
  have hle := lv_entry ([.ref (base + 0), .int x1, .int x2]) (n := 4) (Nat.le_of_ble_eq_true rfl)
  rw [lg_entry_eq]
  refine W.cs (Nat.sub_self (zN h)).symm (Nat.sub_self (zS h)).symm ?_
  have X : zX p s m ([.ref (base + 0), .int x1, .int x2] : List Value).toArray meth c cX10_led RX10 4 D cA base sA := ⟨B.exec, B.bytes, hml, findClass_of_methodNamed B.named, fun w hw => hts w (List.mem_cons_of_mem _ hw), B.notSynchronized, hA⟩
  have r : zRm { frames := 12, cells := zNC - zN h, slots := zNS - zS h, locals := 450 } s D cA base h := ⟨rfl, rfl, hW, hc⟩
  have fin : zGA p l e { frames := 12, cells := zNC - zN h, slots := zNS - zS h, locals := 450 } s m ([.ref (base + 0), .int x1, .int x2] : List Value).toArray below meth c (vx_MQ below (fun a st oc t => 0 ≤ y ∧ zQA D cA base h h1 (some (.int y)) a st oc t) (ldX D cA base h h1 y) ([.ref (base + 0), .int x1, .int x2] : List Value).toArray s (zNC - zN h) (zNS - zS h) (zA base)) 4 D cA base h 29 [(0, .ref (base + 0)), (1, .int x1), (2, .int x2)] [.int y] h1 := by
    refine a_istore_n X [(3, .int y), (0, .ref (base + 0)), (1, .int x1), (2, .int x2)] dX10_led_29 (by decide) rfl ?_
    refine a_iload_n X 0 dX10_led_30 rfl ?_
    refine a_if_ge X 45 dX10_led_31 (by decide) (fun hy => ?_) (fun hy => ?_)
    · refine a_iload_n X 0 dX10_led_45 rfl ?_
      intro z H locs ls hW1 hS hl1
      exact vx_ret (W.widen (by have := z.1.2; omega) (by have := z.1.2; omega) (W.iret X.1 X.2.1 B.returns (fun t ht hWt => ⟨hy, rfl, by rw [ht]; exact hW1, hS.F ht, z⟩) hS.2.2 dX10_led_46 X.2.2.2.2.2.1))
    · intro z H locs ls hW1 hS hl1
      have hz := z.1.2
      have hz2 := z.2.1
      have hz3 := z.2.2.1
      refine xt_throw X.1 X.2.1 hl (own := RX10) (cls := "java/util/NoSuchElementException") (text := "no such hand") (Y := "java/lang/RuntimeException") (r := ["java/lang/Exception"]) (ik := 281) (is := 283) (ic := 285) (sa := sA 25) (A := zA base) led_x0 led_x1 led_x2 led_x5 X.2.2.2.1 (by decide) (by decide) (by decide) (X.2.2.2.2.1 _ led_w.1) (X.2.2.2.2.1 _ led_w.2) (hA.2.2.2.2.1 _ led_lit) ?_ led_ot hxm.2.1 hxm.2.2 hS (hl1.1.trans X.2.2.1.symm) dX10_led_34 dX10_led_37 dX10_led_38 dX10_led_41 dX10_led_44 (fun x hx => (hnx x hx).elim) (show 5 < 12 by decide) (by show 0 + (13 * 3 + 43) ≤ 450; decide) (by rw [r.1]; omega) (by rw [r.2.1]; omega) X.2.2.2.2.2.1 ?_ hS.2.2 (by omega) (by omega)
      · intro w hw
        rcases led_at w hw with hg | hg
        · exact X.2.2.2.2.1 _ (zgd_in hg.1 hg.2)
        · exact va_Nw.use (led_bad w hg).2 (hxm.1 w hg)
      · intro t ce _ e1 e2 e3 e4
        refine ⟨Int32.not_le.mp hy, rfl, ⟨ce.slots.size, e4, ?_, ?_⟩, ?_⟩
        · exact hW1.push e1 e2 (by rw [← hW1.1]; exact e3) (by rw [zsz_junk]) (zat_junk _)
        · exact z.push zsz_junk ⟨by omega, by omega⟩
        · refine ⟨by have := hS.1; omega, fun q q1 q2 => ?_⟩
          rw [e2 q (Nat.lt_of_lt_of_le q1 hS.1)]
          exact hS.2.1 q q1 q2
  have start : zGA p l e { frames := 12, cells := zNC - zN h, slots := zNS - zS h, locals := 450 } s m ([.ref (base + 0), .int x1, .int x2] : List Value).toArray below meth c (vx_MQ below (fun a st oc t => 0 ≤ y ∧ zQA D cA base h h1 (some (.int y)) a st oc t) (ldX D cA base h h1 y) ([.ref (base + 0), .int x1, .int x2] : List Value).toArray s (zNC - zN h) (zNS - zS h) (zA base)) 4 D cA base h 0 [(0, .ref (base + 0)), (1, .int x1), (2, .int x2)] [] h := by
    refine a_aload_n X 0 dX10_led_0 rfl ?_
    refine a_iload_n X 1 dX10_led_1 rfl ?_
    rcases hp with ⟨e1, ey, eh⟩ | ⟨k, ha, e1, e2, k25', e3⟩
    · refine a_callV X r 1 (sX10_noRule e1) zf10 k0 ydX10_noRule w_ml_RX10_157 w_instanceMethod_X10_noRule w_sel_X10_noRule w_ini_RX10 w_code_X10_noRule ⟨Nat.le_of_ble_eq_true rfl, Nat.le_of_ble_eq_true rfl⟩ rfl (st := []) rfl rfl (Nat.le_of_ble_eq_true rfl) dX10_led_2 ?_
      refine a_if_eq X 13 dX10_led_5 (by decide) (fun hz => absurd hz (by decide)) (fun _ => ?_)
      refine a_bipush X (v := -2) dX10_led_8 (by decide) ?_
      refine a_goto X 29 dX10_led_10 (by decide) ?_
      subst ey
      subst eh
      exact fin
    · refine a_callV X r 1 (sX10_noRule e1) zf10 k0 ydX10_noRule w_ml_RX10_157 w_instanceMethod_X10_noRule w_sel_X10_noRule w_ini_RX10 w_code_X10_noRule ⟨Nat.le_of_ble_eq_true rfl, Nat.le_of_ble_eq_true rfl⟩ rfl (st := []) rfl rfl (Nat.le_of_ble_eq_true rfl) dX10_led_2 ?_
      refine a_if_eq X 13 dX10_led_5 (by decide) (fun _ => ?_) (fun hz => absurd rfl hz)
      refine a_aload_n X 0 dX10_led_13 rfl ?_
      refine a_get X zf10 k0 5 (by decide) w_f_RX10_33 rfl (zfv_r r5 rfl) dX10_led_14 ?_
      refine a_aload_n X 0 dX10_led_17 rfl ?_
      refine a_get X zf10 k0 5 (by decide) w_f_RX10_33 rfl (zfv_r r5 rfl) dX10_led_18 ?_
      refine a_iload_n X 1 dX10_led_21 rfl ?_
      refine a_callVA X r 1 (sX4_laidBy e2) zf4 k25 ydX4_laidBy w_ml_RX10_160 w_instanceMethod_X4_laidBy w_sel_X4_laidBy w_ini_RX4 w_code_X4_laidBy ⟨Nat.le_of_ble_eq_true rfl, Nat.le_of_ble_eq_true rfl⟩ rfl (st := [.ref (base + 25)]) rfl rfl (Nat.le_of_ble_eq_true rfl) dX10_led_22 ?_
      refine a_iload_n X 2 dX10_led_25 rfl ?_
      refine a_callV X r 2 (sX4_failedHand e3) zf4 k25' ydX4_failedHand w_ml_RX10_278 w_instanceMethod_X4_failedHand w_sel_X4_failedHand w_ini_RX4 w_code_X4_failedHand ⟨Nat.le_of_ble_eq_true rfl, Nat.le_of_ble_eq_true rfl⟩ rfl (st := []) rfl rfl (Nat.le_of_ble_eq_true rfl) dX10_led_26 ?_
      exact fin
  exact start (zgA.rf hc) s.heap [] _ hW va_S.rf hle
