/-! the law: its loop -/
theorem w_cl_RL_16 : Cond.classLink RL 16 RX12 ∈ zgd := zgd_in (List.mem_append_right _ (List.mem_of_getElem? (i := 1232) (by decide +kernel))) (by decide +kernel)
theorem w_cl_RL_8 : Cond.classLink RL 8 RX10 ∈ zgd := zgd_in (List.mem_append_right _ (List.mem_of_getElem? (i := 26) (by decide +kernel))) (by decide +kernel)
theorem w_code_X10_init : Cond.code yX10_init cX10_init 1 none ∈ zgd := zgd_in (List.mem_append_right _ (List.mem_of_getElem? (i := 30) (by decide +kernel))) (by decide +kernel)
theorem w_code_X12_init : Cond.code yX12_init cX12_init 1 none ∈ zgd := zgd_in (List.mem_append_right _ (List.mem_of_getElem? (i := 1236) (by decide +kernel))) (by decide +kernel)
theorem w_instanceMethod_X10_init : Cond.instanceMethod yX10_init ∈ zgd := zgd_in (List.mem_append_right _ (List.mem_of_getElem? (i := 29) (by decide +kernel))) (by decide +kernel)
theorem w_instanceMethod_X12_init : Cond.instanceMethod yX12_init ∈ zgd := zgd_in (List.mem_append_right _ (List.mem_of_getElem? (i := 1235) (by decide +kernel))) (by decide +kernel)
theorem w_in_RX10 : Cond.instantiable RX10 12 ∈ zgd := zgd_in (List.mem_append_right _ (List.mem_of_getElem? (i := 27) (by decide +kernel))) (by decide +kernel)
theorem w_in_RX12 : Cond.instantiable RX12 46 ∈ zgd := zgd_in (List.mem_append_right _ (List.mem_of_getElem? (i := 1233) (by decide +kernel))) (by decide +kernel)
theorem w_ml_RL_15 : Cond.methodLink RL 15 yX10_init ∈ zgd := zgd_in (List.mem_append_right _ (List.mem_of_getElem? (i := 28) (by decide +kernel))) (by decide +kernel)
theorem w_ml_RL_18 : Cond.methodLink RL 18 yX12_init ∈ zgd := zgd_in (List.mem_append_right _ (List.mem_of_getElem? (i := 1234) (by decide +kernel))) (by decide +kernel)
def R_law : String := "FifthCardLaw"
def lw_P (b : Addr) (xs : List Int32) (args : Array Value) (s : State) : Prop := args = #[.ref b] ∧ s.IntsAt b xs ∧ xs.length ≤ 3072 ∧ (Jvm.Cond.and given_1 narrow_1).before args s = true
def lw_Q (_ : Array Value) (s : State) (o : Outcome) (t : State) : Prop := o = .returned (some (.int 1)) ∧ Framed s o t [] 601024 7293034
def lw_Z (below : List Frame) (a : Array Value) (s : State) : State → Prop := fun t => ∃ o, t.status = .running ∧ Ended t below o ∧ lw_Q a s o t
/-- the law's own end, with 1 on the stack, nothing written that was there before, its room as the claim has it -/
theorem lw_ret {p : Program} {l : Launch} {e : Env} {s : State} {m : MethodId} {below : List Frame} {meth : Method} {c : Code} {b : Nat} (hx : p.tables.exec = Jvm.exec) (hb : c.code = code) (hr : meth.sig.returnType = ret) (hlocks : meth.locks = false) {pc : Nat} {H : Heap} {ls : Array Slot} (hdg : decode code pc = .ok (.ireturn, 1)) : W p l e room_1 s m #[Value.ref b] below meth c H [] 601024 7293034 (lw_Z below #[Value.ref b] s) (F0 m pc ls [.int 1]) := by
  intro T hT X
  obtain ⟨fs, hret, hrun, hended, hW, hframe⟩ := X.leave (v := some (.int 1)) (hlocks := hlocks) (fun h => by rw [hr] at h; cases h)
  have hmeth' : T.vm.method? m = some meth := X.method'
  refine ⟨T.setFrames fs, ?_, .returned (some (.int 1)), hrun, hended, rfl, ⟨_, rfl⟩, hW, hframe⟩
  jvm_step X.here [X.here.top, hx, hb, hdg, hmeth', hr, ret, narrow_b1]
  (try refine ⟨rfl, ?_⟩); (try refine ⟨rfl, ?_⟩)
  first | (intro acts; rw [hret _ acts rfl rfl rfl]) | rw [hret _ _ rfl rfl rfl]
  exact Steps.refl _
/-- what holds at the law's entry: the machine, the code, the tables' words (any of lw_tbl by 'hts w (by decide +kernel)'), the script of L ints xs at the cell b, what the Statement gives of the start (any of its parts by flat_of_before) -/
def lw_At (p : Program) (s : State) (m : MethodId) (meth : Method) (c : Code) (b L : Nat) (xs : Nat → Int32) : Prop :=
  p.tables.exec = Jvm.exec ∧ c.code = code ∧ meth.sig.returnType = ret ∧ c.maxLocals = 7 ∧ s.vm.findClass R_law = some m.cls ∧ (∀ w ∈ lw_tbl, w.before #[Value.ref b] s = true) ∧ va_X b L xs s s.heap ∧ b < s.heap.size ∧ meth.locks = false ∧ (Jvm.Cond.and given_1 narrow_1).before #[Value.ref b] s = true

theorem and63 (y : Int32) : ∃ c : Nat, c < 64 ∧ y &&& 63 = iI c := by
  have e : y = iI ((y.toBitVec.toNat : Nat) : Int) := by
    rw [iI_nI, ← Int32.toBitVec_inj]
    show y.toBitVec = BitVec.ofNat 32 y.toBitVec.toNat
    simp
  refine ⟨y.toBitVec.toNat &&& 63, Nat.and_lt_two_pow _ (n := 6) (by decide), ?_⟩
  rw [← iI_and, ← e]
  rfl
theorem lw_fin {p : Program} {l : Launch} {e : Env} {s : State} {m : MethodId} {below : List Frame} {meth : Method} {c : Code} {D : va_G} {cA : Nat → ClassId} {base : Nat} {sA : Nat → Nat} {b L : Nat} {xs : Nat → Int32} (X : zX p s m #[Value.ref b] meth c cL_law RL 7 D cA base sA) (hb : base = s.heap.size) (hr : meth.sig.returnType = ret) {lo : List (Nat × Value)} {h : Zh} : zGA p l e room_1 s m #[Value.ref b] below meth c (lw_Z below #[Value.ref b] s) 7 D cA base zh0 1571 lo [] h := by
  refine a_iconst X (v := 1) dL_law_1571 (by decide) ?_
  intro z H locs ls hW hS hl
  refine va_forget (fun q hq => by have := hS.2.2 q hq; rw [← hb]; exact this) ?_
  refine W.widen (k := 601024) (n := 7293034) ?_ ?_ (lw_ret X.1 X.2.1 hr X.2.2.2.2.2.1 dL_law_1572)
  · have h1 : zN h ≤ 601024 := z.1.2.1
    omega
  · have h1 : zS h ≤ 7293034 := z.1.2.2
    omega
set_option maxRecDepth 100000 in
theorem lw_sw {p : Program} {l : Launch} {e : Env} {s : State} {m : MethodId} {below : List Frame} {meth : Method} {c : Code} {D : va_G} {cA : Nat → ClassId} {base : Nat} {sA : Nat → Nat} {b L : Nat} {xs : Nat → Int32} (X : zX p s m #[Value.ref b] meth c cL_law RL 7 D cA base sA) (r : zRm room_1 s D cA base zh0) (hb : base = s.heap.size ∧ b < s.heap.size ∧ va_X b L xs s s.heap) (hr : meth.sig.returnType = ret) (hL : L ≤ 3072) (hled : ∀ (i : Int32) (h : Zh) (u : Nat), Inv h u → u ≤ 59000 → (∀ k : Int32, k = 1 ∨ k = 2 ∨ k = 3 ∨ k = 4 ∨ k = 5 → zin (i + k) L) → (∀ h2, Inv h2 (u + 100) → zGA p l e room_1 s m #[Value.ref b] below meth c (lw_Z below #[Value.ref b] s) 7 D cA base zh0 1565 (lwLO base b i) [] h2) → zGA p l e room_1 s m #[Value.ref b] below meth c (lw_Z below #[Value.ref b] s) 7 D cA base zh0 1434 (lwLO base b i) [] h) {i : Int32} {h : Zh} {u : Nat} (inv : Inv h u) (hu : u ≤ 59000) (hz : ∀ k : Int32, k = 1 ∨ k = 2 ∨ k = 3 ∨ k = 4 ∨ k = 5 → zin (i + k) L) (K : ∀ h2, Inv h2 (u + 100) → zGA p l e room_1 s m #[Value.ref b] below meth c (lw_Z below #[Value.ref b] s) 7 D cA base zh0 1565 (lwLO base b i) [] h2) : ∀ (k : Nat), k < 64 → zGA p l e room_1 s m #[Value.ref b] below meth c (lw_Z below #[Value.ref b] s) 7 D cA base zh0 40 (lwLO base b i) [.int (iI k)] h := by
  have inv1 : Inv h (u + 100) := by
    obtain ⟨v, tb, tr, ra, q1, q2, q3⟩ := inv
    exact ⟨v, tb, tr, ra, q1, q2.mono (by omega), q3⟩
  intro k hk
  match k, hk with
  | 0, _ => exact a_tswIn X (off := 196) 236 dL_law_40 (by decide) (by decide) (by decide +kernel) (by decide) (lc_0 X r hb inv hu hz K)
  | 1, _ => exact a_tswIn X (off := 269) 309 dL_law_40 (by decide) (by decide) (by decide +kernel) (by decide) (lc_1 X r hb inv hu hz K)
  | 2, _ => exact a_tswIn X (off := 294) 334 dL_law_40 (by decide) (by decide) (by decide +kernel) (by decide) (lc_2 X r hb inv hu hz K)
  | 3, _ => exact a_tswIn X (off := 307) 347 dL_law_40 (by decide) (by decide) (by decide +kernel) (by decide) (lc_3 X r hb inv hu hz K)
  | 4, _ => exact a_tswIn X (off := 320) 360 dL_law_40 (by decide) (by decide) (by decide +kernel) (by decide) (lc_4 X r hb inv hu hz K)
  | 5, _ => exact a_tswIn X (off := 333) 373 dL_law_40 (by decide) (by decide) (by decide +kernel) (by decide) (lc_5 X r hb inv hu hz K)
  | 6, _ => exact a_tswIn X (off := 346) 386 dL_law_40 (by decide) (by decide) (by decide +kernel) (by decide) (lc_6 X r hb inv hu hz K)
  | 7, _ => exact a_tswIn X (off := 383) 423 dL_law_40 (by decide) (by decide) (by decide +kernel) (by decide) (lc_7 X r hb inv hu hz K)
  | 8, _ => exact a_tswIn X (off := 456) 496 dL_law_40 (by decide) (by decide) (by decide +kernel) (by decide) (lc_8 X r hb inv hu hz K)
  | 9, _ => exact a_tswIn X (off := 493) 533 dL_law_40 (by decide) (by decide) (by decide +kernel) (by decide) (lc_9 X r hb inv hu hz K)
  | 10, _ => exact a_tswIn X (off := 518) 558 dL_law_40 (by decide) (by decide) (by decide +kernel) (by decide) (lc_10 X r hb inv hu hz K)
  | 11, _ => exact a_tswIn X (off := 555) 595 dL_law_40 (by decide) (by decide) (by decide +kernel) (by decide) (lc_11 X r hb inv hu hz K)
  | 12, _ => exact a_tswIn X (off := 568) 608 dL_law_40 (by decide) (by decide) (by decide +kernel) (by decide) (lc_12 X r hb inv hu hz K)
  | 13, _ => exact a_tswIn X (off := 605) 645 dL_law_40 (by decide) (by decide) (by decide +kernel) (by decide) (lc_13 X r hb inv hu hz K)
  | 14, _ => exact a_tswIn X (off := 654) 694 dL_law_40 (by decide) (by decide) (by decide +kernel) (by decide) (lc_14 X r hb inv hu hz K)
  | 15, _ => exact a_tswIn X (off := 691) 731 dL_law_40 (by decide) (by decide) (by decide +kernel) (by decide) (lc_15 X r hb inv hu hz K)
  | 16, _ => exact a_tswIn X (off := 716) 756 dL_law_40 (by decide) (by decide) (by decide +kernel) (by decide) (lc_16 X r hb inv hu hz K)
  | 17, _ => exact a_tswIn X (off := 769) 809 dL_law_40 (by decide) (by decide) (by decide +kernel) (by decide) (lc_17 X r hb inv hu hz K)
  | 18, _ => exact a_tswIn X (off := 794) 834 dL_law_40 (by decide) (by decide) (by decide +kernel) (by decide) (lc_18 X r hb inv hu hz K)
  | 19, _ => exact a_tswIn X (off := 819) 859 dL_law_40 (by decide) (by decide) (by decide +kernel) (by decide) (lc_19 X r hb inv hu hz K)
  | 20, _ => exact a_tswIn X (off := 844) 884 dL_law_40 (by decide) (by decide) (by decide +kernel) (by decide) (lc_20 X r hb inv hu hz K)
  | 21, _ => exact a_tswIn X (off := 869) 909 dL_law_40 (by decide) (by decide) (by decide +kernel) (by decide) (lc_21 X r hb inv hu hz K)
  | 22, _ => exact a_tswIn X (off := 894) 934 dL_law_40 (by decide) (by decide) (by decide +kernel) (by decide) (lc_22 X r hb inv hu hz K)
  | 23, _ => exact a_tswIn X (off := 907) 947 dL_law_40 (by decide) (by decide) (by decide +kernel) (by decide) (lc_23 X r hb inv hu hz K)
  | 24, _ => exact a_tswIn X (off := 920) 960 dL_law_40 (by decide) (by decide) (by decide +kernel) (by decide) (lc_24 X r hb inv hu hz K)
  | 25, _ => exact a_tswIn X (off := 945) 985 dL_law_40 (by decide) (by decide) (by decide +kernel) (by decide) (lc_25 X r hb inv hu hz K)
  | 26, _ => exact a_tswIn X (off := 999) 1039 dL_law_40 (by decide) (by decide) (by decide +kernel) (by decide) (lc_26 X r hb inv hu hz K)
  | 27, _ => exact a_tswIn X (off := 1012) 1052 dL_law_40 (by decide) (by decide) (by decide +kernel) (by decide) (lc_27 X r hb inv hu hz K)
  | 28, _ => exact a_tswIn X (off := 1037) 1077 dL_law_40 (by decide) (by decide) (by decide +kernel) (by decide) (lc_28 X r hb inv hu hz K)
  | 29, _ => exact a_tswIn X (off := 1090) 1130 dL_law_40 (by decide) (by decide) (by decide +kernel) (by decide) (lc_29 X r hb inv hu hz K)
  | 30, _ => exact a_tswIn X (off := 1115) 1155 dL_law_40 (by decide) (by decide) (by decide +kernel) (by decide) (lc_30 X r hb inv hu hz K)
  | 31, _ => exact a_tswIn X (off := 1140) 1180 dL_law_40 (by decide) (by decide) (by decide +kernel) (by decide) (lc_31 X r hb inv hu hz K)
  | 32, _ => exact a_tswIn X (off := 1153) 1193 dL_law_40 (by decide) (by decide) (by decide +kernel) (by decide) (lc_32 X r hb inv hu hz K)
  | 33, _ => exact a_tswIn X (off := 1190) 1230 dL_law_40 (by decide) (by decide) (by decide +kernel) (by decide) (lc_33 X r hb inv hu hz K)
  | 34, _ => exact a_tswIn X (off := 1255) 1295 dL_law_40 (by decide) (by decide) (by decide +kernel) (by decide) (lc_34 X r hb inv hu hz K)
  | 35, _ => exact a_tswIn X (off := 1268) 1308 dL_law_40 (by decide) (by decide) (by decide +kernel) (by decide) (lc_35 X r hb inv hu hz K)
  | 36, _ => exact a_tswIn X (off := 1305) 1345 dL_law_40 (by decide) (by decide) (by decide +kernel) (by decide) (lc_36 X r hb inv hu hz K)
  | 37, _ => exact a_tswIn X (off := 1330) 1370 dL_law_40 (by decide) (by decide) (by decide +kernel) (by decide) (lc_37 X r hb inv hu hz K)
  | 38, _ => exact a_tswIn X (off := 1343) 1383 dL_law_40 (by decide) (by decide) (by decide +kernel) (by decide) (lc_38 X r hb inv hu hz K)
  | 39, _ => exact a_tswIn X (off := 1356) 1396 dL_law_40 (by decide) (by decide) (by decide +kernel) (by decide) (lc_39 X r hb inv hu hz K)
  | 40, _ => exact a_tswIn X (off := 1369) 1409 dL_law_40 (by decide) (by decide) (by decide +kernel) (by decide) (lc_40 X r hb inv hu hz K)
  | 41, _ => exact a_tswIn X (off := 1394) 1434 dL_law_40 (by decide) (by decide) (by decide +kernel) (by decide) (hled i h u inv hu hz K)
  | 42, _ => exact a_tswIn X (off := 1462) 1502 dL_law_40 (by decide) (by decide) (by decide +kernel) (by decide) (lc_42 X r hb inv hu hz K)
  | 43, _ => exact a_tswIn X (off := 1487) 1527 dL_law_40 (by decide) (by decide) (by decide +kernel) (by decide) (lc_43 X r hb inv hu hz K)
  | 44, _ => exact a_tswIn X (off := 1512) 1552 dL_law_40 (by decide) (by decide) (by decide +kernel) (by decide) (lc_44 X r hb inv hu hz K)
  | k + 45, hk =>
    refine a_tswOut X 1565 dL_law_40 (Or.inr ?_) (by decide) (K h inv1)
    rw [iI_toInt ⟨by omega, by omega⟩]
    omega
theorem lw_loop {p : Program} {l : Launch} {e : Env} {s : State} {m : MethodId} {below : List Frame} {meth : Method} {c : Code} {D : va_G} {cA : Nat → ClassId} {base : Nat} {sA : Nat → Nat} {b L : Nat} {xs : Nat → Int32} (X : zX p s m #[Value.ref b] meth c cL_law RL 7 D cA base sA) (r : zRm room_1 s D cA base zh0) (hb : base = s.heap.size ∧ b < s.heap.size ∧ va_X b L xs s s.heap) (hr : meth.sig.returnType = ret) (hL : L ≤ 3072) (hled : ∀ (i : Int32) (h : Zh) (u : Nat), Inv h u → u ≤ 59000 → (∀ k : Int32, k = 1 ∨ k = 2 ∨ k = 3 ∨ k = 4 ∨ k = 5 → zin (i + k) L) → (∀ h2, Inv h2 (u + 100) → zGA p l e room_1 s m #[Value.ref b] below meth c (lw_Z below #[Value.ref b] s) 7 D cA base zh0 1565 (lwLO base b i) [] h2) → zGA p l e room_1 s m #[Value.ref b] below meth c (lw_Z below #[Value.ref b] s) 7 D cA base zh0 1434 (lwLO base b i) [] h) : ∀ (n i u : Nat) (h : Zh), L < i + 6 + 6 * n → i ≤ 3072 → u + 100 * n ≤ 59000 → Inv h u → zGA p l e room_1 s m #[Value.ref b] below meth c (lw_Z below #[Value.ref b] s) 7 D cA base zh0 23 (lwLO base b (iI i)) [] h := by
  intro n
  induction n with
  | zero =>
    intro i u h hi hi2 hun inv
    refine a_iload X 0 dL_law_23 rfl ?_
    refine a_aload_n X 4 dL_law_25 rfl ?_
    refine ax_len X hb dL_law_26 ?_
    refine a_bipush X (v := 6) dL_law_27 (by decide) ?_
    refine a_isub X dL_law_29 ?_
    refine a_icmp_gt X 1571 dL_law_30 (by decide) (fun _ => lw_fin (L := L) (xs := xs) X hb.1 hr) (fun hn => ?_)
    exfalso
    apply hn
    show iI (L : Int) - iI 6 < iI (i : Int)
    rw [iI_sub, iI_lt ⟨by omega, by omega⟩ ⟨by omega, by omega⟩]
    omega
  | succ n ih =>
    intro i u h hi hi2 hun inv
    refine a_iload X 0 dL_law_23 rfl ?_
    refine a_aload_n X 4 dL_law_25 rfl ?_
    refine ax_len X hb dL_law_26 ?_
    refine a_bipush X (v := 6) dL_law_27 (by decide) ?_
    refine a_isub X dL_law_29 ?_
    refine a_icmp_gt X 1571 dL_law_30 (by decide) (fun _ => lw_fin (L := L) (xs := xs) X hb.1 hr) (fun hn => ?_)
    have hle : i + 6 ≤ L := by
      have hn' : ¬ iI (L : Int) - iI 6 < iI (i : Int) := hn
      rw [iI_sub, iI_lt ⟨by omega, by omega⟩ ⟨by omega, by omega⟩] at hn'
      omega
    have hz : ∀ k : Int32, k = 1 ∨ k = 2 ∨ k = 3 ∨ k = 4 ∨ k = 5 → zin (iI i + k) L := by
      intro k hk
      have : ∃ j : Nat, k = iI j ∧ j < 6 := by
        rcases hk with rfl | rfl | rfl | rfl | rfl
        · exact ⟨1, rfl, by decide⟩
        · exact ⟨2, rfl, by decide⟩
        · exact ⟨3, rfl, by decide⟩
        · exact ⟨4, rfl, by decide⟩
        · exact ⟨5, rfl, by decide⟩
      obtain ⟨j, rfl, hj⟩ := this
      rw [iI_add, show (i : Int) + (j : Int) = ((i + j : Nat) : Int) by omega]
      exact zin_N (by omega) (by omega)
    refine a_aload_n X 4 dL_law_33 rfl ?_
    refine a_iload X 0 dL_law_34 rfl ?_
    refine ax_ald X hb (zin_N (by omega) (by omega)) dL_law_36 ?_
    refine a_bipush X (v := 63) dL_law_37 (by decide) ?_
    refine a_iand X dL_law_39 ?_
    obtain ⟨k, hk, ek⟩ := and63 (xs (iI i).toNatClampNeg)
    rw [ek]
    refine lw_sw X r hb hr hL hled inv (by omega) hz (fun h2 inv2 => ?_) k hk
    refine a_iinc X (j := 0) (lwLO base b (iI ((i + 6 : Nat) : Int))) dL_law_1565 rfl ?_ (by decide) rfl ?_
    · show iI (i : Int) + iI 6 = _
      rw [iI_add]
      rfl
    · refine a_goto X 23 dL_law_1568 (by decide) ?_
      exact ih (i + 6) (u + 100) h2 (by omega) (by omega) (by omega) inv2
theorem hS0_s : ((fX10_init 0 (znw zh0 10 0 12)).map (fun h => decide (zS h ≤ 130000)) = some true) ∧ (((fX10_init 0 (znw zh0 10 0 12)).bind fun h1 => fX12_init (zN h1) (znw h1 12 0 46)).map (fun h => decide (zS h ≤ 130000)) = some true) := by decide +kernel
theorem st_s {h1 h2 : Zh} (e1 : fX10_init 0 (znw zh0 10 0 12) = some h1) (n1 : zN h1 = 76) (e2 : fX12_init 76 (znw h1 12 0 46) = some h2) : zS h1 ≤ 130000 ∧ zS h2 ≤ 130000 := by
  obtain ⟨a, b⟩ := hS0_s
  rw [e1] at a b
  rw [Option.bind_some, n1, e2] at b
  exact ⟨by simpa using a, by simpa using b⟩
theorem lw_in {p : Program} {l : Launch} {e : Env} {s : State} {m : MethodId} {below : List Frame} {meth : Method} {c : Code} {D : va_G} {cA : Nat → ClassId} {base : Nat} {sA : Nat → Nat} {b L : Nat} {xs : Nat → Int32} (X : zX p s m #[Value.ref b] meth c cL_law RL 7 D cA base sA) (r : zRm room_1 s D cA base zh0) (hb : base = s.heap.size ∧ b < s.heap.size ∧ va_X b L xs s s.heap) (hr : meth.sig.returnType = ret) (hL : L ≤ 3072) (hled : ∀ (i : Int32) (h : Zh) (u : Nat), Inv h u → u ≤ 59000 → (∀ k : Int32, k = 1 ∨ k = 2 ∨ k = 3 ∨ k = 4 ∨ k = 5 → zin (i + k) L) → (∀ h2, Inv h2 (u + 100) → zGA p l e room_1 s m #[Value.ref b] below meth c (lw_Z below #[Value.ref b] s) 7 D cA base zh0 1565 (lwLO base b i) [] h2) → zGA p l e room_1 s m #[Value.ref b] below meth c (lw_Z below #[Value.ref b] s) 7 D cA base zh0 1434 (lwLO base b i) [] h) : zGA p l e room_1 s m #[Value.ref b] below meth c (lw_Z below #[Value.ref b] s) 7 D cA base zh0 0 [(0, .ref b)] [] zh0 := by
  obtain ⟨h1, h2, e1, n1, e2, n2, inv⟩ := start_inv
  obtain ⟨sz1, sz2⟩ := st_s e1 n1 e2
  have hNS : zNS = 7293034 := rfl
  refine a_new X r zf10 zq10 ⟨by decide, by decide⟩ w_cl_RL_8 w_in_RX10 w_ini_RX10 dL_law_0 ?_
  refine a_dup X dL_law_3 rfl ?_
  refine a_callI X r 0 (sX10_init e1) rfl yiX10_init w_ml_RL_15 w_instanceMethod_X10_init w_ini_RX10 w_code_X10_init (by decide) rfl (st := [.ref (base + 0)]) rfl (Nat.le_of_ble_eq_true rfl) dL_law_4 ?_
  refine a_astore_n X [(1, .ref (base + 0)), (0, .ref b)] dL_law_7 (by decide) rfl ?_
  refine a_new X r zf12 zq12 ⟨by rw [n1]; decide, by rw [hNS]; omega⟩ w_cl_RL_16 w_in_RX12 w_ini_RX12 dL_law_8 ?_
  refine a_dup X dL_law_11 rfl ?_
  rw [n1]
  refine a_callI X r 0 (sX12_init e2) rfl yiX12_init w_ml_RL_18 w_instanceMethod_X12_init w_ini_RX12 w_code_X12_init (by decide) rfl (st := [.ref (base + 76)]) rfl (Nat.le_of_ble_eq_true rfl) dL_law_12 ?_
  refine a_astore_n X [(2, .ref (base + 76)), (1, .ref (base + 0)), (0, .ref b)] dL_law_15 (by decide) rfl ?_
  refine a_iconst X (v := 1) dL_law_16 (by decide) ?_
  refine a_newa2 X r (by decide) ⟨by rw [n2]; decide, by rw [hNS, show ((1 : Int32)).toNatClampNeg = 1 by decide]; omega⟩ w_ac_long dL_law_17 ?_
  rw [n2]
  refine a_astore_n X [(3, .ref (base + 100)), (2, .ref (base + 76)), (1, .ref (base + 0)), (0, .ref b)] dL_law_19 (by decide) rfl ?_
  refine a_iconst X (v := 0) dL_law_20 (by decide) ?_
  refine a_istore X (lwLO base b (iI 0)) dL_law_21 (by decide) rfl ?_
  exact lw_loop X r hb hr hL hled 512 0 0 _ (by omega) (by omega) (by omega) inv
