/-! a throw of an exception whose constructor hands its text on by an entry of its own (launches without stack traces) -/
def xt_tl (own : String) (ic : Nat) (X : String) : List Cond := [.methodLink own ic (Bundle.initS X), .instantiable X 6, .castable X X, .selects X Bundle.tFill0 Bundle.tFill0, .selects X Bundle.tFill Bundle.tFill, .lays X Bundle.tN "cause" "Ljava/lang/Throwable;", .lays X Bundle.tN "stackTrace" Bundle.steD, .lays X Bundle.tN "suppressedExceptions" Bundle.listD, .lays X Bundle.tN "detailMessage" "Ljava/lang/String;", .isRef (.static Bundle.tN "UNASSIGNED_STACK" Bundle.steD), .isRef (.static Bundle.tN "SUPPRESSED_SENTINEL" Bundle.listD), .fieldLink Bundle.tN 198 Bundle.tN "backtrace" "Ljava/lang/Object;", .lays Bundle.tN Bundle.tN "backtrace" "Ljava/lang/Object;", .lays X Bundle.tN "backtrace" "Ljava/lang/Object;"]
def xt_at (own : String) (ic : Nat) (X : String) (ix : Nat) (rx : ByteArray) (Y : String) (r : List String) : List Cond := Bundle.throwableAtoms ++ (Bundle.throwableSAtoms ++ (Bundle.passSAtoms X Y ix rx ++ (Bundle.chainSAtoms Y r ++ xt_tl own ic X)))
section XT
variable {p : Program} {l : Launch} {e : Env} {R : Room} {s : State} {m : MethodId} {args : Array Value} {below : List Frame} {meth : Method} {c : Code} {W : State} {cells slots : Nat}
theorem xt_sel {C : String} {y : MethodName} {k : ClassId} {mi : MethodId} (ha : l.admits e) (h : (Cond.selects C y y).before args s = true) (hk : s.vm.findClass C = some k) (hm : s.methodNamed? y = some mi) (hy : y.cls ≠ "java/lang/invoke/MethodHandle" ∧ y.cls ≠ "java/lang/invoke/VarHandle") : selectMethod e.platform s.vm k mi = .method mi := by
  obtain ⟨c2, r2, m2, q1, q2, q3, q4, -⟩ := Cond.selects_spec h
  cases Option.some.inj (q1.symm.trans hk)
  cases Option.some.inj (q2.symm.trans (State.methodFound?_of_named hm hy))
  cases Option.some.inj (q3.symm.trans hm)
  rw [Launch.admits_selectMethod ha]
  exact q4
set_option maxHeartbeats 2000000 in
theorem xt_ctor (X : Stand p l e R s m args below meth c W [] cells slots) (hexec : p.tables.exec = Jvm.exec) (htr : e.platform.stackTraces = false) {own cls Y : String} {r : List String} {ic ix : Nat} {rx : ByteArray}
    (x0 : decode rx 0 = .ok (.aload_n 0, 1)) (x1 : decode rx 1 = .ok (.aload_n 1, 1)) (x2 : decode rx 2 = .ok (.invokespecial ix, 3)) (x5 : decode rx 5 = .ok (.return_, 1))
    (hown : s.vm.findClass own = some m.cls) (hcls : Bundle.fit cls = true) (hY : Bundle.fit Y = true) (hr : ∀ n ∈ r, Bundle.fit n = true) (h : ∀ w ∈ xt_at own ic cls ix rx Y r, w.before args s = true)
    {a : Addr} {cX : ClassId} {kX : Class} (hfX : s.vm.findClass cls = some cX) (hkX : s.vm.classes[cX]? = some kX) (hcell : W.heap[a]? = some (freshCell cX kX)) (hnew : s.heap.size ≤ a)
    {msg : Value} (hmsg : msg.isRef = true) {g : JFrame} (hg : g.method = m) (hsize : g.locals.size = c.maxLocals) (hlk : g.locked = none) (hen : g.entered = []) {rest : List Value} (hst : g.stack = msg :: .ref a :: .ref a :: rest)
    (d6 : decode c.code g.pc = .ok (.invokespecial ic, 3)) (d9 : decode c.code (g.pc + 3) = .ok (.athrow, 1)) (hout : ∀ x ∈ c.exceptionTable.toList, covers x (g.pc + 3) = false)
    (hRf : r.length + 4 < R.frames) (hRl : 2 * g.monitorRoom + ((Value.ref a :: rest).map fun v => v.category).sum + (13 * (r.length + 2) + 42) ≤ R.locals) (hlocks : meth.locks = false) :
    ∃ U : State, Steps p.tables e below (W.setTop g) U ∧ U.status = .running ∧ Ended U below (.threw a) ∧ s.WarmedH U.vm ∧ s.sameButNew ({ U with vm := s.vm } : State) [] cells slots ∧ ∃ ce, U.heap[a]? = some ce ∧ ce.cls = cX ∧ ce.vm = .none := by
  have q1 : e.platform.frameOwnsMonitors = true := by rw [X.admits.platform]
  have q2 : e.platform.finalization = false := by rw [X.admits.platform]
  have q3 : e.platform.magicAccessors = ({} : Platform).magicAccessors := by rw [X.admits.platform]
  have hA : ∀ w ∈ Bundle.throwableAtoms, w.before args s = true := fun w hw => h w (List.mem_append_left _ hw)
  have hB : ∀ w ∈ Bundle.throwableSAtoms, w.before args s = true := fun w hw => h w (List.mem_append_right _ (List.mem_append_left _ hw))
  have hC : ∀ w ∈ Bundle.passSAtoms cls Y ix rx, w.before args s = true := fun w hw => h w (List.mem_append_right _ (List.mem_append_right _ (List.mem_append_left _ hw)))
  have hD : ∀ w ∈ Bundle.chainSAtoms Y r, w.before args s = true := fun w hw => h w (List.mem_append_right _ (List.mem_append_right _ (List.mem_append_right _ (List.mem_append_left _ hw))))
  have hE : ∀ w ∈ xt_tl own ic cls, w.before args s = true := fun w hw => h w (List.mem_append_right _ (List.mem_append_right _ (List.mem_append_right _ (List.mem_append_right _ hw))))
  clear h
  obtain ⟨t1, t2, t3, t4, t5, t6, t7, t8, t9, t10, t11, t12, t13, t14⟩ : (Cond.methodLink own ic (Bundle.initS cls)).before args s = true ∧ (Cond.instantiable cls 6).before args s = true ∧ (Cond.castable cls cls).before args s = true ∧ (Cond.selects cls Bundle.tFill0 Bundle.tFill0).before args s = true ∧ (Cond.selects cls Bundle.tFill Bundle.tFill).before args s = true ∧ (Cond.lays cls Bundle.tN "cause" "Ljava/lang/Throwable;").before args s = true ∧ (Cond.lays cls Bundle.tN "stackTrace" Bundle.steD).before args s = true ∧ (Cond.lays cls Bundle.tN "suppressedExceptions" Bundle.listD).before args s = true ∧ (Cond.lays cls Bundle.tN "detailMessage" "Ljava/lang/String;").before args s = true ∧ (Cond.isRef (.static Bundle.tN "UNASSIGNED_STACK" Bundle.steD)).before args s = true ∧ (Cond.isRef (.static Bundle.tN "SUPPRESSED_SENTINEL" Bundle.listD)).before args s = true ∧ (Cond.fieldLink Bundle.tN 198 Bundle.tN "backtrace" "Ljava/lang/Object;").before args s = true ∧ (Cond.lays Bundle.tN Bundle.tN "backtrace" "Ljava/lang/Object;").before args s = true ∧ (Cond.lays cls Bundle.tN "backtrace" "Ljava/lang/Object;").before args s = true := by
    refine ⟨hE _ ?_, hE _ ?_, hE _ ?_, hE _ ?_, hE _ ?_, hE _ ?_, hE _ ?_, hE _ ?_, hE _ ?_, hE _ ?_, hE _ ?_, hE _ ?_, hE _ ?_, hE _ ?_⟩ <;> simp [xt_tl]
  have p1 : (Cond.instanceMethod (Bundle.initS cls)).before args s = true := hC _ (by simp [Bundle.passSAtoms])
  have p2 : (Cond.code (Bundle.initS cls) rx 2 none).before args s = true := hC _ (by simp [Bundle.passSAtoms])
  -- Throwable, its constructor, the line of classes up to it
  obtain ⟨T, Z0, L, -, Y0⟩ := ThrowableC.of_atoms (args := args) q1 q2 q3 hA
  obtain ⟨Z, M, LZ, LM, nZ⟩ := Init0T.ofS_atoms (args := args) q3 L Y0 hB
  obtain ⟨P, LP, mP, sP⟩ := PassC.ofS_atoms (args := args) q3 (Bundle.fit_spec hcls).1 (Bundle.fit_spec hY).2 x0 x1 x2 x5 hC
  obtain ⟨P', Ps, len', L', hL, mP', sup', pass'⟩ := Bundle.chainS (args := args) q3 nZ r Y hY hr hD
  have eP : P.sup = P'.m := Option.some.inj (sP.symm.trans mP')
  have fnd : s.vm.findClass cls = some P.m.cls := findClass_of_methodNamed mP
  cases Option.some.inj (hfX.symm.trans fnd)
  obtain ⟨c1, k1, hc1, hk1, hord, -, -, -⟩ := Cond.instantiable_spec t2
  cases Option.some.inj (hc1.symm.trans fnd)
  cases Option.some.inj (hkX.symm.trans hk1)
  have sel0 : selectMethod e.platform s.vm P.m.cls T.fill0 = .method T.fill0 := xt_sel X.admits t4 fnd Y0.fill0 (by decide)
  have selF : selectMethod e.platform s.vm P.m.cls T.fill = .method T.fill := xt_sel X.admits t5 fnd Y0.fill (by decide)
  -- what Throwable's statics hold
  obtain ⟨S0, hS0, isS⟩ := Y0.statics
  obtain ⟨u0, hu0⟩ := Cond.staticRefV Y0.unassigned L.unassignedStatic L.statics hS0 isS t10
  obtain ⟨sn, hsn⟩ := Cond.staticRefV Y0.sentinel L.sentinelStatic L.statics hS0 isS t11
  obtain ⟨S1, hS1', eS1, -, keep⟩ := X.same.2.2.2.2.2 T.aS S0 hS0
  have hS1 : W.heap[T.aS]? = some S1 := hS1'
  have kn : S1.vm ≠ .unknown := by
    rw [eS1]
    intro z
    rw [show S0.vm = .unknown from z] at isS
    cases isS
  have ne : T.aS ≠ a := Nat.ne_of_lt (Nat.lt_of_lt_of_le (Array.getElem?_eq_some_iff.mp hS0).1 hnew)
  -- the new cell's fields
  obtain ⟨iM, fM⟩ := Y0.msg
  obtain ⟨b1, b2, fB, b3, b4, b5, b6, -, nB, tB, ffB⟩ := Cond.ownField (t := .object "java/lang/Object") Y0.found L.cls (by decide +kernel) t12 t13 e.platform q3
  obtain ⟨tyC, dC, hdC, hnC⟩ := Cond.laysAt fnd hk1 Y0.cause t6
  obtain ⟨tyS, dS, hdS, hnS⟩ := Cond.laysAt fnd hk1 Y0.stack t7
  obtain ⟨tyP, dP, hdP, hnP⟩ := Cond.laysAt fnd hk1 Y0.supp t8
  obtain ⟨tyM, dM, hdM, hnM⟩ := Cond.laysAt fnd hk1 fM t9
  obtain ⟨tyB, dB, hdB, hnB⟩ := Cond.laysAt fnd hk1 ffB t14
  have bC := Cond.laysApart hdB hdC hnB hnC (by rw [nB, Y0.causeName]; decide)
  have bS := Cond.laysApart hdB hdS hnB hnS (by rw [nB, Y0.stackName]; decide)
  have bP := Cond.laysApart hdB hdP hnB hnP (by rw [nB, Y0.suppName]; decide)
  have skip : SkipFacts T e.platform s (fun u => u) u0 ((preparedCellV T.toThrowableT (freshCell P.m.cls kX) a u0 sn).withEntry W.cur) := by
    refine ⟨{ ci198 := b1, i198 := b2, fBack := fB }, ⟨b3, b4, b5, b6⟩, ?_, fun _ _ => rfl⟩
    have z := fresh_default (c := P.m.cls) tyB
    rw [tB] at z
    simpa [preparedCellV, Cell.setSlot, Cell.withEntry, Array.getElem?_setIfInBounds, bC, bS, bP, bC.symm, bS.symm, bP.symm, defaultValue] using z
  -- the call, the constructors, the throw
  obtain ⟨tm, _, _, _, vm₁, nT, -, -, -, -, -, -, -, W1, st1⟩ := Steps.initColdS (tb := p.tables) (e := e) (below := below) (s := s) (U := W) X.here hexec X.warmed q3 hown (t := Bundle.initS cls) rfl rfl (Bundle.fit_spec hcls).2 t1 p1 p2 (f := g) hg (a := a) (msg := msg) (rest := .ref a :: rest) hst d6
  cases Option.some.inj (nT.symm.trans mP)
  obtain ⟨vm₂, X₂, st2⟩ := (X.noted W1).ctorMessageOffV hexec (g := { g with stack := .ref a :: rest }) hg hsize T L Z LZ M LM (P :: P' :: Ps)
    (fun Q hQ => by
      rcases List.mem_cons.mp hQ with rfl | hQ
      · exact LP
      · rcases List.mem_cons.mp hQ with rfl | hQ
        · exact L'
        · exact hL Q hQ) ⟨eP, sup', pass'⟩ (u0 := u0) (sen := sn) (self := a) hmsg (cell := freshCell P.m.cls kX) (cellS := S1)
    hcell (fun _ => by simp) (by simp) rfl rfl sel0 selF hS1 ne kn (by rw [keep _ (fun z => nomatch z)]; exact hu0) (by rw [keep _ (fun z => nomatch z)]; exact hsn)
    (Takes.of_laid hk1 hord tyC (by rw [Y0.causeType]; rfl)) (Takes.of_laid hk1 hord tyS (by rw [Y0.stackType]; exact fits_refV_array _ u0)) (Takes.of_laid hk1 hord tyP (by rw [Y0.suppType]; exact fits_refV_object _ sn))
    (Takes.of_laid hk1 hord tyM (by rw [Y0.msgType]; exact fits_refV_object _ ⟨msg, hmsg⟩)) Y0.objLocals skip htr [] d6
    (by simp only [List.length_cons, len']; omega) (by simp only [List.length_cons, len']; omega)
  obtain ⟨hw, h1, h2, h3, h4⟩ := X₂.athrowLeaves hexec (g := { g with stack := .ref a :: rest, pc := g.pc + 3 }) hg hlk hen hout (a := a) (rest := rest) rfl d9
  have lt : a < ((W.setVm vm₁).setVm vm₂).heap.size := (Array.getElem?_eq_some_iff.mp hcell).1
  refine ⟨_, st1 _ (fun acts => ?_), h1, h2, h3, h4.weaken (fun y hy hlt => ?_) (Nat.le_refl _) (Nat.le_refl _), _, heapAt_setCell_self (s := (W.setVm vm₁).setVm vm₂) (plainBareV T.toThrowableT (freshCell P.m.cls kX) a u0 sn msg) lt, rfl, rfl⟩
  · rw [doInvoke_state]
    exact st2 _ hw
  · exfalso
    have hb : y.base = a := by
      simp only [List.nil_append, List.mem_cons, List.not_mem_nil, or_false] at hy
      rcases hy with rfl | rfl | rfl | rfl | rfl <;> rfl
    rw [hb] at hlt
    exact Nat.not_lt.mpr hnew hlt
end XT
