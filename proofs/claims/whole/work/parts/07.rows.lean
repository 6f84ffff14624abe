abbrev zin (i : Int32) (n : Nat) : Prop := 0 ≤ i.toInt ∧ i.toInt < n
def lp {S : Type} (body : S → Option (Nat × S)) : Nat → S → Option (Nat × S)
  | 0, _ => none
  | n + 1, s => match body s with
    | none => none
    | some (0, s') => lp body n s'
    | some (e + 1, s') => some (e + 1, s')
theorem lp_snd {S : Type} {body : S → Option (Nat × S)} {P : S → Prop} {E : Nat → S → Prop} (hb : ∀ s e s', body s = some (e, s') → (e = 0 → P s') → (e ≠ 0 → E e s') → P s) : ∀ n s e s', lp body n s = some (e, s') → E e s' → P s := by
  intro n
  induction n with
  | zero => intro s e s' h; cases h
  | succ n ih =>
    intro s e s' h hE
    cases hbd : body s with
    | none => rw [lp, hbd] at h; cases h
    | some q =>
      obtain ⟨e1, s1⟩ := q
      cases e1 with
      | zero =>
        rw [lp, hbd] at h
        exact hb s 0 s1 hbd (fun _ => ih s1 e s' h hE) (fun q => absurd rfl q)
      | succ k =>
        rw [lp, hbd] at h
        have h2 := Prod.mk.inj (Option.some.inj h)
        rw [← h2.1, ← h2.2] at hE
        exact hb s (k + 1) s1 hbd (fun q => by cases q) (fun _ => hE)
def zB : Nat := 2 ^ 62
def zlet {α β : Type} (x : α) (f : α → β) : β := f x
theorem zite {α : Type} {c : Prop} [Decidable c] {x : Option α} {y : α} (h : (if c then x else none) = some y) : c ∧ x = some y := by
  by_cases hc : c
  · rw [if_pos hc] at h; exact ⟨hc, h⟩
  · rw [if_neg hc] at h; cases h
theorem zbd {α β : Type} {x : Option α} {f : α → Option β} {y : β} (h : x.bind f = some y) : ∃ a, x = some a ∧ f a = some y := Option.bind_eq_some_iff.mp h
theorem zgoodW {y : MethodName} {cc : ByteArray} {nL : Nat} {ret : Option FieldType} (h : Cond.code y cc nL ret ∈ zgd) : GoodIn zgd (.code y cc nL ret :: zgd) := by
  intro w hw
  rcases List.mem_cons.mp hw with e | e
  · subst e
    exact ⟨h, good_of_word (List.mem_filter.mp h).2⟩
  · exact ⟨e, good_of_word (List.mem_filter.mp e).2⟩
section ZH
variable {p : Program} {l : Launch} {e : Env} {R : Room} {s : State} {m : MethodId} {args : Array Value} {below : List Frame} {meth : Method} {c : Code} {Q : State → Prop}
variable {cc : ByteArray} {own : String} {nL : Nat} {D : va_G} {cA : Nat → ClassId} {base : Nat} {sA : Nat → Nat} {h0 : Zh} {pc : Nat} {lo lo' : List (Nat × Value)} {st : List Value} {h : Zh}
theorem g_run {Sm : CallFix p m c cc nL s args zgd own} {rv : Option Value} {h' : Zh} {ls : Array Slot} {H : Heap} {locs : List Loc} {stk st' : List Value} {a : Array Value} (hr : va_Run p l e R s m args below meth c H locs 0 0 0 0 (F0 m pc ls stk) st (zQ D cA base h h' rv a) (zA base)) (z : zsame h0 h) (hS : va_S (zA base) s.heap H locs) (hl : lv_has ls nL lo) (hst : rv.toList ++ st = st') (kk : zG p l e R s m args below meth c Q nL D cA base h0 (pc + 3) lo st' h') : W p l e R s m args below meth c H locs 0 0 Q (F0 m pc ls stk) := by
  intro T hT X0
  obtain ⟨v, st₀, t, T', L, e0, X', hL, e1, e2, ⟨hv, hW', hF, hz⟩, stp⟩ := hr T hT X0
  have hv : v = rv := by injection hv
  subst hv
  subst hst
  obtain ⟨hF1, hF2⟩ := hF
  rw [e0] at hF1 hF2
  obtain ⟨t2, a1, b1⟩ := kk (z.tr hz) T'.heap (locs ++ L) ls (by rw [e1]; exact hW') ⟨Nat.le_trans hS.1 (by rw [e1]; exact hF1), fun q h1 h2 => by rw [e1, hF2 q (Nat.lt_of_lt_of_le h1 hS.1) h2]; exact hS.2.1 q h1 h2, fun q hq => by
      rcases List.mem_append.mp hq with h3 | h3
      · exact hS.2.2 q h3
      · exact hL q h3⟩ hl T' rfl X'
  exact ⟨t2, stp t2 a1, b1⟩
theorem g_pre {av : List Value} {H : Heap} {locs : List Loc} (A : zAm D cA base sA s) (hW : zW D cA base h H) (hS : va_S (zA base) s.heap H locs) : FrameBlind (va_Pc av (fun U => zAm D cA base sA U ∧ zW D cA base h U.heap)) ∧ ∀ U : State, U.heap = H → s.WarmedH U.vm → va_Pc av (fun U => zAm D cA base sA U ∧ zW D cA base h U.heap) av.toArray U :=
  ⟨fun _ _ _ _ q => ⟨q.1, q.2.1.blind, q.2.2⟩, fun U hU hWm => ⟨rfl, A.kept hWm hS hU, by rw [hU]; exact hW⟩⟩
theorem g_callV (X : zX p s m args meth c cc own nL D cA base sA) {y : MethodName} {cc' : ByteArray} {nL' fr lc b ci N idx : Nat} {ret : Option FieldType} {As st' stk : List Value} {rv : Option Value} {h' : Zh} {C : String} {T : u_T} (n : Nat) (hC : zC l y cc' nL' ret fr lc D cA base sA (.ref (base + b) :: As) h rv h') (F : zF ci C T N) (hk : zK h0 b = ci) (hd : y.cls = C ∧ y.cls ≠ "java/lang/invoke/MethodHandle" ∧ y.cls ≠ "java/lang/invoke/VarHandle" ∧ (parseMethodDescriptor y.desc).map (fun d => d.parameters.length) = some n) (w1 : Cond.methodLink own idx y ∈ zgd) (w2 : Cond.instanceMethod y ∈ zgd) (w3 : Cond.selects C y y ∈ zgd) (w4 : Cond.initialized C ∈ zgd) (w5 : Cond.code y cc' nL' ret ∈ zgd) (hR : fr + 1 ≤ R.frames ∧ 8 + (nL' + 11) + lc ≤ R.locals) (hn : As.length = n) (hs : stk = As.reverse ++ .ref (base + b) :: st) (hst : rv.toList ++ st = st') (hsum : (st.map fun v => v.category).sum ≤ 8) (d : decode cc pc = .ok (.invokevirtual idx, 3)) (kk : zG p l e R s m args below meth c Q nL D cA base h0 (pc + 3) lo st' h') : zG p l e R s m args below meth c Q nL D cA base h0 pc lo stk h := fun z H locs ls hW hS hl => by
  have S : CallFix p m c cc nL s args zgd own := ⟨X.1, X.2.1, X.2.2.1, X.2.2.2.1, X.2.2.2.2.1⟩
  have hk : zK h b = ci := by rw [z.2.2.1]; exact hk
  have ha := (hW.2.1 b).1 (by rw [hk]; exact F.1)
  rw [hk] at ha
  have hb := X.2.2.2.2.1
  refine g_run (Sm := S) (va_runV (As := As) (rest := st) S hC (n := n) ⟨callB_of n hb (zgoodW w5) rfl rfl rfl (by rw [hd.1]; exact hb _ w4) (hb _ w1) ⟨hd.2.1, hd.2.2⟩ hR, hb _ w2, hb _ w3⟩ ⟨(g_pre X.2.2.2.2.2.2 hW hS).1, va_recv X.2.2.2.2.2.2.1 (zP1 ha) F.2.1 (q0 := 0) rfl, (g_pre X.2.2.2.2.2.2 hW hS).2⟩ rfl hn hl.1 hs (lv_room hsum) d ⟨Nat.zero_le _, Nat.zero_le _⟩) z hS hl hst kk
theorem g_callS (X : zX p s m args meth c cc own nL D cA base sA) {y : MethodName} {cc' : ByteArray} {nL' fr lc idx : Nat} {ret : Option FieldType} {As st' stk : List Value} {rv : Option Value} {h' : Zh} (n : Nat) (hC : zC l y cc' nL' ret fr lc D cA base sA As h rv h') (hd : y.cls ≠ "java/lang/invoke/MethodHandle" ∧ y.cls ≠ "java/lang/invoke/VarHandle" ∧ (parseMethodDescriptor y.desc).map (fun d => d.parameters.length) = some n) (w1 : Cond.methodLink own idx y ∈ zgd) (w2 : Cond.static y ∈ zgd) (w4 : Cond.initialized y.cls ∈ zgd) (w5 : Cond.code y cc' nL' ret ∈ zgd) (hR : fr + 1 ≤ R.frames ∧ 8 + (nL' + 11) + lc ≤ R.locals) (hn : As.length = n) (hs : stk = As.reverse ++ st) (hst : rv.toList ++ st = st') (hsum : (st.map fun v => v.category).sum ≤ 8) (d : decode cc pc = .ok (.invokestatic idx, 3)) (kk : zG p l e R s m args below meth c Q nL D cA base h0 (pc + 3) lo st' h') : zG p l e R s m args below meth c Q nL D cA base h0 pc lo stk h := fun z H locs ls hW hS hl => by
  have S : CallFix p m c cc nL s args zgd own := ⟨X.1, X.2.1, X.2.2.1, X.2.2.2.1, X.2.2.2.2.1⟩
  have hb := X.2.2.2.2.1
  refine g_run (Sm := S) (va_runS (As := As) (rest := st) S hC (n := n) ⟨callB_of n hb (zgoodW w5) rfl rfl rfl (hb _ w4) (hb _ w1) hd hR, hb _ w2⟩ (g_pre X.2.2.2.2.2.2 hW hS) rfl hn hl.1 hs (lv_room hsum) d ⟨Nat.zero_le _, Nat.zero_le _⟩) z hS hl hst kk
theorem g_callSN (X : zX p s m args meth c cc own nL D cA base sA) {y : MethodName} {cc' : ByteArray} {nL' fr lc idx : Nat} {host : String} {ret : Option FieldType} {As st' stk : List Value} {rv : Option Value} {h' : Zh} (n : Nat) (hC : zC l y cc' nL' ret fr lc D cA base sA As h rv h') (hd : y.cls ≠ "java/lang/invoke/MethodHandle" ∧ y.cls ≠ "java/lang/invoke/VarHandle" ∧ (parseMethodDescriptor y.desc).map (fun d => d.parameters.length) = some n) (w1 : Cond.methodLinkNest own idx y host ∈ znn) (w2 : Cond.static y ∈ zgd) (w4 : Cond.initialized y.cls ∈ zgd) (w5 : Cond.code y cc' nL' ret ∈ zgd) (hR : fr + 1 ≤ R.frames ∧ 8 + (nL' + 11) + lc ≤ R.locals) (hn : As.length = n) (hs : stk = As.reverse ++ st) (hst : rv.toList ++ st = st') (hsum : (st.map fun v => v.category).sum ≤ 8) (d : decode cc pc = .ok (.invokestatic idx, 3)) (kk : zG p l e R s m args below meth c Q nL D cA base h0 (pc + 3) lo st' h') : zG p l e R s m args below meth c Q nL D cA base h0 pc lo stk h := fun z H locs ls hW hS hl => by
  have S : CallFix p m c cc nL s args zgd own := ⟨X.1, X.2.1, X.2.2.1, X.2.2.2.1, X.2.2.2.2.1⟩
  have hb := X.2.2.2.2.1
  refine g_run (Sm := S) (va_runSN (As := As) (rest := st) S hC (n := n) (host := host) ⟨va_cnB n hb (zgoodW w5) rfl rfl rfl (X.2.2.2.2.2.2.2.1 _ w1) (hb _ w4) hd hR, hb _ w2, trivial⟩ (g_pre X.2.2.2.2.2.2 hW hS) rfl hn hl.1 hs (lv_room hsum) d ⟨Nat.zero_le _, Nat.zero_le _⟩) z hS hl hst kk
theorem g_callK (X : zX p s m args meth c cc own nL D cA base sA) {y : MethodName} {cc' : ByteArray} {nL' fr lc i idx : Nat} {ret : Option FieldType} {As st' stk : List Value} {rv : Option Value} {h' : Zh} (n : Nat) (hi : i < ztxt.length) (hC : zC l y cc' nL' ret fr lc D cA base sA (.ref (sA i) :: As) h rv h') (hd : y.cls = RJ0 ∧ y.cls ≠ "java/lang/invoke/MethodHandle" ∧ y.cls ≠ "java/lang/invoke/VarHandle" ∧ (parseMethodDescriptor y.desc).map (fun d => d.parameters.length) = some n) (w1 : Cond.methodLink own idx y ∈ zgd) (w2 : Cond.instanceMethod y ∈ zgd) (w3 : Cond.selects RJ0 y y ∈ zgd) (w4 : Cond.initialized RJ0 ∈ zgd) (w5 : Cond.code y cc' nL' ret ∈ zgd) (hR : fr + 1 ≤ R.frames ∧ 8 + (nL' + 11) + lc ≤ R.locals) (hn : As.length = n) (hs : stk = As.reverse ++ .ref (sA i) :: st) (hst : rv.toList ++ st = st') (hsum : (st.map fun v => v.category).sum ≤ 8) (d : decode cc pc = .ok (.invokevirtual idx, 3)) (kk : zG p l e R s m args below meth c Q nL D cA base h0 (pc + 3) lo st' h') : zG p l e R s m args below meth c Q nL D cA base h0 pc lo stk h := fun z H locs ls hW hS hl => by
  have S : CallFix p m c cc nL s args zgd own := ⟨X.1, X.2.1, X.2.2.1, X.2.2.2.1, X.2.2.2.2.1⟩
  have hb := X.2.2.2.2.1
  obtain ⟨s1, -⟩ := X.2.2.2.2.2.2.2.2.2.2.2.1 i hi
  obtain ⟨cell, g1, g2, g3, -⟩ := s1.kept hS.2.1
  refine g_run (Sm := S) (va_runV (As := As) (rest := st) S hC (n := n) ⟨callB_of n hb (zgoodW w5) rfl rfl rfl (by rw [hd.1]; exact hb _ w4) (hb _ w1) ⟨hd.2.1, hd.2.2⟩ hR, hb _ w2, hb _ w3⟩ ⟨(g_pre X.2.2.2.2.2.2 hW hS).1, ⟨cell, g1, g2, g3⟩, (g_pre X.2.2.2.2.2.2 hW hS).2⟩ rfl hn hl.1 hs (lv_room hsum) d ⟨Nat.zero_le _, Nat.zero_le _⟩) z hS hl hst kk
theorem g_copy (X : zX p s m args meth c cc own nL D cA base sA) {a b idx : Nat} {sp dp n : Int32} (hka : zK h0 a = 100) (hkb : zK h0 b = 100) (hb1 : 0 ≤ sp.toInt ∧ 0 ≤ dp.toInt ∧ 0 ≤ n.toInt ∧ sp.toInt + n.toInt ≤ zL h0 a ∧ dp.toInt + n.toInt ≤ zL h0 b) (w1 : Cond.methodLink own idx arraycopyName ∈ zgd) (w2 : Cond.native arraycopyName ∈ zgd) (w3 : Cond.static arraycopyName ∈ zgd) (w4 : Cond.initialized "java/lang/System" ∈ zgd) (hfr : 1 ≤ R.frames) (hlo : (st.map fun v => v.category).sum + (nativeFrameWords "java/lang/System" "arraycopy" 5 + 11) ≤ R.locals) (d : decode cc pc = .ok (.invokestatic idx, 3)) (kk : zG p l e R s m args below meth c Q nL D cA base h0 (pc + 3) lo st (zaI h b (va_cpy (zI h a) (zI h b) sp.toNatClampNeg dp.toNatClampNeg n.toNatClampNeg))) : zG p l e R s m args below meth c Q nL D cA base h0 pc lo (.int n :: .int dp :: .ref (base + b) :: .int sp :: .ref (base + a) :: st) h := fun z H locs ls hW hS hl => by
  have hka : zK h a = 100 := by rw [z.2.2.1]; exact hka
  have hkb : zK h b = 100 := by rw [z.2.2.1]; exact hkb
  have hb1 : 0 ≤ sp.toInt ∧ 0 ≤ dp.toInt ∧ 0 ≤ n.toInt ∧ sp.toInt + n.toInt ≤ zL h a ∧ dp.toInt + n.toInt ≤ zL h b := by rw [z.2.2.2]; exact hb1
  obtain ⟨b1, b2, b3, b4, b5⟩ := hb1
  have nn : ∀ x : Int32, 0 ≤ x.toInt → x.toInt = (x.toNatClampNeg : Int) := by
    intro x hx
    show x.toInt = ((x.toInt.toNat : Nat) : Int)
    omega
  have ng : ∀ x : Int32, 0 ≤ x.toInt → ¬ x < 0 := by
    intro x hx q
    have := Int32.lt_iff_toInt_lt.mp q
    simp at this
    omega
  intro T hT X0
  have hc0 : H[base + a]? = some (vp_cell (cA 0) (zL h a, .inl (zI h a))) := (hW.2.1 a).2 0 (by decide) hka
  have hc1 : H[base + b]? = some (vp_cell (cA 0) (zL h b, .inl (zI h b))) := (hW.2.1 b).2 0 (by decide) hkb
  have hK := X.2.2.2.2.2.2.1
  have hwd := X.2.2.2.2.1
  obtain ⟨-, k0, hk0, cm0, hkk0⟩ := (hK.2 0 _ rfl).1 (zL h a) (fun j => .int (zI h a j))
  obtain ⟨-, k1, hk1, cm1, hkk1⟩ := (hK.2 0 _ rfl).1 (zL h b) (fun j => .int (zI h b j))
  have e4 : sp.toNatClampNeg + n.toNatClampNeg ≤ zL h a := by have := nn sp b1; have := nn n b3; omega
  have e5 : dp.toNatClampNeg + n.toNatClampNeg ≤ zL h b := by have := nn dp b2; have := nn n b3; omega
  obtain ⟨vm', X', step⟩ := X0.arraycopy X.1 X.2.2.2.1 (hwd _ w1) (hwd _ w2) (hwd _ w3) (hwd _ w4) (src := base + a) (dst := base + b) (cs := vp_cell (cA 0) (zL h a, .inl (zI h a))) (cd := vp_cell (cA 0) (zL h b, .inl (zI h b))) (srcPos := sp) (destPos := dp) (n := n) (by rw [hT]; exact hc0) (by rw [hT]; exact hc1)
    (fun _ h => by cases h) (fun _ h => by cases h) (fun h => by cases h) (fun h => by cases h) hk0 hk1 hkk0 hkk1 (by simp [refKind]) (ng sp b1) (ng dp b2) (ng n b3)
    (by show ¬ _ > ((arrV (cA 0) (zL h a) (fun j => .int (zI h a j))).slots.size : Int); rw [arrV_size]; omega)
    (by show ¬ _ > ((arrV (cA 0) (zL h b) (fun j => .int (zI h b j))).slots.size : Int); rw [arrV_size]; omega)
    (fun vm₁ _ i hi => by
      have e : (vp_cell (cA 0) (zL h a, .inl (zI h a))).slots.getD (sp.toNatClampNeg + i) .null = .int (zI h a (sp.toNatClampNeg + i)) := by
        show (arrV (cA 0) (zL h a) (fun j => .int (zI h a j))).slots.getD _ _ = _
        rw [Array.getD_eq_getD_getElem?, arrV_read _ _ (by omega)]
        rfl
      refine ⟨?_, ?_⟩
      · rw [e]; rfl
      · rw [e]; exact trivial)
    (g := F0 m pc ls (.int n :: .int dp :: .ref (base + b) :: .int sp :: .ref (base + a) :: st)) rfl (by rw [X.2.2.1]; exact hl.1) (rest := st) rfl (by rw [X.2.1]; exact d) hfr (by show 2 * 0 + _ + _ ≤ _; omega)
  have e1 : copied (vp_cell (cA 0) (zL h a, .inl (zI h a))) (vp_cell (cA 0) (zL h b, .inl (zI h b))) sp dp n = vp_cell (cA 0) (zL h b, .inl (va_cpy (zI h a) (zI h b) sp.toNatClampNeg dp.toNatClampNeg n.toNatClampNeg)) := va_copied (fun z => .int z) (cA 0) (cA 0) (zI h a) (zI h b) e4
  rw [e1] at X' step
  have hlt : base + b < H.size := (Array.getElem?_eq_some_iff.mp hc1).1
  generalize hcell : vp_cell (cA 0) (zL h b, .inl (va_cpy (zI h a) (zI h b) sp.toNatClampNeg dp.toNatClampNeg n.toNatClampNeg)) = ncell at X' step
  have hheap : ((T.setVm vm').setCell (base + b) ncell).heap = H.setIfInBounds (base + b) ncell := by rw [← hT]; rfl
  have oq : ∀ q : Nat, q ≠ base + b → (H.setIfInBounds (base + b) ncell)[q]? = H[q]? := fun q hq => by simp [Array.getElem?_setIfInBounds, Ne.symm hq]
  have hself : (H.setIfInBounds (base + b) ncell)[base + b]? = some ncell := by simp [Array.getElem?_setIfInBounds, hlt]
  have hsz : ncell.slots.size = (vp_cell (cA 0) (zL h b, .inl (zI h b))).slots.size := by
    rw [← hcell]
    show (arrV _ _ _).slots.size = (arrV _ _ _).slots.size
    rw [arrV_size, arrV_size]
  obtain ⟨t, a1, c1⟩ := kk z _ _ ls (hW.upd (a := b) (h' := zaI h b (va_cpy (zI h a) (zI h b) sp.toNatClampNeg dp.toNatClampNeg n.toNatClampNeg)) (by simp) oq hc1 hself hsz rfl rfl rfl (fun x hx => ⟨z1_ne _ _ hx, rfl, rfl⟩) ⟨fun hc => (by have hc : zK h b < 13 := hc; omega), fun t ht hkt => by
      have hkt : zK h b = 100 + t := hkt
      have : t = 0 := by omega
      subst this
      show (H.setIfInBounds (base + b) ncell)[base + b]? = some (vp_cell (cA 0) (zL h b, .inl (zI (zaI h b (va_cpy (zI h a) (zI h b) sp.toNatClampNeg dp.toNatClampNeg n.toNatClampNeg)) b)))
      rw [hself, ← hcell]
      congr 3
      show _ = Sum.inl (z1 (zI h) b _ b)
      rw [z1_self]⟩) ⟨by simp; exact hS.1, fun q g1 g2 => by
      rw [oq q (fun e => g2 (by rw [e]; show base ≤ base + b; omega))]
      exact hS.2.1 q g1 g2, fun q hq => by
      rcases List.mem_append.mp hq with h3 | h3
      · exact hS.2.2 q h3
      · obtain ⟨z, -, hz⟩ := List.mem_map.mp h3
        rw [← hz]
        show base ≤ base + b
        omega⟩ hl _ hheap X'
  exact ⟨t, step t a1, c1⟩
theorem g_iret (X : zX p s m args meth c cc own nL D cA base sA) {v : Int32} (hr : meth.sig.returnType = some .int) (d : decode cc pc = .ok (.ireturn, 1)) : zG p l e R s m args below meth c (MQ below (zQ D cA base h0 h (some (.int v))) args s 0 0 (zA base)) nL D cA base h0 pc lo [.int v] h := fun z H locs ls hW hS hl => W.iret X.1 X.2.1 hr (fun t ht hWt => ⟨rfl, by rw [ht]; exact hW, hS.F ht, z⟩) hS.2.2 d X.2.2.2.2.2.1
theorem g_zret (X : zX p s m args meth c cc own nL D cA base sA) {v : Int32} (hb : v = 0 ∨ v = 1) (hr : meth.sig.returnType = some .boolean) (d : decode cc pc = .ok (.ireturn, 1)) : zG p l e R s m args below meth c (MQ below (zQ D cA base h0 h (some (.int v))) args s 0 0 (zA base)) nL D cA base h0 pc lo [.int v] h := fun z H locs ls hW hS hl => W.zret X.1 X.2.1 hr (by rcases hb with e | e <;> rw [e] <;> rfl) (fun t ht hWt => ⟨rfl, by rw [ht]; exact hW, hS.F ht, z⟩) hS.2.2 d X.2.2.2.2.2.1
theorem g_lret (X : zX p s m args meth c cc own nL D cA base sA) {v : Int64} (hr : meth.sig.returnType = some .long) (d : decode cc pc = .ok (.lreturn, 1)) : zG p l e R s m args below meth c (MQ below (zQ D cA base h0 h (some (.long v))) args s 0 0 (zA base)) nL D cA base h0 pc lo [.long v] h := fun z H locs ls hW hS hl => W.lret X.1 X.2.1 hr (fun t ht hWt => ⟨rfl, by rw [ht]; exact hW, hS.F ht, z⟩) hS.2.2 d X.2.2.2.2.2.1
theorem g_aret (X : zX p s m args meth c cc own nL D cA base sA) {v : Nat} {rt : FieldType} (hr : meth.sig.returnType = some rt) (hrt : (∃ n, rt = .object n) ∨ ∃ t, rt = .array t) (d : decode cc pc = .ok (.areturn, 1)) : zG p l e R s m args below meth c (MQ below (zQ D cA base h0 h (some (.ref (base + v)))) args s 0 0 (zA base)) nL D cA base h0 pc lo [.ref (base + v)] h := fun z H locs ls hW hS hl => W.aret X.1 X.2.1 hr hrt (Or.inr ⟨_, rfl⟩) (fun t ht hWt => ⟨rfl, by rw [ht]; exact hW, hS.F ht, z⟩) hS.2.2 d X.2.2.2.2.2.1
theorem g_vret (X : zX p s m args meth c cc own nL D cA base sA) (hr : meth.sig.returnType = none) (d : decode cc pc = .ok (.return_, 1)) : zG p l e R s m args below meth c (MQ below (zQ D cA base h0 h none) args s 0 0 (zA base)) nL D cA base h0 pc lo [] h := fun z H locs ls hW hS hl => W.vret X.1 X.2.1 hr (fun t ht hWt => ⟨rfl, by rw [ht]; exact hW, hS.F ht, z⟩) hS.2.2 d X.2.2.2.2.2.1
theorem g_iald (X : zX p s m args meth c cc own nL D cA base sA) {a : Nat} {i : Int32} (hk : zK h0 a = 100) (hin : zin i (zL h0 a)) (d : decode cc pc = .ok (.iaload, 1)) (kk : zG p l e R s m args below meth c Q nL D cA base h0 (pc + 1) lo (.int (zI h a i.toNatClampNeg) :: st) h) : zG p l e R s m args below meth c Q nL D cA base h0 pc lo (.int i :: .ref (base + a) :: st) h := fun z H locs ls hW hS hl => va_iald X.1 X.2.1 X.2.2.2.2.2.2.1 (zP1 ((hW.2.1 a).2 0 (by decide) (by rw [z.2.2.1]; exact hk))) 0 0 rfl rfl (vp_in_iff.mpr (by rw [z.2.2.2]; exact hin)) d (kk z H locs ls hW hS hl)
theorem g_bald (X : zX p s m args meth c cc own nL D cA base sA) {a : Nat} {i : Int32} (hk : zK h0 a = 101) (hin : zin i (zL h0 a)) (d : decode cc pc = .ok (.baload, 1)) (kk : zG p l e R s m args below meth c Q nL D cA base h0 (pc + 1) lo (.int (zI h a i.toNatClampNeg) :: st) h) : zG p l e R s m args below meth c Q nL D cA base h0 pc lo (.int i :: .ref (base + a) :: st) h := fun z H locs ls hW hS hl => va_bald X.1 X.2.1 X.2.2.2.2.2.2.1 (zP1 ((hW.2.1 a).2 1 (by decide) (by rw [z.2.2.1]; exact hk))) 0 1 rfl rfl (vp_in_iff.mpr (by rw [z.2.2.2]; exact hin)) d (kk z H locs ls hW hS hl)
theorem g_zald (X : zX p s m args meth c cc own nL D cA base sA) {a : Nat} {i : Int32} (hk : zK h0 a = 103) (hin : zin i (zL h0 a)) (d : decode cc pc = .ok (.baload, 1)) (kk : zG p l e R s m args below meth c Q nL D cA base h0 (pc + 1) lo (.int (zI h a i.toNatClampNeg) :: st) h) : zG p l e R s m args below meth c Q nL D cA base h0 pc lo (.int i :: .ref (base + a) :: st) h := fun z H locs ls hW hS hl => va_zald X.1 X.2.1 X.2.2.2.2.2.2.1 (zP1 ((hW.2.1 a).2 3 (by decide) (by rw [z.2.2.1]; exact hk))) 0 3 rfl rfl (vp_in_iff.mpr (by rw [z.2.2.2]; exact hin)) d (kk z H locs ls hW hS hl)
theorem g_lald (X : zX p s m args meth c cc own nL D cA base sA) {a : Nat} {i : Int32} (hk : zK h0 a = 102) (hin : zin i (zL h0 a)) (d : decode cc pc = .ok (.laload, 1)) (kk : zG p l e R s m args below meth c Q nL D cA base h0 (pc + 1) lo (.long (zJ h a i.toNatClampNeg) :: st) h) : zG p l e R s m args below meth c Q nL D cA base h0 pc lo (.int i :: .ref (base + a) :: st) h := fun z H locs ls hW hS hl => va_lald X.1 X.2.1 X.2.2.2.2.2.2.1 (zP1 ((hW.2.1 a).2 2 (by decide) (by rw [z.2.2.1]; exact hk))) 0 2 rfl rfl (vp_in_iff.mpr (by rw [z.2.2.2]; exact hin)) d (kk z H locs ls hW hS hl)
theorem g_aald4 (X : zX p s m args meth c cc own nL D cA base sA) {a b : Nat} {i : Int32} (hk : zK h0 a = 104) (hin : zin i (zL h0 a)) (hr : zR h a i.toNatClampNeg = some b) (d : decode cc pc = .ok (.aaload, 1)) (kk : zG p l e R s m args below meth c Q nL D cA base h0 (pc + 1) lo (.ref (base + b) :: st) h) : zG p l e R s m args below meth c Q nL D cA base h0 pc lo (.int i :: .ref (base + a) :: st) h := fun z H locs ls hW hS hl => by
  refine va_aldq X.1 X.2.1 X.2.2.2.2.2.2.1 (zP1 ((hW.2.1 a).2 4 (by decide) (by rw [z.2.2.1]; exact hk))) 0 4 rfl rfl (vp_in_iff.mpr (by rw [z.2.2.2]; exact hin)) d ?_
  rw [hr]
  exact kk z H locs ls hW hS hl
theorem g_aald5 (X : zX p s m args meth c cc own nL D cA base sA) {a b : Nat} {i : Int32} (hk : zK h0 a = 105) (hin : zin i (zL h0 a)) (hr : zR h a i.toNatClampNeg = some b) (d : decode cc pc = .ok (.aaload, 1)) (kk : zG p l e R s m args below meth c Q nL D cA base h0 (pc + 1) lo (.ref (base + b) :: st) h) : zG p l e R s m args below meth c Q nL D cA base h0 pc lo (.int i :: .ref (base + a) :: st) h := fun z H locs ls hW hS hl => by
  refine va_aldq X.1 X.2.1 X.2.2.2.2.2.2.1 (zP1 ((hW.2.1 a).2 5 (by decide) (by rw [z.2.2.1]; exact hk))) 0 5 rfl rfl (vp_in_iff.mpr (by rw [z.2.2.2]; exact hin)) d ?_
  rw [hr]
  exact kk z H locs ls hW hS hl
theorem g_alen0 (X : zX p s m args meth c cc own nL D cA base sA) {a : Nat} (hk : zK h0 a = 100) (d : decode cc pc = .ok (.arraylength, 1)) (kk : zG p l e R s m args below meth c Q nL D cA base h0 (pc + 1) lo (.int (Int32.ofNat (zL h0 a)) :: st) h) : zG p l e R s m args below meth c Q nL D cA base h0 pc lo (.ref (base + a) :: st) h := fun z H locs ls hW hS hl => va_alen X.1 X.2.1 X.2.2.2.2.2.2.1 (zP1 ((hW.2.1 a).2 0 (by decide) (by rw [z.2.2.1]; exact hk))) 0 0 rfl rfl (by rw [z.2.2.2]) d (kk z H locs ls hW hS hl)
theorem g_alen1 (X : zX p s m args meth c cc own nL D cA base sA) {a : Nat} (hk : zK h0 a = 101) (d : decode cc pc = .ok (.arraylength, 1)) (kk : zG p l e R s m args below meth c Q nL D cA base h0 (pc + 1) lo (.int (Int32.ofNat (zL h0 a)) :: st) h) : zG p l e R s m args below meth c Q nL D cA base h0 pc lo (.ref (base + a) :: st) h := fun z H locs ls hW hS hl => va_alen X.1 X.2.1 X.2.2.2.2.2.2.1 (zP1 ((hW.2.1 a).2 1 (by decide) (by rw [z.2.2.1]; exact hk))) 0 1 rfl rfl (by rw [z.2.2.2]) d (kk z H locs ls hW hS hl)
theorem g_alen2 (X : zX p s m args meth c cc own nL D cA base sA) {a : Nat} (hk : zK h0 a = 102) (d : decode cc pc = .ok (.arraylength, 1)) (kk : zG p l e R s m args below meth c Q nL D cA base h0 (pc + 1) lo (.int (Int32.ofNat (zL h0 a)) :: st) h) : zG p l e R s m args below meth c Q nL D cA base h0 pc lo (.ref (base + a) :: st) h := fun z H locs ls hW hS hl => va_alen X.1 X.2.1 X.2.2.2.2.2.2.1 (zP1 ((hW.2.1 a).2 2 (by decide) (by rw [z.2.2.1]; exact hk))) 0 2 rfl rfl (by rw [z.2.2.2]) d (kk z H locs ls hW hS hl)
theorem g_iast (X : zX p s m args meth c cc own nL D cA base sA) {a : Nat} {i : Int32} {x : Int32} (hk : zK h0 a = 100) (hin : zin i (zL h0 a)) (d : decode cc pc = .ok (.iastore, 1)) (kk : zG p l e R s m args below meth c Q nL D cA base h0 (pc + 1) lo st (zsI h a i.toNatClampNeg x)) : zG p l e R s m args below meth c Q nL D cA base h0 pc lo (.int x :: .int i :: .ref (base + a) :: st) h := fun z H locs ls hW hS hl => by
  have ha : H[base + a]? = some (vp_cell (cA 0) (zL h a, zac base h a 0)) := (hW.2.1 a).2 0 (by decide) (by rw [z.2.2.1]; exact hk)
  have hk : zK h a = 100 := by rw [z.2.2.1]; exact hk
  have hin' := vp_in_iff.mpr (show zin i (zL h a) by rw [z.2.2.2]; exact hin)
  refine W.iast X.1 X.2.1 ha ((X.2.2.2.2.2.2.1.2 0 _ rfl).1 _ (fun j => .int (zI h a j))) (fun q => by cases q) (by show ¬ (i < 0 ∨ (arrV _ _ _).slots.size ≤ _); rw [arrV_size]; exact hin') rfl rfl d fun H1 e1 z1 oq => ?_
  refine kk z H1 _ ls (hW.upd (h' := zsI h a i.toNatClampNeg x) z1 oq ha e1 (zss _ _ _) rfl rfl rfl (fun x hx => ⟨z2_row _ _ _ hx, rfl, rfl⟩) ⟨fun hc => ?_, fun t ht hkt => ?_⟩) (hS.put z1 oq (by show base ≤ base + a; omega)) hl
  · have hc : zK h a < 13 := hc
    omega
  · have hkt : zK h a = 100 + t := hkt
    have : t = 0 := by omega
    subst this
    show H1[base + a]? = some (vp_cell _ (zL h a, zac base (zsI h a i.toNatClampNeg x) a 0))
    rw [e1]
    show some ((vp_cell (cA 0) (zL h a, Sum.inl (zI h a))).setSlot _ _) = some (vp_cell (cA 0) (zL h a, Sum.inl (zI (zsI h a i.toNatClampNeg x) a)))
    rw [vp_cell_i, vp_cell_i, arrV_store]
    congr 2
    funext q
    by_cases hq : q = i.toNatClampNeg
    · subst hq
      simp [updV, zsI, zI, z2]
    · simp [updV, zsI, zI, z2, hq]
theorem g_bast (X : zX p s m args meth c cc own nL D cA base sA) {a : Nat} {i : Int32} {x : Int32} (hk : zK h0 a = 101) (hin : zin i (zL h0 a)) (d : decode cc pc = .ok (.bastore, 1)) (kk : zG p l e R s m args below meth c Q nL D cA base h0 (pc + 1) lo st (zsI h a i.toNatClampNeg x.toInt8.toInt32)) : zG p l e R s m args below meth c Q nL D cA base h0 pc lo (.int x :: .int i :: .ref (base + a) :: st) h := fun z H locs ls hW hS hl => by
  have ha : H[base + a]? = some (vp_cell (cA 1) (zL h a, zac base h a 1)) := (hW.2.1 a).2 1 (by decide) (by rw [z.2.2.1]; exact hk)
  have hk : zK h a = 101 := by rw [z.2.2.1]; exact hk
  have hin' := vp_in_iff.mpr (show zin i (zL h a) by rw [z.2.2.2]; exact hin)
  refine W.bast X.1 X.2.1 ha ((X.2.2.2.2.2.2.1.2 1 _ rfl).1 _ (fun j => .int (zI h a j))) (fun q => by cases q) (by show ¬ (i < 0 ∨ (arrV _ _ _).slots.size ≤ _); rw [arrV_size]; exact hin') rfl rfl d fun H1 e1 z1 oq => ?_
  refine kk z H1 _ ls (hW.upd (h' := zsI h a i.toNatClampNeg x.toInt8.toInt32) z1 oq ha e1 (zss _ _ _) rfl rfl rfl (fun x hx => ⟨z2_row _ _ _ hx, rfl, rfl⟩) ⟨fun hc => ?_, fun t ht hkt => ?_⟩) (hS.put z1 oq (by show base ≤ base + a; omega)) hl
  · have hc : zK h a < 13 := hc
    omega
  · have hkt : zK h a = 100 + t := hkt
    have : t = 1 := by omega
    subst this
    show H1[base + a]? = some (vp_cell _ (zL h a, zac base (zsI h a i.toNatClampNeg x.toInt8.toInt32) a 1))
    rw [e1]
    show some ((vp_cell (cA 1) (zL h a, Sum.inl (zI h a))).setSlot _ _) = some (vp_cell (cA 1) (zL h a, Sum.inl (zI (zsI h a i.toNatClampNeg x.toInt8.toInt32) a)))
    rw [vp_cell_i, vp_cell_i, arrV_store]
    congr 2
    funext q
    by_cases hq : q = i.toNatClampNeg
    · subst hq
      simp [updV, zsI, zI, z2, narrow]
    · simp [updV, zsI, zI, z2, hq]
theorem g_zast (X : zX p s m args meth c cc own nL D cA base sA) {a : Nat} {i : Int32} {x : Int32} (hk : zK h0 a = 103) (hin : zin i (zL h0 a)) (hb : x = 0 ∨ x = 1) (d : decode cc pc = .ok (.bastore, 1)) (kk : zG p l e R s m args below meth c Q nL D cA base h0 (pc + 1) lo st (zsI h a i.toNatClampNeg x)) : zG p l e R s m args below meth c Q nL D cA base h0 pc lo (.int x :: .int i :: .ref (base + a) :: st) h := fun z H locs ls hW hS hl => by
  have ha : H[base + a]? = some (vp_cell (cA 3) (zL h a, zac base h a 3)) := (hW.2.1 a).2 3 (by decide) (by rw [z.2.2.1]; exact hk)
  have hk : zK h a = 103 := by rw [z.2.2.1]; exact hk
  have hin' := vp_in_iff.mpr (show zin i (zL h a) by rw [z.2.2.2]; exact hin)
  refine W.zast X.1 X.2.1 ha ((X.2.2.2.2.2.2.1.2 3 _ rfl).1 _ (fun j => .int (zI h a j))) (fun q => by cases q) (by show ¬ (i < 0 ∨ (arrV _ _ _).slots.size ≤ _); rw [arrV_size]; exact hin') rfl rfl d fun H1 e1 z1 oq => ?_
  refine kk z H1 _ ls (hW.upd (h' := zsI h a i.toNatClampNeg x) z1 oq ha e1 (zss _ _ _) rfl rfl rfl (fun x hx => ⟨z2_row _ _ _ hx, rfl, rfl⟩) ⟨fun hc => ?_, fun t ht hkt => ?_⟩) (hS.put z1 oq (by show base ≤ base + a; omega)) hl
  · have hc : zK h a < 13 := hc
    omega
  · have hkt : zK h a = 100 + t := hkt
    have : t = 3 := by omega
    subst this
    show H1[base + a]? = some (vp_cell _ (zL h a, zac base (zsI h a i.toNatClampNeg x) a 3))
    rw [e1]
    show some ((vp_cell (cA 3) (zL h a, Sum.inl (zI h a))).setSlot _ _) = some (vp_cell (cA 3) (zL h a, Sum.inl (zI (zsI h a i.toNatClampNeg x) a)))
    rw [vp_cell_i, vp_cell_i, arrV_store]
    congr 2
    funext q
    by_cases hq : q = i.toNatClampNeg
    · subst hq
      simp [updV, zsI, zI, z2, zbn hb]
    · simp [updV, zsI, zI, z2, hq]
theorem g_last (X : zX p s m args meth c cc own nL D cA base sA) {a : Nat} {i : Int32} {x : Int64} (hk : zK h0 a = 102) (hin : zin i (zL h0 a)) (d : decode cc pc = .ok (.lastore, 1)) (kk : zG p l e R s m args below meth c Q nL D cA base h0 (pc + 1) lo st (zsJ h a i.toNatClampNeg x)) : zG p l e R s m args below meth c Q nL D cA base h0 pc lo (.long x :: .int i :: .ref (base + a) :: st) h := fun z H locs ls hW hS hl => by
  have ha : H[base + a]? = some (vp_cell (cA 2) (zL h a, zac base h a 2)) := (hW.2.1 a).2 2 (by decide) (by rw [z.2.2.1]; exact hk)
  have hk : zK h a = 102 := by rw [z.2.2.1]; exact hk
  have hin' := vp_in_iff.mpr (show zin i (zL h a) by rw [z.2.2.2]; exact hin)
  refine W.last X.1 X.2.1 ha ((X.2.2.2.2.2.2.1.2 2 _ rfl).1 _ (fun j => .long (zJ h a j))) (fun q => by cases q) (by show ¬ (i < 0 ∨ (arrV _ _ _).slots.size ≤ _); rw [arrV_size]; exact hin') rfl rfl d fun H1 e1 z1 oq => ?_
  refine kk z H1 _ ls (hW.upd (h' := zsJ h a i.toNatClampNeg x) z1 oq ha e1 (zss _ _ _) rfl rfl rfl (fun x hx => ⟨rfl, z2_row _ _ _ hx, rfl⟩) ⟨fun hc => ?_, fun t ht hkt => ?_⟩) (hS.put z1 oq (by show base ≤ base + a; omega)) hl
  · have hc : zK h a < 13 := hc
    omega
  · have hkt : zK h a = 100 + t := hkt
    have : t = 2 := by omega
    subst this
    show H1[base + a]? = some (vp_cell _ (zL h a, zac base (zsJ h a i.toNatClampNeg x) a 2))
    rw [e1]
    show some ((vp_cell (cA 2) (zL h a, (fun f => Sum.inr (Sum.inl f)) (zJ h a))).setSlot _ _) = some (vp_cell (cA 2) (zL h a, (fun f => Sum.inr (Sum.inl f)) (zJ (zsJ h a i.toNatClampNeg x) a)))
    rw [vp_cell_l, vp_cell_l, arrV_store]
    congr 2
    funext q
    by_cases hq : q = i.toNatClampNeg
    · subst hq
      simp [updV, zsJ, zJ, z2]
    · simp [updV, zsJ, zJ, z2, hq]
theorem g_ldc (X : zX p s m args meth c cc own nL D cA base sA) {idx : Nat} {v : Int32} (hw : Cond.constant own idx v ∈ zgd) (d : decode cc pc = .ok (.ldc idx, 2)) (k : zG p l e R s m args below meth c Q nL D cA base h0 (pc + 2) lo (.int v :: st) h) : zG p l e R s m args below meth c Q nL D cA base h0 pc lo st h := fun z H locs ls hW hS hl => lv_ldc X.1 X.2.1 X.2.2.2.1 (X.2.2.2.2.1 _ hw) d (k z H locs ls hW hS hl)
theorem g_ldcw (X : zX p s m args meth c cc own nL D cA base sA) {idx : Nat} {v : Int32} (hw : Cond.constant own idx v ∈ zgd) (d : decode cc pc = .ok (.ldc_w idx, 3)) (k : zG p l e R s m args below meth c Q nL D cA base h0 (pc + 3) lo (.int v :: st) h) : zG p l e R s m args below meth c Q nL D cA base h0 pc lo st h := fun z H locs ls hW hS hl => lv_ldcw X.1 X.2.1 X.2.2.2.1 (X.2.2.2.2.1 _ hw) d (k z H locs ls hW hS hl)
theorem g_ldc2 (X : zX p s m args meth c cc own nL D cA base sA) {idx : Nat} {v : Int64} (hw : Cond.constantLong own idx v ∈ zgd) (d : decode cc pc = .ok (.ldc2_w idx, 3)) (k : zG p l e R s m args below meth c Q nL D cA base h0 (pc + 3) lo (.long v :: st) h) : zG p l e R s m args below meth c Q nL D cA base h0 pc lo st h := fun z H locs ls hW hS hl => lv_ldc2 X.1 X.2.1 X.2.2.2.1 (X.2.2.2.2.1 _ hw) d (k z H locs ls hW hS hl)
theorem g_ldcS (X : zX p s m args meth c cc own nL D cA base sA) {idx i : Nat} {tx : String} (hw : (own, idx, tx, i) ∈ zlit) (d : decode cc pc = .ok (.ldc idx, 2)) (k : zG p l e R s m args below meth c Q nL D cA base h0 (pc + 2) lo (.ref (sA i) :: st) h) : zG p l e R s m args below meth c Q nL D cA base h0 pc lo st h := fun z H locs ls hW hS hl => va_ldcS X.1 X.2.1 X.2.2.2.1 (X.2.2.2.2.2.2.2.2.2.2.1 _ hw) d (k z H locs ls hW hS hl)
theorem z_ldcwS {T : State} {H : Heap} {locs : List Loc} {cells slots : Nat} (X : Stand p l e R s m args below meth c T locs cells slots) (hexec : p.tables.exec = Jvm.exec) {own text : String} {index : Nat} {a : Addr} (hown : s.vm.findClass own = some m.cls)
    (hconst : (Cond.stringRef own index text).before args s = true) (hev : (Term.string own index).eval args s none [] s = some (.ref a)) {g : JFrame} (hg : g.method = m) (hdg : decode c.code g.pc = .ok (.ldc_w index, 3)) :
    ∀ target, Steps p.tables e below (T.setTop { g with pc := g.pc + 3, stack := .ref a :: g.stack }) target → Steps p.tables e below (T.setTop g) target := by
  obtain ⟨k, cf, i, a', hk, hcf, hcp, -, hr, hev'⟩ := Cond.stringRef_spec hown hconst
  cases hev.symm.trans hev'
  obtain ⟨k', hk', he⟩ := X.warmed.alike.2.2 _ _ hk
  have hr' : k'.resolved[index]? = some (some (.string a)) := by
    rcases X.warmed.entry hk hk' index with h | ⟨h, -⟩
    · rw [h]; exact hr
    · rw [hr] at h; cases h
  intro target hrest
  subst hg
  jvm_step X.here [hexec, hdg, ldc_w.wp_string (e := e) (s := T) (f := g) X.here.top hk' (by rw [he]; exact hcf) hcp hr']
  exact hrest
theorem g_ldcwS (X : zX p s m args meth c cc own nL D cA base sA) {idx i : Nat} {tx : String} (hw : (own, idx, tx, i) ∈ zlit) (d : decode cc pc = .ok (.ldc_w idx, 3)) (k : zG p l e R s m args below meth c Q nL D cA base h0 (pc + 3) lo (.ref (sA i) :: st) h) : zG p l e R s m args below meth c Q nL D cA base h0 pc lo st h := fun z H locs ls hW hS hl T hT X0 => by
  obtain ⟨t, a1, b1⟩ := k z H locs ls hW hS hl T hT X0
  have hZ := X.2.2.2.2.2.2.2.2.2.2.1 _ hw
  exact ⟨t, z_ldcwS (H := H) X0 X.1 X.2.2.2.1 (text := tx) (a := sA i) hZ.1 hZ.2 (g := F0 m pc ls st) rfl (by rw [X.2.1]; exact d) t a1, b1⟩
theorem g_tswOut (X : zX p s m args meth c cc own nL D cA base sA) {dflt lw hi : Int} {offs : Array Int} {len : Nat} {x : Int32} (t : Nat) (d : decode cc pc = .ok (.tableswitch dflt lw hi offs, len)) (hh : x.toInt < lw ∨ hi < x.toInt) (ht : (pc : Int) + dflt = (t : Int)) (k : zG p l e R s m args below meth c Q nL D cA base h0 t lo st h) : zG p l e R s m args below meth c Q nL D cA base h0 pc lo (.int x :: st) h := fun z H locs ls hW hS hl => lv_tableOut X.1 X.2.1 d hh ht (k z H locs ls hW hS hl)
theorem g_tswIn (X : zX p s m args meth c cc own nL D cA base sA) {dflt lw hi : Int} {offs : Array Int} {len : Nat} {x : Int32} {off : Int} (t : Nat) (d : decode cc pc = .ok (.tableswitch dflt lw hi offs, len)) (h1 : ¬ x.toInt < lw) (h2 : ¬ hi < x.toInt) (ho : offs[(x.toInt - lw).toNat]? = some off) (ht : (pc : Int) + off = (t : Int)) (k : zG p l e R s m args below meth c Q nL D cA base h0 t lo st h) : zG p l e R s m args below meth c Q nL D cA base h0 pc lo (.int x :: st) h := fun z H locs ls hW hS hl => lv_tableIn X.1 X.2.1 d h1 h2 ho ht (k z H locs ls hW hS hl)
theorem g_mmax (X : zX p s m args meth c cc own nL D cA base sA) {idx : Nat} {x y : Int32} (w1 : Cond.methodLink own idx Lib.Math.max.name ∈ zgd) (w2 : Cond.static Lib.Math.max.name ∈ zgd) (w3 : Cond.initialized "java/lang/Math" ∈ zgd) (w4 : Cond.code Lib.Math.max.name Lib.Math.max.code 2 (some .int) ∈ zgd) (hfr : 1 ≤ R.frames) (hlo : (st.map fun v => v.category).sum + 13 ≤ R.locals) (d : decode cc pc = .ok (.invokestatic idx, 3)) (kk : zG p l e R s m args below meth c Q nL D cA base h0 (pc + 3) lo (.int (if x < y then y else x) :: st) h) : zG p l e R s m args below meth c Q nL D cA base h0 pc lo (.int y :: .int x :: st) h := fun z H locs ls hW hS hl => va_mmax X.1 X.2.1 (by rw [X.2.2.1, hl.1]) X.2.2.2.1 (X.2.2.2.2.1 _ w1) (X.2.2.2.2.1 _ w2) (X.2.2.2.2.1 _ w3) (X.2.2.2.2.1 _ w4) hfr hlo (Nat.zero_le _) (Nat.zero_le _) d (kk z H locs ls hW hS hl)
theorem g_mmin (X : zX p s m args meth c cc own nL D cA base sA) {idx : Nat} {x y : Int32} (w1 : Cond.methodLink own idx Lib.Math.min.name ∈ zgd) (w2 : Cond.static Lib.Math.min.name ∈ zgd) (w3 : Cond.initialized "java/lang/Math" ∈ zgd) (w4 : Cond.code Lib.Math.min.name Lib.Math.min.code 2 (some .int) ∈ zgd) (hfr : 1 ≤ R.frames) (hlo : (st.map fun v => v.category).sum + 13 ≤ R.locals) (d : decode cc pc = .ok (.invokestatic idx, 3)) (kk : zG p l e R s m args below meth c Q nL D cA base h0 (pc + 3) lo (.int (if y < x then y else x) :: st) h) : zG p l e R s m args below meth c Q nL D cA base h0 pc lo (.int y :: .int x :: st) h := fun z H locs ls hW hS hl => va_mmin X.1 X.2.1 (by rw [X.2.2.1, hl.1]) X.2.2.2.1 (X.2.2.2.2.1 _ w1) (X.2.2.2.2.1 _ w2) (X.2.2.2.2.1 _ w3) (X.2.2.2.2.1 _ w4) hfr hlo (Nat.zero_le _) (Nat.zero_le _) d (kk z H locs ls hW hS hl)
theorem g_mminl (X : zX p s m args meth c cc own nL D cA base sA) {idx : Nat} {x y : Int64} (w1 : Cond.methodLink own idx Lib.MathLoose.min_long.x ∈ zgd) (w2 : Cond.static Lib.MathLoose.min_long.x ∈ zgd) (w3 : Cond.initialized "java/lang/Math" ∈ zgd) (w4 : Cond.code Lib.MathLoose.min_long.x Lib.MathLoose.min_long.code 4 (some .long) ∈ zgd) (hfr : 1 ≤ R.frames) (hlo : (st.map fun v => v.category).sum + 15 ≤ R.locals) (d : decode cc pc = .ok (.invokestatic idx, 3)) (kk : zG p l e R s m args below meth c Q nL D cA base h0 (pc + 3) lo (.long (if y < x then y else x) :: st) h) : zG p l e R s m args below meth c Q nL D cA base h0 pc lo (.long y :: .long x :: st) h := fun z H locs ls hW hS hl => va_mmin_long X.1 X.2.1 (by rw [X.2.2.1, hl.1]) X.2.2.2.1 (X.2.2.2.2.1 _ w1) (X.2.2.2.2.1 _ w2) (X.2.2.2.2.1 _ w3) (X.2.2.2.2.1 _ w4) hfr hlo (Nat.zero_le _) (Nat.zero_le _) d (kk z H locs ls hW hS hl)
theorem g_sub (ks : List Nat) (hl' : lv_pick lo ks = lo') (k : zG p l e R s m args below meth c Q nL D cA base h0 pc lo' st h) : zG p l e R s m args below meth c Q nL D cA base h0 pc lo st h := fun z H locs ls hW hS hl => k z H locs ls hW hS (lv_sub hl ks hl')
theorem g_hp {h' : Zh} (k : ∀ h1, h1 = h' → zG p l e R s m args below meth c Q nL D cA base h0 pc lo st h1) : zG p l e R s m args below meth c Q nL D cA base h0 pc lo st h' := k h' rfl
end ZH
theorem zlet_n {α β : Type} {E x : α} {f : α → β} {y : β} (e : x = E) (h : zlet E f = y) : f x = y := by subst e; exact h
theorem zpos {α : Type} {c : Prop} [Decidable c] {a b y : α} (hc : c) (h : (if c then a else b) = y) : a = y := by rwa [if_pos hc] at h
theorem zneg {α : Type} {c : Prop} [Decidable c] {a b y : α} (hc : ¬ c) (h : (if c then a else b) = y) : b = y := by rwa [if_neg hc] at h
def zc2 {α β : Type} (x : Option (α × Zh)) (f : α → Zh → Option β) : Option β := x.bind (fun q => f q.1 q.2)
theorem zc2_e {α β : Type} {x : Option (α × Zh)} {f : α → Zh → Option β} {y : β} (h : zc2 x f = some y) : ∃ a k, x = some (a, k) ∧ f a k = some y := by
  obtain ⟨q, h1, h2⟩ := zbd h
  exact ⟨q.1, q.2, h1, h2⟩
theorem zsm {α β : Type} {a c : α} {b d : β} (h : some (a, b) = some (c, d)) : a = c ∧ b = d := Prod.mk.inj (Option.some.inj h)
theorem zsome {r : Option Nat} (h : r.isSome = true) : ∃ a, r = some a := Option.isSome_iff_exists.mp h
theorem zfv_r {base : Nat} {h : Zh} {a k b : Nat} {ty : FieldType} (hr : zR h a k = some b) (t : zref ty = true) : zfv base h a ty k = .ref (base + b) := by rw [zfv_ref t, hr]; rfl
theorem g_entry {l : Launch} {y : MethodName} {cc : ByteArray} {nL fr lc : Nat} {ret : Option FieldType} {D : va_G} {cA : Nat → ClassId} {base : Nat} {sA : Nat → Nat} {av : List Value} {h h' : Zh} {rv : Option Value} (own : String) (hy : plainName y.cls = true) (hown : y.cls = own) (hav : (lg_sl av).length ≤ nL) (body : ∀ (p : Program) (e : Env) (s : State) (m : MethodId) (args : Array Value) (below : List Frame) (meth : Method) (c : Code), zX p s m args meth c cc own nL D cA base sA → meth.sig.returnType = ret → zG p l e { frames := fr, cells := 0, slots := 0, locals := lc } s m args below meth c (MQ below (zQ D cA base h h' rv) args s 0 0 (zA base)) nL D cA base h 0 (lv_args 0 av) [] h) : zC l y cc nL ret fr lc D cA base sA av h rv h' := by
  refine Met.ofW (cc := cc) (maxL := nL) (ret := ret) hy rfl ?_
  intro p e s m args below meth c s₁ B hml hv
  obtain ⟨rfl, hA, hW⟩ := hv
  have hts := atoms_spec (ws := .code y cc nL ret :: zgd) B.pre
  have hl := lv_entry av (n := nL) hav
  rw [lg_entry_eq]
  exact body p e s m _ below meth c ⟨B.exec, B.bytes, hml, by rw [← hown]; exact findClass_of_methodNamed B.named, fun w hw => hts w (List.mem_cons_of_mem _ hw), B.notSynchronized, hA⟩ B.returns zsame.rf s.heap [] _ hW va_S.rf hl
