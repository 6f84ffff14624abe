/-! methods that make cells: what is left of the room is counted -/
def zsum (f : Nat → Nat) : Nat → Nat
  | 0 => 0
  | n + 1 => zsum f n + f n
def zNC : Nat := 601024
def zNS : Nat := 7293034
def zcnt (h : Zh) : Prop := zS h = zsum (zsz h) (zN h) ∧ zN h ≤ zNC ∧ zS h ≤ zNS
/-- cells may have come, those that were are of their kind and length still -/
def zext (h h' : Zh) : Prop := zN h ≤ zN h' ∧ zS h ≤ zS h' ∧ ∀ i, i < zN h → zK h' i = zK h i ∧ zL h' i = zL h i
theorem zext.rf {h : Zh} : zext h h := ⟨Nat.le_refl _, Nat.le_refl _, fun _ _ => ⟨rfl, rfl⟩⟩
theorem zext.tr {a b c : Zh} (h : zext a b) (k : zext b c) : zext a c := ⟨Nat.le_trans h.1 k.1, Nat.le_trans h.2.1 k.2.1, fun i hi => ⟨(k.2.2 i (Nat.lt_of_lt_of_le hi h.1)).1.trans (h.2.2 i hi).1, (k.2.2 i (Nat.lt_of_lt_of_le hi h.1)).2.trans (h.2.2 i hi).2⟩⟩
theorem zext.sz {h h' : Zh} (x : zext h h') {i : Nat} (hi : i < zN h) : zsz h' i = zsz h i := by unfold zsz; rw [(x.2.2 i hi).1, (x.2.2 i hi).2]
theorem zsame.ext {h h' : Zh} (z : zsame h h') : zext h h' := ⟨Nat.le_of_eq z.1.symm, Nat.le_of_eq z.2.1.symm, fun i _ => ⟨by rw [z.2.2.1], by rw [z.2.2.2]⟩⟩
def zgA (h0 h : Zh) : Prop := zcnt h ∧ zext h0 h
theorem zsum_congr {f g : Nat → Nat} : ∀ {n : Nat}, (∀ i, i < n → f i = g i) → zsum f n = zsum g n
  | 0, _ => rfl
  | n + 1, h => by rw [zsum, zsum, zsum_congr (fun i hi => h i (by omega)), h n (by omega)]
theorem zcnt.mv {h h' : Zh} (z : zcnt h) (eN : zN h' = zN h) (eS : zS h' = zS h) (eK : zK h' = zK h) (eL : zL h' = zL h) : zcnt h' := by
  have e : zsz h' = zsz h := by funext i; unfold zsz; rw [eK, eL]
  unfold zcnt
  rw [eN, eS, e]
  exact z
theorem zgA.mv {h0 h h' : Zh} (z : zgA h0 h) (eN : zN h' = zN h) (eS : zS h' = zS h) (eK : zK h' = zK h) (eL : zL h' = zL h) : zgA h0 h' := ⟨z.1.mv eN eS eK eL, z.2.tr (zsame.ext ⟨eN, eS, eK, eL⟩)⟩
theorem zgA.rf {h : Zh} (z : zcnt h) : zgA h h := ⟨z, zext.rf⟩
def zGA (p : Program) (l : Launch) (e : Env) (R : Room) (s : State) (m : MethodId) (args : Array Value) (below : List Frame) (meth : Method) (c : Code) (Q : State → Prop) (nL : Nat) (D : va_G) (cA : Nat → ClassId) (base : Nat) (h0 : Zh) (pc : Nat) (lo : List (Nat × Value)) (st : List Value) (h : Zh) : Prop :=
  zgA h0 h → ∀ (H : Heap) (locs : List Loc) (ls : Array Slot), zW D cA base h H → va_S (zA base) s.heap H locs → lv_has ls nL lo → W p l e R s m args below meth c H locs (zN h - zN h0) (zS h - zS h0) Q (F0 m pc ls st)
def zQA (D : va_G) (cA : Nat → ClassId) (base : Nat) (h0 hE : Zh) (rv : Option Value) : Array Value → State → Outcome → State → Prop := fun _ st oc t => oc = .returned rv ∧ zW D cA base hE t.heap ∧ va_F (zA base) st t ∧ zgA h0 hE
/-- the contract of a method that may make cells -/
def zCA (l : Launch) (y : MethodName) (cc : ByteArray) (nL : Nat) (ret : Option FieldType) (fr lc : Nat) (D : va_G) (cA : Nat → ClassId) (base : Nat) (sA : Nat → Nat) (av : List Value) (h : Zh) (rv : Option Value) (h' : Zh) : Prop :=
  Met l y (.code y cc nL ret :: zgd) { frames := fr, cells := zNC - zN h, slots := zNS - zS h, locals := lc } (va_Pc av (fun U => zAm D cA base sA U ∧ zW D cA base h U.heap ∧ zcnt h)) (zQA D cA base h h' rv) (zNC - zN h) (zNS - zS h) (zA base)
/-- the room of such a method, and its start -/
def zRm (R : Room) (s : State) (D : va_G) (cA : Nat → ClassId) (base : Nat) (h0 : Zh) : Prop := R.cells = zNC - zN h0 ∧ R.slots = zNS - zS h0 ∧ zW D cA base h0 s.heap ∧ zcnt h0
theorem zdrop {base : Nat} {H : Heap} {f : Nat → Nat} (hf : ∀ (i : Nat) (cell : Cell), H[base + i]? = some cell → cell.slots.size = f i) : ∀ (n k : Nat), H.size = base + n → k ≤ n → ((H.toList.drop (base + k)).map (·.slots.size)).sum = zsum f n - zsum f k := by
  have mono : ∀ n k, k ≤ n → zsum f k ≤ zsum f n := by
    intro n
    induction n with
    | zero => intro k hk; have : k = 0 := by omega
              subst this; exact Nat.le_refl _
    | succ n ih =>
      intro k hk
      by_cases h : k = n + 1
      · subst h; exact Nat.le_refl _
      · have := ih k (by omega)
        rw [zsum]; omega
  intro n k hn hk
  obtain ⟨d, hd⟩ : ∃ d, n = k + d := ⟨n - k, by omega⟩
  subst hd
  clear hk
  induction d generalizing k with
  | zero =>
    have : H.toList.drop (base + k) = [] := List.drop_eq_nil_iff.mpr (by simp; omega)
    rw [this]; simp
  | succ d ih =>
    have hlt : base + k < H.toList.length := by simp; omega
    rw [List.drop_eq_getElem_cons hlt, List.map_cons, List.sum_cons]
    have hc : H[base + k]? = some H.toList[base + k] := by
      rw [← Array.getElem?_toList]; exact List.getElem?_eq_getElem hlt
    rw [hf k _ hc]
    have e := ih (k + 1) (by omega)
    rw [show base + k + 1 = base + (k + 1) by omega, e, show k + 1 + d = k + (d + 1) by omega]
    have m1 := mono (k + (d + 1)) (k + 1) (by omega)
    rw [zsum] at m1 ⊢
    omega
/-- the count of what is new is exact -/
theorem W.tight {p : Program} {l : Launch} {e : Env} {R : Room} {s : State} {m : MethodId} {args : Array Value} {below : List Frame} {meth : Method} {c : Code} {H : Heap} {locs : List Loc} {cells slots k n : Nat} {Q : State → Prop} {g : JFrame} (h1 : H.size ≤ s.heap.size + k) (h2 : ((H.toList.drop s.heap.size).map (·.slots.size)).sum ≤ n) (kk : W p l e R s m args below meth c H locs k n Q g) : W p l e R s m args below meth c H locs cells slots Q g := by
  intro T hT X
  refine kk T hT { X with same := ?_ }
  obtain ⟨s1, s2, s3, s4, s5, s6⟩ := X.same
  exact ⟨s1, s2, by show T.heap.size ≤ _; rw [hT]; exact h1, s4, by show ((T.heap.toList.drop s.heap.size).map _).sum ≤ _; rw [hT]; exact h2, s6⟩
theorem zRm.tight {R : Room} {s : State} {D : va_G} {cA : Nat → ClassId} {base : Nat} {h0 h : Zh} {H : Heap} (r : zRm R s D cA base h0) (hW : zW D cA base h H) (z : zgA h0 h) : H.size ≤ s.heap.size + (zN h - zN h0) ∧ ((H.toList.drop s.heap.size).map (·.slots.size)).sum ≤ zS h - zS h0 := by
  obtain ⟨-, -, w0, c0⟩ := r
  have e0 := w0.1
  have e1 := hW.1
  have z1 := z.2.1
  refine ⟨by omega, ?_⟩
  rw [e0, zdrop hW.2.2 (zN h) (zN h0) e1 z1, z.1.1, c0.1, zsum_congr (fun i hi => z.2.sz hi)]
  exact Nat.le_refl _
section AG
variable {p : Program} {l : Launch} {e : Env} {R : Room} {s : State} {m : MethodId} {args : Array Value} {below : List Frame} {meth : Method} {c : Code} {Q : State → Prop}
variable {cc : ByteArray} {own : String} {nL : Nat} {D : va_G} {cA : Nat → ClassId} {base : Nat} {sA : Nat → Nat} {h0 : Zh} {pc : Nat} {lo lo' : List (Nat × Value)} {st : List Value} {h : Zh}
theorem a_iconst (X : zX p s m args meth c cc own nL D cA base sA) {n : Int} {v : Int32} (d : decode cc pc = .ok (.iconst n, 1)) (hv : Int32.ofInt n = v) (k : zGA p l e R s m args below meth c Q nL D cA base h0 (pc + 1) lo (.int v :: st) h) : zGA p l e R s m args below meth c Q nL D cA base h0 pc lo st h := fun z H locs ls hW hS hl => lv_iconst X.1 X.2.1 d hv (k z H locs ls hW hS hl)
theorem a_bipush (X : zX p s m args meth c cc own nL D cA base sA) {n : Int} {v : Int32} (d : decode cc pc = .ok (.bipush n, 2)) (hv : (Int8.ofInt n).toInt32 = v) (k : zGA p l e R s m args below meth c Q nL D cA base h0 (pc + 2) lo (.int v :: st) h) : zGA p l e R s m args below meth c Q nL D cA base h0 pc lo st h := fun z H locs ls hW hS hl => lv_bipush X.1 X.2.1 d hv (k z H locs ls hW hS hl)
theorem a_sipush (X : zX p s m args meth c cc own nL D cA base sA) {n : Int} {v : Int32} (d : decode cc pc = .ok (.sipush n, 3)) (hv : (Int16.ofInt n).toInt32 = v) (k : zGA p l e R s m args below meth c Q nL D cA base h0 (pc + 3) lo (.int v :: st) h) : zGA p l e R s m args below meth c Q nL D cA base h0 pc lo st h := fun z H locs ls hW hS hl => lv_sipush X.1 X.2.1 d hv (k z H locs ls hW hS hl)
theorem a_lconst (X : zX p s m args meth c cc own nL D cA base sA) {n : Fin 2} {v : Int64} (d : decode cc pc = .ok (.lconst n, 1)) (hv : Int64.ofNat (n : Nat) = v) (k : zGA p l e R s m args below meth c Q nL D cA base h0 (pc + 1) lo (.long v :: st) h) : zGA p l e R s m args below meth c Q nL D cA base h0 pc lo st h := fun z H locs ls hW hS hl => lv_lconst X.1 X.2.1 d hv (k z H locs ls hW hS hl)
theorem a_iload_n (X : zX p s m args meth c cc own nL D cA base sA) {i : Fin 4} {x : Int32} (j : Nat) (d : decode cc pc = .ok (.iload_n i, 1)) (hk : lo[j]? = some ((i : Nat), .int x)) (k : zGA p l e R s m args below meth c Q nL D cA base h0 (pc + 1) lo (.int x :: st) h) : zGA p l e R s m args below meth c Q nL D cA base h0 pc lo st h := fun z H locs ls hW hS hl => lv_iload_n X.1 X.2.1 d rfl (lv_at hl j hk) (k z H locs ls hW hS hl)
theorem a_iload (X : zX p s m args meth c cc own nL D cA base sA) {i : Nat} {x : Int32} (j : Nat) (d : decode cc pc = .ok (.iload i, 2)) (hk : lo[j]? = some (i, .int x)) (k : zGA p l e R s m args below meth c Q nL D cA base h0 (pc + 2) lo (.int x :: st) h) : zGA p l e R s m args below meth c Q nL D cA base h0 pc lo st h := fun z H locs ls hW hS hl => lv_iload X.1 X.2.1 d (lv_at hl j hk) (k z H locs ls hW hS hl)
theorem a_istore_n (X : zX p s m args meth c cc own nL D cA base sA) {i : Fin 4} {x : Int32} (lo' : List (Nat × Value)) (d : decode cc pc = .ok (.istore_n i, 1)) (hn : (i : Nat) < nL) (hl' : ((i : Nat), Value.int x) :: lo.filter (fun q => !(q.1 == (i : Nat)) && !(q.1 + 1 == (i : Nat) && q.2.category == 2)) = lo') (k : zGA p l e R s m args below meth c Q nL D cA base h0 (pc + 1) lo' st h) : zGA p l e R s m args below meth c Q nL D cA base h0 pc lo (.int x :: st) h := fun z H locs ls hW hS hl => lv_istore_n X.1 X.2.1 d rfl hl hn hl' (fun ls' hl2 => k z H locs ls' hW hS hl2)
theorem a_istore (X : zX p s m args meth c cc own nL D cA base sA) {i : Nat} {x : Int32} (lo' : List (Nat × Value)) (d : decode cc pc = .ok (.istore i, 2)) (hn : (i : Nat) < nL) (hl' : ((i : Nat), Value.int x) :: lo.filter (fun q => !(q.1 == (i : Nat)) && !(q.1 + 1 == (i : Nat) && q.2.category == 2)) = lo') (k : zGA p l e R s m args below meth c Q nL D cA base h0 (pc + 2) lo' st h) : zGA p l e R s m args below meth c Q nL D cA base h0 pc lo (.int x :: st) h := fun z H locs ls hW hS hl => lv_istore X.1 X.2.1 d hl hn hl' (fun ls' hl2 => k z H locs ls' hW hS hl2)
theorem a_lload_n (X : zX p s m args meth c cc own nL D cA base sA) {i : Fin 4} {x : Int64} (j : Nat) (d : decode cc pc = .ok (.lload_n i, 1)) (hk : lo[j]? = some ((i : Nat), .long x)) (k : zGA p l e R s m args below meth c Q nL D cA base h0 (pc + 1) lo (.long x :: st) h) : zGA p l e R s m args below meth c Q nL D cA base h0 pc lo st h := fun z H locs ls hW hS hl => lv_lload_n X.1 X.2.1 d rfl (lv_at hl j hk) (k z H locs ls hW hS hl)
theorem a_lload (X : zX p s m args meth c cc own nL D cA base sA) {i : Nat} {x : Int64} (j : Nat) (d : decode cc pc = .ok (.lload i, 2)) (hk : lo[j]? = some (i, .long x)) (k : zGA p l e R s m args below meth c Q nL D cA base h0 (pc + 2) lo (.long x :: st) h) : zGA p l e R s m args below meth c Q nL D cA base h0 pc lo st h := fun z H locs ls hW hS hl => lv_lload X.1 X.2.1 d (lv_at hl j hk) (k z H locs ls hW hS hl)
theorem a_lstore_n (X : zX p s m args meth c cc own nL D cA base sA) {i : Fin 4} {x : Int64} (lo' : List (Nat × Value)) (d : decode cc pc = .ok (.lstore_n i, 1)) (hn : (i : Nat) + 1 < nL) (hl' : ((i : Nat), Value.long x) :: lo.filter (fun q => !(q.1 == (i : Nat)) && (!(q.1 == (i : Nat) + 1) && !(q.1 + 1 == (i : Nat) && q.2.category == 2))) = lo') (k : zGA p l e R s m args below meth c Q nL D cA base h0 (pc + 1) lo' st h) : zGA p l e R s m args below meth c Q nL D cA base h0 pc lo (.long x :: st) h := fun z H locs ls hW hS hl => lv_lstore_n X.1 X.2.1 d rfl hl hn hl' (fun ls' hl2 => k z H locs ls' hW hS hl2)
theorem a_lstore (X : zX p s m args meth c cc own nL D cA base sA) {i : Nat} {x : Int64} (lo' : List (Nat × Value)) (d : decode cc pc = .ok (.lstore i, 2)) (hn : (i : Nat) + 1 < nL) (hl' : ((i : Nat), Value.long x) :: lo.filter (fun q => !(q.1 == (i : Nat)) && (!(q.1 == (i : Nat) + 1) && !(q.1 + 1 == (i : Nat) && q.2.category == 2))) = lo') (k : zGA p l e R s m args below meth c Q nL D cA base h0 (pc + 2) lo' st h) : zGA p l e R s m args below meth c Q nL D cA base h0 pc lo (.long x :: st) h := fun z H locs ls hW hS hl => lv_lstore X.1 X.2.1 d hl hn hl' (fun ls' hl2 => k z H locs ls' hW hS hl2)
theorem a_aload_n (X : zX p s m args meth c cc own nL D cA base sA) {i : Fin 4} {x : Nat} (j : Nat) (d : decode cc pc = .ok (.aload_n i, 1)) (hk : lo[j]? = some ((i : Nat), .ref x)) (k : zGA p l e R s m args below meth c Q nL D cA base h0 (pc + 1) lo (.ref x :: st) h) : zGA p l e R s m args below meth c Q nL D cA base h0 pc lo st h := fun z H locs ls hW hS hl => lv_aload_n X.1 X.2.1 d rfl (lv_at hl j hk) (k z H locs ls hW hS hl)
theorem a_aload (X : zX p s m args meth c cc own nL D cA base sA) {i : Nat} {x : Nat} (j : Nat) (d : decode cc pc = .ok (.aload i, 2)) (hk : lo[j]? = some (i, .ref x)) (k : zGA p l e R s m args below meth c Q nL D cA base h0 (pc + 2) lo (.ref x :: st) h) : zGA p l e R s m args below meth c Q nL D cA base h0 pc lo st h := fun z H locs ls hW hS hl => lv_aload X.1 X.2.1 d (lv_at hl j hk) (k z H locs ls hW hS hl)
theorem a_astore_n (X : zX p s m args meth c cc own nL D cA base sA) {i : Fin 4} {x : Nat} (lo' : List (Nat × Value)) (d : decode cc pc = .ok (.astore_n i, 1)) (hn : (i : Nat) < nL) (hl' : ((i : Nat), Value.ref x) :: lo.filter (fun q => !(q.1 == (i : Nat)) && !(q.1 + 1 == (i : Nat) && q.2.category == 2)) = lo') (k : zGA p l e R s m args below meth c Q nL D cA base h0 (pc + 1) lo' st h) : zGA p l e R s m args below meth c Q nL D cA base h0 pc lo (.ref x :: st) h := fun z H locs ls hW hS hl => lv_astore_n X.1 X.2.1 d rfl hl hn hl' (fun ls' hl2 => k z H locs ls' hW hS hl2)
theorem a_astore (X : zX p s m args meth c cc own nL D cA base sA) {i : Nat} {x : Nat} (lo' : List (Nat × Value)) (d : decode cc pc = .ok (.astore i, 2)) (hn : (i : Nat) < nL) (hl' : ((i : Nat), Value.ref x) :: lo.filter (fun q => !(q.1 == (i : Nat)) && !(q.1 + 1 == (i : Nat) && q.2.category == 2)) = lo') (k : zGA p l e R s m args below meth c Q nL D cA base h0 (pc + 2) lo' st h) : zGA p l e R s m args below meth c Q nL D cA base h0 pc lo (.ref x :: st) h := fun z H locs ls hW hS hl => lv_astore X.1 X.2.1 d hl hn hl' (fun ls' hl2 => k z H locs ls' hW hS hl2)
theorem a_iinc (X : zX p s m args meth c cc own nL D cA base sA) {i j : Nat} {n : Int} {x v : Int32} (lo' : List (Nat × Value)) (d : decode cc pc = .ok (.iinc i n, 3)) (hk : lo[j]? = some (i, .int x)) (hv : x + Int32.ofInt n = v) (hn : i < nL) (hl' : (i, Value.int v) :: lo.filter (fun q => !(q.1 == i) && !(q.1 + 1 == i && q.2.category == 2)) = lo') (k : zGA p l e R s m args below meth c Q nL D cA base h0 (pc + 3) lo' st h) : zGA p l e R s m args below meth c Q nL D cA base h0 pc lo st h := fun z H locs ls hW hS hl => lv_iinc X.1 X.2.1 d hl hk hv hn hl' (fun ls' hl2 => k z H locs ls' hW hS hl2)
theorem a_iadd (X : zX p s m args meth c cc own nL D cA base sA) {x y : Int32} (d : decode cc pc = .ok (.iadd, 1)) (k : zGA p l e R s m args below meth c Q nL D cA base h0 (pc + 1) lo (.int (x + y) :: st) h) : zGA p l e R s m args below meth c Q nL D cA base h0 pc lo (.int y :: .int x :: st) h := fun z H locs ls hW hS hl => lv_iadd X.1 X.2.1 d (k z H locs ls hW hS hl)
theorem a_isub (X : zX p s m args meth c cc own nL D cA base sA) {x y : Int32} (d : decode cc pc = .ok (.isub, 1)) (k : zGA p l e R s m args below meth c Q nL D cA base h0 (pc + 1) lo (.int (x - y) :: st) h) : zGA p l e R s m args below meth c Q nL D cA base h0 pc lo (.int y :: .int x :: st) h := fun z H locs ls hW hS hl => lv_isub X.1 X.2.1 d (k z H locs ls hW hS hl)
theorem a_imul (X : zX p s m args meth c cc own nL D cA base sA) {x y : Int32} (d : decode cc pc = .ok (.imul, 1)) (k : zGA p l e R s m args below meth c Q nL D cA base h0 (pc + 1) lo (.int (x * y) :: st) h) : zGA p l e R s m args below meth c Q nL D cA base h0 pc lo (.int y :: .int x :: st) h := fun z H locs ls hW hS hl => lv_imul X.1 X.2.1 d (k z H locs ls hW hS hl)
theorem a_iand (X : zX p s m args meth c cc own nL D cA base sA) {x y : Int32} (d : decode cc pc = .ok (.iand, 1)) (k : zGA p l e R s m args below meth c Q nL D cA base h0 (pc + 1) lo (.int (x &&& y) :: st) h) : zGA p l e R s m args below meth c Q nL D cA base h0 pc lo (.int y :: .int x :: st) h := fun z H locs ls hW hS hl => lv_iand X.1 X.2.1 d (k z H locs ls hW hS hl)
theorem a_ior (X : zX p s m args meth c cc own nL D cA base sA) {x y : Int32} (d : decode cc pc = .ok (.ior, 1)) (k : zGA p l e R s m args below meth c Q nL D cA base h0 (pc + 1) lo (.int (x ||| y) :: st) h) : zGA p l e R s m args below meth c Q nL D cA base h0 pc lo (.int y :: .int x :: st) h := fun z H locs ls hW hS hl => lv_ior X.1 X.2.1 d (k z H locs ls hW hS hl)
theorem a_ixor (X : zX p s m args meth c cc own nL D cA base sA) {x y : Int32} (d : decode cc pc = .ok (.ixor, 1)) (k : zGA p l e R s m args below meth c Q nL D cA base h0 (pc + 1) lo (.int (x ^^^ y) :: st) h) : zGA p l e R s m args below meth c Q nL D cA base h0 pc lo (.int y :: .int x :: st) h := fun z H locs ls hW hS hl => lv_ixor X.1 X.2.1 d (k z H locs ls hW hS hl)
theorem a_ishl (X : zX p s m args meth c cc own nL D cA base sA) {x y : Int32} (d : decode cc pc = .ok (.ishl, 1)) (k : zGA p l e R s m args below meth c Q nL D cA base h0 (pc + 1) lo (.int (x <<< (y &&& 31)) :: st) h) : zGA p l e R s m args below meth c Q nL D cA base h0 pc lo (.int y :: .int x :: st) h := fun z H locs ls hW hS hl => lv_ishl X.1 X.2.1 d (k z H locs ls hW hS hl)
theorem a_ishr (X : zX p s m args meth c cc own nL D cA base sA) {x y : Int32} (d : decode cc pc = .ok (.ishr, 1)) (k : zGA p l e R s m args below meth c Q nL D cA base h0 (pc + 1) lo (.int (x >>> (y &&& 31)) :: st) h) : zGA p l e R s m args below meth c Q nL D cA base h0 pc lo (.int y :: .int x :: st) h := fun z H locs ls hW hS hl => lv_ishr X.1 X.2.1 d (k z H locs ls hW hS hl)
theorem a_iushr (X : zX p s m args meth c cc own nL D cA base sA) {x y : Int32} (d : decode cc pc = .ok (.iushr, 1)) (k : zGA p l e R s m args below meth c Q nL D cA base h0 (pc + 1) lo (.int (zush x y) :: st) h) : zGA p l e R s m args below meth c Q nL D cA base h0 pc lo (.int y :: .int x :: st) h := fun z H locs ls hW hS hl => lv_iushr X.1 X.2.1 d rfl (k z H locs ls hW hS hl)
theorem a_idiv (X : zX p s m args meth c cc own nL D cA base sA) {x y : Int32} (hne : ¬ y = 0) (d : decode cc pc = .ok (.idiv, 1)) (k : zGA p l e R s m args below meth c Q nL D cA base h0 (pc + 1) lo (.int (x / y) :: st) h) : zGA p l e R s m args below meth c Q nL D cA base h0 pc lo (.int y :: .int x :: st) h := fun z H locs ls hW hS hl => lv_idiv X.1 X.2.1 d hne (k z H locs ls hW hS hl)
theorem a_irem (X : zX p s m args meth c cc own nL D cA base sA) {x y : Int32} (hne : ¬ y = 0) (d : decode cc pc = .ok (.irem, 1)) (k : zGA p l e R s m args below meth c Q nL D cA base h0 (pc + 1) lo (.int (zrem x y) :: st) h) : zGA p l e R s m args below meth c Q nL D cA base h0 pc lo (.int y :: .int x :: st) h := fun z H locs ls hW hS hl => lv_irem X.1 X.2.1 d hne (k z H locs ls hW hS hl)
theorem a_ladd (X : zX p s m args meth c cc own nL D cA base sA) {x y : Int64} (d : decode cc pc = .ok (.ladd, 1)) (k : zGA p l e R s m args below meth c Q nL D cA base h0 (pc + 1) lo (.long (x + y) :: st) h) : zGA p l e R s m args below meth c Q nL D cA base h0 pc lo (.long y :: .long x :: st) h := fun z H locs ls hW hS hl => lv_ladd X.1 X.2.1 d (k z H locs ls hW hS hl)
theorem a_lsub (X : zX p s m args meth c cc own nL D cA base sA) {x y : Int64} (d : decode cc pc = .ok (.lsub, 1)) (k : zGA p l e R s m args below meth c Q nL D cA base h0 (pc + 1) lo (.long (x - y) :: st) h) : zGA p l e R s m args below meth c Q nL D cA base h0 pc lo (.long y :: .long x :: st) h := fun z H locs ls hW hS hl => lv_lsub X.1 X.2.1 d (k z H locs ls hW hS hl)
theorem a_lmul (X : zX p s m args meth c cc own nL D cA base sA) {x y : Int64} (d : decode cc pc = .ok (.lmul, 1)) (k : zGA p l e R s m args below meth c Q nL D cA base h0 (pc + 1) lo (.long (x * y) :: st) h) : zGA p l e R s m args below meth c Q nL D cA base h0 pc lo (.long y :: .long x :: st) h := fun z H locs ls hW hS hl => lv_lmul X.1 X.2.1 d (k z H locs ls hW hS hl)
theorem a_ldiv (X : zX p s m args meth c cc own nL D cA base sA) {x y : Int64} (hne : ¬ y = 0) (d : decode cc pc = .ok (.ldiv, 1)) (k : zGA p l e R s m args below meth c Q nL D cA base h0 (pc + 1) lo (.long (x / y) :: st) h) : zGA p l e R s m args below meth c Q nL D cA base h0 pc lo (.long y :: .long x :: st) h := fun z H locs ls hW hS hl => lv_ldiv X.1 X.2.1 d hne (k z H locs ls hW hS hl)
theorem a_lrem (X : zX p s m args meth c cc own nL D cA base sA) {x y : Int64} (hne : ¬ y = 0) (d : decode cc pc = .ok (.lrem, 1)) (k : zGA p l e R s m args below meth c Q nL D cA base h0 (pc + 1) lo (.long (zlrem x y) :: st) h) : zGA p l e R s m args below meth c Q nL D cA base h0 pc lo (.long y :: .long x :: st) h := fun z H locs ls hW hS hl => lv_lrem X.1 X.2.1 d hne (k z H locs ls hW hS hl)
theorem a_i2l (X : zX p s m args meth c cc own nL D cA base sA) {x : Int32} (d : decode cc pc = .ok (.i2l, 1)) (k : zGA p l e R s m args below meth c Q nL D cA base h0 (pc + 1) lo (.long x.toInt64 :: st) h) : zGA p l e R s m args below meth c Q nL D cA base h0 pc lo (.int x :: st) h := fun z H locs ls hW hS hl => lv_i2l X.1 X.2.1 d rfl (k z H locs ls hW hS hl)
theorem a_l2i (X : zX p s m args meth c cc own nL D cA base sA) {x : Int64} (d : decode cc pc = .ok (.l2i, 1)) (k : zGA p l e R s m args below meth c Q nL D cA base h0 (pc + 1) lo (.int x.toInt32 :: st) h) : zGA p l e R s m args below meth c Q nL D cA base h0 pc lo (.long x :: st) h := fun z H locs ls hW hS hl => lv_l2i X.1 X.2.1 d rfl (k z H locs ls hW hS hl)
theorem a_i2b (X : zX p s m args meth c cc own nL D cA base sA) {x : Int32} (d : decode cc pc = .ok (.i2b, 1)) (k : zGA p l e R s m args below meth c Q nL D cA base h0 (pc + 1) lo (.int x.toInt8.toInt32 :: st) h) : zGA p l e R s m args below meth c Q nL D cA base h0 pc lo (.int x :: st) h := fun z H locs ls hW hS hl => lv_i2b X.1 X.2.1 d rfl (k z H locs ls hW hS hl)
theorem a_lcmp (X : zX p s m args meth c cc own nL D cA base sA) {x y : Int64} (d : decode cc pc = .ok (.lcmp, 1)) (k : zGA p l e R s m args below meth c Q nL D cA base h0 (pc + 1) lo (.int (lg_cmp x y) :: st) h) : zGA p l e R s m args below meth c Q nL D cA base h0 pc lo (.long y :: .long x :: st) h := fun z H locs ls hW hS hl => W.lcmp X.1 X.2.1 d (k z H locs ls hW hS hl)
theorem a_dup (X : zX p s m args meth c cc own nL D cA base sA) {v : Value} (d : decode cc pc = .ok (.dup, 1)) (hv : v.category = 1) (k : zGA p l e R s m args below meth c Q nL D cA base h0 (pc + 1) lo (v :: v :: st) h) : zGA p l e R s m args below meth c Q nL D cA base h0 pc lo (v :: st) h := fun z H locs ls hW hS hl => lv_dup X.1 X.2.1 d hv (k z H locs ls hW hS hl)
theorem a_pop (X : zX p s m args meth c cc own nL D cA base sA) {v : Value} (d : decode cc pc = .ok (.pop, 1)) (hv : v.category = 1) (k : zGA p l e R s m args below meth c Q nL D cA base h0 (pc + 1) lo st h) : zGA p l e R s m args below meth c Q nL D cA base h0 pc lo (v :: st) h := fun z H locs ls hW hS hl => lv_pop X.1 X.2.1 d hv (k z H locs ls hW hS hl)
theorem a_if_eq (X : zX p s m args meth c cc own nL D cA base sA) {x : Int32} {off : Int} (t : Nat) (d : decode cc pc = .ok (.ifCond .eq off, 3)) (ht : (pc : Int) + off = (t : Int)) (kt : x = 0 → zGA p l e R s m args below meth c Q nL D cA base h0 t lo st h) (kf : ¬ (x = 0) → zGA p l e R s m args below meth c Q nL D cA base h0 (pc + 3) lo st h) : zGA p l e R s m args below meth c Q nL D cA base h0 pc lo (.int x :: st) h := fun z H locs ls hW hS hl => lv_if_eq X.1 X.2.1 d ht (fun hc => kt hc z H locs ls hW hS hl) (fun hc => kf hc z H locs ls hW hS hl)
theorem a_icmp_eq (X : zX p s m args meth c cc own nL D cA base sA) {x y : Int32} {off : Int} (t : Nat) (d : decode cc pc = .ok (.if_icmp .eq off, 3)) (ht : (pc : Int) + off = (t : Int)) (kt : x = y → zGA p l e R s m args below meth c Q nL D cA base h0 t lo st h) (kf : ¬ (x = y) → zGA p l e R s m args below meth c Q nL D cA base h0 (pc + 3) lo st h) : zGA p l e R s m args below meth c Q nL D cA base h0 pc lo (.int y :: .int x :: st) h := fun z H locs ls hW hS hl => lv_icmp_eq X.1 X.2.1 d ht (fun hc => kt hc z H locs ls hW hS hl) (fun hc => kf hc z H locs ls hW hS hl)
theorem a_if_ne (X : zX p s m args meth c cc own nL D cA base sA) {x : Int32} {off : Int} (t : Nat) (d : decode cc pc = .ok (.ifCond .ne off, 3)) (ht : (pc : Int) + off = (t : Int)) (kt : ¬ x = 0 → zGA p l e R s m args below meth c Q nL D cA base h0 t lo st h) (kf : x = 0 → zGA p l e R s m args below meth c Q nL D cA base h0 (pc + 3) lo st h) : zGA p l e R s m args below meth c Q nL D cA base h0 pc lo (.int x :: st) h := fun z H locs ls hW hS hl => lv_if_ne X.1 X.2.1 d ht (fun hc => kt hc z H locs ls hW hS hl) (fun hc => kf hc z H locs ls hW hS hl)
theorem a_icmp_ne (X : zX p s m args meth c cc own nL D cA base sA) {x y : Int32} {off : Int} (t : Nat) (d : decode cc pc = .ok (.if_icmp .ne off, 3)) (ht : (pc : Int) + off = (t : Int)) (kt : ¬ x = y → zGA p l e R s m args below meth c Q nL D cA base h0 t lo st h) (kf : x = y → zGA p l e R s m args below meth c Q nL D cA base h0 (pc + 3) lo st h) : zGA p l e R s m args below meth c Q nL D cA base h0 pc lo (.int y :: .int x :: st) h := fun z H locs ls hW hS hl => lv_icmp_ne X.1 X.2.1 d ht (fun hc => kt hc z H locs ls hW hS hl) (fun hc => kf hc z H locs ls hW hS hl)
theorem a_if_lt (X : zX p s m args meth c cc own nL D cA base sA) {x : Int32} {off : Int} (t : Nat) (d : decode cc pc = .ok (.ifCond .lt off, 3)) (ht : (pc : Int) + off = (t : Int)) (kt : x < 0 → zGA p l e R s m args below meth c Q nL D cA base h0 t lo st h) (kf : ¬ (x < 0) → zGA p l e R s m args below meth c Q nL D cA base h0 (pc + 3) lo st h) : zGA p l e R s m args below meth c Q nL D cA base h0 pc lo (.int x :: st) h := fun z H locs ls hW hS hl => lv_if_lt X.1 X.2.1 d ht (fun hc => kt hc z H locs ls hW hS hl) (fun hc => kf hc z H locs ls hW hS hl)
theorem a_icmp_lt (X : zX p s m args meth c cc own nL D cA base sA) {x y : Int32} {off : Int} (t : Nat) (d : decode cc pc = .ok (.if_icmp .lt off, 3)) (ht : (pc : Int) + off = (t : Int)) (kt : x < y → zGA p l e R s m args below meth c Q nL D cA base h0 t lo st h) (kf : ¬ (x < y) → zGA p l e R s m args below meth c Q nL D cA base h0 (pc + 3) lo st h) : zGA p l e R s m args below meth c Q nL D cA base h0 pc lo (.int y :: .int x :: st) h := fun z H locs ls hW hS hl => lv_icmp_lt X.1 X.2.1 d ht (fun hc => kt hc z H locs ls hW hS hl) (fun hc => kf hc z H locs ls hW hS hl)
theorem a_if_ge (X : zX p s m args meth c cc own nL D cA base sA) {x : Int32} {off : Int} (t : Nat) (d : decode cc pc = .ok (.ifCond .ge off, 3)) (ht : (pc : Int) + off = (t : Int)) (kt : 0 ≤ x → zGA p l e R s m args below meth c Q nL D cA base h0 t lo st h) (kf : ¬ (0 ≤ x) → zGA p l e R s m args below meth c Q nL D cA base h0 (pc + 3) lo st h) : zGA p l e R s m args below meth c Q nL D cA base h0 pc lo (.int x :: st) h := fun z H locs ls hW hS hl => lv_if_ge X.1 X.2.1 d ht (fun hc => kt hc z H locs ls hW hS hl) (fun hc => kf hc z H locs ls hW hS hl)
theorem a_icmp_ge (X : zX p s m args meth c cc own nL D cA base sA) {x y : Int32} {off : Int} (t : Nat) (d : decode cc pc = .ok (.if_icmp .ge off, 3)) (ht : (pc : Int) + off = (t : Int)) (kt : y ≤ x → zGA p l e R s m args below meth c Q nL D cA base h0 t lo st h) (kf : ¬ (y ≤ x) → zGA p l e R s m args below meth c Q nL D cA base h0 (pc + 3) lo st h) : zGA p l e R s m args below meth c Q nL D cA base h0 pc lo (.int y :: .int x :: st) h := fun z H locs ls hW hS hl => lv_icmp_ge X.1 X.2.1 d ht (fun hc => kt hc z H locs ls hW hS hl) (fun hc => kf hc z H locs ls hW hS hl)
theorem a_if_gt (X : zX p s m args meth c cc own nL D cA base sA) {x : Int32} {off : Int} (t : Nat) (d : decode cc pc = .ok (.ifCond .gt off, 3)) (ht : (pc : Int) + off = (t : Int)) (kt : 0 < x → zGA p l e R s m args below meth c Q nL D cA base h0 t lo st h) (kf : ¬ (0 < x) → zGA p l e R s m args below meth c Q nL D cA base h0 (pc + 3) lo st h) : zGA p l e R s m args below meth c Q nL D cA base h0 pc lo (.int x :: st) h := fun z H locs ls hW hS hl => lv_if_gt X.1 X.2.1 d ht (fun hc => kt hc z H locs ls hW hS hl) (fun hc => kf hc z H locs ls hW hS hl)
theorem a_icmp_gt (X : zX p s m args meth c cc own nL D cA base sA) {x y : Int32} {off : Int} (t : Nat) (d : decode cc pc = .ok (.if_icmp .gt off, 3)) (ht : (pc : Int) + off = (t : Int)) (kt : y < x → zGA p l e R s m args below meth c Q nL D cA base h0 t lo st h) (kf : ¬ (y < x) → zGA p l e R s m args below meth c Q nL D cA base h0 (pc + 3) lo st h) : zGA p l e R s m args below meth c Q nL D cA base h0 pc lo (.int y :: .int x :: st) h := fun z H locs ls hW hS hl => lv_icmp_gt X.1 X.2.1 d ht (fun hc => kt hc z H locs ls hW hS hl) (fun hc => kf hc z H locs ls hW hS hl)
theorem a_if_le (X : zX p s m args meth c cc own nL D cA base sA) {x : Int32} {off : Int} (t : Nat) (d : decode cc pc = .ok (.ifCond .le off, 3)) (ht : (pc : Int) + off = (t : Int)) (kt : x ≤ 0 → zGA p l e R s m args below meth c Q nL D cA base h0 t lo st h) (kf : ¬ (x ≤ 0) → zGA p l e R s m args below meth c Q nL D cA base h0 (pc + 3) lo st h) : zGA p l e R s m args below meth c Q nL D cA base h0 pc lo (.int x :: st) h := fun z H locs ls hW hS hl => lv_if_le X.1 X.2.1 d ht (fun hc => kt hc z H locs ls hW hS hl) (fun hc => kf hc z H locs ls hW hS hl)
theorem a_icmp_le (X : zX p s m args meth c cc own nL D cA base sA) {x y : Int32} {off : Int} (t : Nat) (d : decode cc pc = .ok (.if_icmp .le off, 3)) (ht : (pc : Int) + off = (t : Int)) (kt : x ≤ y → zGA p l e R s m args below meth c Q nL D cA base h0 t lo st h) (kf : ¬ (x ≤ y) → zGA p l e R s m args below meth c Q nL D cA base h0 (pc + 3) lo st h) : zGA p l e R s m args below meth c Q nL D cA base h0 pc lo (.int y :: .int x :: st) h := fun z H locs ls hW hS hl => lv_icmp_le X.1 X.2.1 d ht (fun hc => kt hc z H locs ls hW hS hl) (fun hc => kf hc z H locs ls hW hS hl)
theorem a_goto (X : zX p s m args meth c cc own nL D cA base sA) {off : Int} (t : Nat) (d : decode cc pc = .ok (.goto off, 3)) (ht : (pc : Int) + off = (t : Int)) (k : zGA p l e R s m args below meth c Q nL D cA base h0 t lo st h) : zGA p l e R s m args below meth c Q nL D cA base h0 pc lo st h := fun z H locs ls hW hS hl => lv_goto X.1 X.2.1 d ht (k z H locs ls hW hS hl)
theorem a_topi {x : Int32} (k : ∀ y : Int32, y = x → zGA p l e R s m args below meth c Q nL D cA base h0 pc lo (.int y :: st) h) : zGA p l e R s m args below meth c Q nL D cA base h0 pc lo (.int x :: st) h := k x rfl
theorem a_topl {x : Int64} (k : ∀ y : Int64, y = x → zGA p l e R s m args below meth c Q nL D cA base h0 pc lo (.long y :: st) h) : zGA p l e R s m args below meth c Q nL D cA base h0 pc lo (.long x :: st) h := k x rfl
theorem a_ifnonnull (X : zX p s m args meth c cc own nL D cA base sA) {r : Option Nat} {off : Int} (t : Nat) (d : decode cc pc = .ok (.ifnonnull off, 3)) (ht : (pc : Int) + off = (t : Int)) (kt : ∀ a, r = some a → zGA p l e R s m args below meth c Q nL D cA base h0 t lo st h) (kf : r = none → zGA p l e R s m args below meth c Q nL D cA base h0 (pc + 3) lo st h) : zGA p l e R s m args below meth c Q nL D cA base h0 pc lo (zvr base r :: st) h := fun z H locs ls hW hS hl => by
  cases r with
  | none => exact lv_ifnonnullN X.1 X.2.1 d (kf rfl z H locs ls hW hS hl)
  | some a => exact lv_ifnonnull X.1 X.2.1 d ht (kt a rfl z H locs ls hW hS hl)
theorem a_ifnull (X : zX p s m args meth c cc own nL D cA base sA) {r : Option Nat} {off : Int} (t : Nat) (d : decode cc pc = .ok (.ifnull off, 3)) (ht : (pc : Int) + off = (t : Int)) (kt : r = none → zGA p l e R s m args below meth c Q nL D cA base h0 t lo st h) (kf : ∀ a, r = some a → zGA p l e R s m args below meth c Q nL D cA base h0 (pc + 3) lo st h) : zGA p l e R s m args below meth c Q nL D cA base h0 pc lo (zvr base r :: st) h := fun z H locs ls hW hS hl => by
  cases r with
  | none => exact lv_ifnullN X.1 X.2.1 d ht (kt rfl z H locs ls hW hS hl)
  | some a => exact lv_ifnull X.1 X.2.1 d (kf a rfl z H locs ls hW hS hl)
theorem a_get (X : zX p s m args meth c cc own nL D cA base sA) {a ci N idx : Nat} {C : String} {T : u_T} {v : Value} (F : zF ci C T N) (hk : zK h a = ci) (k : Nat) (hkN : k < N) (hw : Cond.fieldLink own idx C (T k).2.1 (T k).2.2.1 ∈ zgd) (hd : (T k).1 = C) (hv : zfv base h a (zty ci k) k = v) (d : decode cc pc = .ok (.getfield idx, 3)) (kk : zGA p l e R s m args below meth c Q nL D cA base h0 (pc + 3) lo (v :: st) h) : zGA p l e R s m args below meth c Q nL D cA base h0 pc lo (.ref (base + a) :: st) h := fun z H locs ls hW hS hl => by
  obtain ⟨F1, F2, F3, F4, F5, F6⟩ := F
  have ha := (hW.2.1 a).1 (by rw [hk]; exact F1)
  rw [hk] at ha
  exact va_get X.1 X.2.1 X.2.2.2.2.1 F4 X.2.2.2.1 X.2.2.2.2.2.2.1 (zP1 ha) 0 rfl F2 k hkN (X.2.2.2.2.1 _ hw) (fun x hx => by rw [hd] at hx; exact hx) (by rw [zob_get (by rw [F3]; exact hkN)]; rw [hv]) d (kk z H locs ls hW hS hl)
theorem a_getN (X : zX p s m args meth c cc own nL D cA base sA) {a ci N idx : Nat} {C host : String} {T : u_T} {v : Value} (F : zF ci C T N) (hk : zK h a = ci) (k : Nat) (hkN : k < N) (hw : Cond.fieldLinkNest own idx C (T k).2.1 (T k).2.2.1 host ∈ znn) (hd : (T k).1 = C) (hv : zfv base h a (zty ci k) k = v) (d : decode cc pc = .ok (.getfield idx, 3)) (kk : zGA p l e R s m args below meth c Q nL D cA base h0 (pc + 3) lo (v :: st) h) : zGA p l e R s m args below meth c Q nL D cA base h0 pc lo (.ref (base + a) :: st) h := fun z H locs ls hW hS hl => by
  obtain ⟨F1, F2, F3, F4, F5, F6⟩ := F
  have ha := (hW.2.1 a).1 (by rw [hk]; exact F1)
  rw [hk] at ha
  exact va_getN X.1 X.2.1 X.2.2.2.2.1 F4 X.2.2.2.1 X.2.2.2.2.2.2.1 (zP1 ha) 0 rfl F2 k hkN (va_Nw.use rfl (X.2.2.2.2.2.2.2.1 _ hw)) (fun x hx => by rw [hd] at hx; exact hx) (by rw [zob_get (by rw [F3]; exact hkN)]; rw [hv]) d (kk z H locs ls hW hS hl)
theorem a_put0 (X : zX p s m args meth c cc own nL D cA base sA) {a ci N idx : Nat} {C : String} {T : u_T} {v : Value} {h' : Zh} (F : zF ci C T N) (hk : zK h a = ci) (k : Nat) (hkN : k < N) (hw : Cond.fieldLink own idx C (T k).2.1 (T k).2.2.1 ∈ zgd) (hd : (T k).1 = C) (hfin : (T k).2.2.2 = false) (hn : narrow (zty ci k) v = v) (hfit : fits (zty ci k) v = true) (eN : zN h' = zN h) (eS : zS h' = zS h) (eK : zK h' = zK h) (eL : zL h' = zL h) (o : ∀ x, x ≠ a → zI h' x = zI h x ∧ zJ h' x = zJ h x ∧ zR h' x = zR h x) (eO : zob base h' a ci = (zob base h a ci).set k v) (d : decode cc pc = .ok (.putfield idx, 3)) (kk : zGA p l e R s m args below meth c Q nL D cA base h0 (pc + 3) lo st h') : zGA p l e R s m args below meth c Q nL D cA base h0 pc lo (v :: .ref (base + a) :: st) h := fun z H locs ls hW hS hl => by
  have z : zgA h0 h' := z.mv eN eS eK eL
  obtain ⟨F1, F2, F3, F4, F5, F6⟩ := F
  have ha := (hW.2.1 a).1 (by rw [hk]; exact F1)
  rw [hk] at ha
  obtain ⟨r, h1, cell, q1, q2, q3, q4⟩ := ha
  have hr : r = (C, T, N) := Option.some.inj (h1.symm.trans F2)
  subst hr
  have hap := va_apart (own := own) X.2.2.2.2.1 F4 (zty ci) F5 F6 X.2.2.2.2.2.2.1 F2
  obtain ⟨hS2, hfc, kC, hkC, hkind⟩ := X.2.2.2.2.2.2.1.1 ci _ F2
  obtain ⟨cf, kf, fi, f, hi, hsl⟩ := hS2 k hkN
  have hlay := X.2.2.2.2.1 _ (F4 _ (u_in_lay hkN))
  unfold u_lay at hlay
  rw [if_neg (by rw [hfin]; decide)] at hlay
  have hst := (u_facts hfc hkC (u_lays X.2.2.2.2.1 F4 hkN) hi).1
  have h6 := u_store hfc hkC hkind hlay hi (F5 k hkN) hn hfit
  refine W.putK X.1 X.2.1 (f := f) ⟨X.2.2.2.1, X.2.2.2.2.1 _ hw, ⟨_, _, _, by rw [hd] at hi; exact hi⟩, hst⟩ (by rw [q2]; exact h6) q1 q3 (by rw [hsl]; exact k2_hasslot (q4 k hkN)) rfl rfl d fun H' e1 e2 e3 => ?_
  rw [hsl] at e1 ⊢
  rw [← eN, ← eS]
  refine kk z H' _ _ (hW.upd e2 e3 q1 e1 (zss _ _ _) eN eK eL o ⟨fun hc => ?_, fun t ht hkt => ?_⟩) (hS.put e2 e3 (by show base ≤ base + a; omega)) hl
  · rw [eK, hk, eO]
    exact ⟨_, F2, t_OB.to (V := updV (vp_V (zob base h a ci)) k v) ⟨_, e1, q2, q3, t_set q4 hap hkN v⟩ (fun j _ => vp_updV_set (by rw [zob_len, F3]; exact hkN) v j)⟩
  · rw [eK, hk] at hkt
    omega
theorem a_put0N (X : zX p s m args meth c cc own nL D cA base sA) {a ci N idx : Nat} {C host : String} {T : u_T} {v : Value} {h' : Zh} (F : zF ci C T N) (hk : zK h a = ci) (k : Nat) (hkN : k < N) (hw : Cond.fieldLinkNest own idx C (T k).2.1 (T k).2.2.1 host ∈ znn) (hd : (T k).1 = C) (hfin : (T k).2.2.2 = false) (hn : narrow (zty ci k) v = v) (hfit : fits (zty ci k) v = true) (eN : zN h' = zN h) (eS : zS h' = zS h) (eK : zK h' = zK h) (eL : zL h' = zL h) (o : ∀ x, x ≠ a → zI h' x = zI h x ∧ zJ h' x = zJ h x ∧ zR h' x = zR h x) (eO : zob base h' a ci = (zob base h a ci).set k v) (d : decode cc pc = .ok (.putfield idx, 3)) (kk : zGA p l e R s m args below meth c Q nL D cA base h0 (pc + 3) lo st h') : zGA p l e R s m args below meth c Q nL D cA base h0 pc lo (v :: .ref (base + a) :: st) h := fun z H locs ls hW hS hl => by
  have z : zgA h0 h' := z.mv eN eS eK eL
  obtain ⟨F1, F2, F3, F4, F5, F6⟩ := F
  have ha := (hW.2.1 a).1 (by rw [hk]; exact F1)
  rw [hk] at ha
  obtain ⟨r, h1, cell, q1, q2, q3, q4⟩ := ha
  have hr : r = (C, T, N) := Option.some.inj (h1.symm.trans F2)
  subst hr
  have hap := va_apart (own := own) X.2.2.2.2.1 F4 (zty ci) F5 F6 X.2.2.2.2.2.2.1 F2
  obtain ⟨hS2, hfc, kC, hkC, hkind⟩ := X.2.2.2.2.2.2.1.1 ci _ F2
  obtain ⟨cf, kf, fi, f, hi, hsl⟩ := hS2 k hkN
  have hlay := X.2.2.2.2.1 _ (F4 _ (u_in_lay hkN))
  unfold u_lay at hlay
  rw [if_neg (by rw [hfin]; decide)] at hlay
  have hst := (u_facts hfc hkC (u_lays X.2.2.2.2.1 F4 hkN) hi).1
  have h6 := u_store hfc hkC hkind hlay hi (F5 k hkN) hn hfit
  refine va_WputK X.1 X.2.1 (f := f) X.2.2.2.1 (va_Nw.use rfl (X.2.2.2.2.2.2.2.1 _ hw)) (by rw [hd] at hi; exact hi) hst (by rw [q2]; exact h6) q1 q3 (by rw [hsl]; exact k2_hasslot (q4 k hkN)) rfl rfl d fun H' e1 e2 e3 => ?_
  rw [hsl] at e1 ⊢
  rw [← eN, ← eS]
  refine kk z H' _ _ (hW.upd e2 e3 q1 e1 (zss _ _ _) eN eK eL o ⟨fun hc => ?_, fun t ht hkt => ?_⟩) (hS.put e2 e3 (by show base ≤ base + a; omega)) hl
  · rw [eK, hk, eO]
    exact ⟨_, F2, t_OB.to (V := updV (vp_V (zob base h a ci)) k v) ⟨_, e1, q2, q3, t_set q4 hap hkN v⟩ (fun j _ => vp_updV_set (by rw [zob_len, F3]; exact hkN) v j)⟩
  · rw [eK, hk] at hkt
    omega
theorem a_putI (X : zX p s m args meth c cc own nL D cA base sA) {a ci N idx : Nat} {C : String} {T : u_T} {v : Int32} (F : zF ci C T N) (hk : zK h a = ci) (k : Nat) (hkN : k < N) (hw : Cond.fieldLink own idx C (T k).2.1 (T k).2.2.1 ∈ zgd) (hd : (T k).1 = C) (hfin : (T k).2.2.2 = false) (ht : zty ci k = .int) (d : decode cc pc = .ok (.putfield idx, 3)) (kk : zGA p l e R s m args below meth c Q nL D cA base h0 (pc + 3) lo st (zsI h a k v)) : zGA p l e R s m args below meth c Q nL D cA base h0 pc lo (.int v :: .ref (base + a) :: st) h := a_put0 (h' := zsI h a k v) X F hk k hkN hw hd hfin (by rw [ht]; rfl) (by rw [ht]; rfl) rfl rfl rfl rfl (fun x hx => ⟨z2_row _ _ _ hx, rfl, rfl⟩) (zob_sI (by rw [ht]; rfl)) d kk
theorem a_putZ (X : zX p s m args meth c cc own nL D cA base sA) {a ci N idx : Nat} {C : String} {T : u_T} {v : Int32} (F : zF ci C T N) (hk : zK h a = ci) (hb : v = 0 ∨ v = 1) (k : Nat) (hkN : k < N) (hw : Cond.fieldLink own idx C (T k).2.1 (T k).2.2.1 ∈ zgd) (hd : (T k).1 = C) (hfin : (T k).2.2.2 = false) (ht : zty ci k = .boolean) (d : decode cc pc = .ok (.putfield idx, 3)) (kk : zGA p l e R s m args below meth c Q nL D cA base h0 (pc + 3) lo st (zsI h a k v)) : zGA p l e R s m args below meth c Q nL D cA base h0 pc lo (.int v :: .ref (base + a) :: st) h := a_put0 (h' := zsI h a k v) X F hk k hkN hw hd hfin (by rw [ht]; rcases hb with e | e <;> rw [e] <;> rfl) (by rw [ht]; rcases hb with e | e <;> rw [e] <;> rfl) rfl rfl rfl rfl (fun x hx => ⟨z2_row _ _ _ hx, rfl, rfl⟩) (zob_sI (by rw [ht]; rfl)) d kk
theorem a_putJ (X : zX p s m args meth c cc own nL D cA base sA) {a ci N idx : Nat} {C : String} {T : u_T} {v : Int64} (F : zF ci C T N) (hk : zK h a = ci) (k : Nat) (hkN : k < N) (hw : Cond.fieldLink own idx C (T k).2.1 (T k).2.2.1 ∈ zgd) (hd : (T k).1 = C) (hfin : (T k).2.2.2 = false) (ht : zty ci k = .long) (d : decode cc pc = .ok (.putfield idx, 3)) (kk : zGA p l e R s m args below meth c Q nL D cA base h0 (pc + 3) lo st (zsJ h a k v)) : zGA p l e R s m args below meth c Q nL D cA base h0 pc lo (.long v :: .ref (base + a) :: st) h := a_put0 (h' := zsJ h a k v) X F hk k hkN hw hd hfin (by rw [ht]; rfl) (by rw [ht]; rfl) rfl rfl rfl rfl (fun x hx => ⟨rfl, z2_row _ _ _ hx, rfl⟩) (zob_sJ ht) d kk
theorem a_putR (X : zX p s m args meth c cc own nL D cA base sA) {a ci N idx : Nat} {C : String} {T : u_T} {v : Nat} (F : zF ci C T N) (hk : zK h a = ci) (k : Nat) (hkN : k < N) (hw : Cond.fieldLink own idx C (T k).2.1 (T k).2.2.1 ∈ zgd) (hd : (T k).1 = C) (hfin : (T k).2.2.2 = false) (ht : zref (zty ci k) = true) (d : decode cc pc = .ok (.putfield idx, 3)) (kk : zGA p l e R s m args below meth c Q nL D cA base h0 (pc + 3) lo st (zsR h a k (some v))) : zGA p l e R s m args below meth c Q nL D cA base h0 pc lo (.ref (base + v) :: .ref (base + a) :: st) h := a_put0 (h' := zsR h a k (some v)) X F hk k hkN hw hd hfin (zref_n ht) (zref_f ht) rfl rfl rfl rfl (fun x hx => ⟨rfl, rfl, z2_row _ _ _ hx⟩) (zob_sR ht) d kk
theorem a_putIN (X : zX p s m args meth c cc own nL D cA base sA) {a ci N idx : Nat} {C host : String} {T : u_T} {v : Int32} (F : zF ci C T N) (hk : zK h a = ci) (k : Nat) (hkN : k < N) (hw : Cond.fieldLinkNest own idx C (T k).2.1 (T k).2.2.1 host ∈ znn) (hd : (T k).1 = C) (hfin : (T k).2.2.2 = false) (ht : zty ci k = .int) (d : decode cc pc = .ok (.putfield idx, 3)) (kk : zGA p l e R s m args below meth c Q nL D cA base h0 (pc + 3) lo st (zsI h a k v)) : zGA p l e R s m args below meth c Q nL D cA base h0 pc lo (.int v :: .ref (base + a) :: st) h := a_put0N (h' := zsI h a k v) X F hk k hkN hw hd hfin (by rw [ht]; rfl) (by rw [ht]; rfl) rfl rfl rfl rfl (fun x hx => ⟨z2_row _ _ _ hx, rfl, rfl⟩) (zob_sI (by rw [ht]; rfl)) d kk
theorem a_putZN (X : zX p s m args meth c cc own nL D cA base sA) {a ci N idx : Nat} {C host : String} {T : u_T} {v : Int32} (F : zF ci C T N) (hk : zK h a = ci) (hb : v = 0 ∨ v = 1) (k : Nat) (hkN : k < N) (hw : Cond.fieldLinkNest own idx C (T k).2.1 (T k).2.2.1 host ∈ znn) (hd : (T k).1 = C) (hfin : (T k).2.2.2 = false) (ht : zty ci k = .boolean) (d : decode cc pc = .ok (.putfield idx, 3)) (kk : zGA p l e R s m args below meth c Q nL D cA base h0 (pc + 3) lo st (zsI h a k v)) : zGA p l e R s m args below meth c Q nL D cA base h0 pc lo (.int v :: .ref (base + a) :: st) h := a_put0N (h' := zsI h a k v) X F hk k hkN hw hd hfin (by rw [ht]; rcases hb with e | e <;> rw [e] <;> rfl) (by rw [ht]; rcases hb with e | e <;> rw [e] <;> rfl) rfl rfl rfl rfl (fun x hx => ⟨z2_row _ _ _ hx, rfl, rfl⟩) (zob_sI (by rw [ht]; rfl)) d kk
theorem a_putJN (X : zX p s m args meth c cc own nL D cA base sA) {a ci N idx : Nat} {C host : String} {T : u_T} {v : Int64} (F : zF ci C T N) (hk : zK h a = ci) (k : Nat) (hkN : k < N) (hw : Cond.fieldLinkNest own idx C (T k).2.1 (T k).2.2.1 host ∈ znn) (hd : (T k).1 = C) (hfin : (T k).2.2.2 = false) (ht : zty ci k = .long) (d : decode cc pc = .ok (.putfield idx, 3)) (kk : zGA p l e R s m args below meth c Q nL D cA base h0 (pc + 3) lo st (zsJ h a k v)) : zGA p l e R s m args below meth c Q nL D cA base h0 pc lo (.long v :: .ref (base + a) :: st) h := a_put0N (h' := zsJ h a k v) X F hk k hkN hw hd hfin (by rw [ht]; rfl) (by rw [ht]; rfl) rfl rfl rfl rfl (fun x hx => ⟨rfl, z2_row _ _ _ hx, rfl⟩) (zob_sJ ht) d kk
theorem a_putRN (X : zX p s m args meth c cc own nL D cA base sA) {a ci N idx : Nat} {C host : String} {T : u_T} {v : Nat} (F : zF ci C T N) (hk : zK h a = ci) (k : Nat) (hkN : k < N) (hw : Cond.fieldLinkNest own idx C (T k).2.1 (T k).2.2.1 host ∈ znn) (hd : (T k).1 = C) (hfin : (T k).2.2.2 = false) (ht : zref (zty ci k) = true) (d : decode cc pc = .ok (.putfield idx, 3)) (kk : zGA p l e R s m args below meth c Q nL D cA base h0 (pc + 3) lo st (zsR h a k (some v))) : zGA p l e R s m args below meth c Q nL D cA base h0 pc lo (.ref (base + v) :: .ref (base + a) :: st) h := a_put0N (h' := zsR h a k (some v)) X F hk k hkN hw hd hfin (zref_n ht) (zref_f ht) rfl rfl rfl rfl (fun x hx => ⟨rfl, rfl, z2_row _ _ _ hx⟩) (zob_sR ht) d kk
end AG
section AH
variable {p : Program} {l : Launch} {e : Env} {R : Room} {s : State} {m : MethodId} {args : Array Value} {below : List Frame} {meth : Method} {c : Code} {Q : State → Prop}
variable {cc : ByteArray} {own : String} {nL : Nat} {D : va_G} {cA : Nat → ClassId} {base : Nat} {sA : Nat → Nat} {h0 : Zh} {pc : Nat} {lo lo' : List (Nat × Value)} {st : List Value} {h : Zh}
theorem a_run (r : zRm R s D cA base h0) {rv : Option Value} {h' : Zh} {ls : Array Slot} {H : Heap} {locs : List Loc} {stk st' : List Value} {a : Array Value} (hr : va_Run p l e R s m args below meth c H locs (zN h - zN h0) (zS h - zS h0) 0 0 (F0 m pc ls stk) st (zQ D cA base h h' rv a) (zA base)) (z : zgA h0 h) (hS : va_S (zA base) s.heap H locs) (hl : lv_has ls nL lo) (hst : rv.toList ++ st = st') (kk : zGA p l e R s m args below meth c Q nL D cA base h0 (pc + 3) lo st' h') : W p l e R s m args below meth c H locs (zN h - zN h0) (zS h - zS h0) Q (F0 m pc ls stk) := by
  intro T hT X0
  obtain ⟨v, st₀, t, T', L, e0, X', hL, e1, e2, ⟨hv, hW', hF, hz⟩, stp⟩ := hr T hT X0
  have hv : v = rv := by injection hv
  subst hv
  subst hst
  obtain ⟨hF1, hF2⟩ := hF
  rw [e0] at hF1 hF2
  have z' := z.mv hz.1 hz.2.1 hz.2.2.1 hz.2.2.2
  have X' : Stand p l e R s m args below meth c T' (locs ++ L) (zN h' - zN h0) (zS h' - zS h0) := by rw [hz.1, hz.2.1]; exact X'
  obtain ⟨t2, a1, b1⟩ := kk z' T'.heap (locs ++ L) ls (by rw [e1]; exact hW') ⟨Nat.le_trans hS.1 (by rw [e1]; exact hF1), fun q h1 h2 => by rw [e1, hF2 q (Nat.lt_of_lt_of_le h1 hS.1) h2]; exact hS.2.1 q h1 h2, fun q hq => by
      rcases List.mem_append.mp hq with h3 | h3
      · exact hS.2.2 q h3
      · exact hL q h3⟩ hl T' rfl X'
  exact ⟨t2, stp t2 a1, b1⟩
theorem a_room (r : zRm R s D cA base h0) (z : zgA h0 h) : zN h - zN h0 + 0 ≤ R.cells ∧ zS h - zS h0 + 0 ≤ R.slots := by
  rw [r.1, r.2.1]
  have := z.1.2
  have := z.2.1
  have := z.2.2.1
  omega
/-- calls of methods that make cells -/
theorem a_runA (r : zRm R s D cA base h0) {rv : Option Value} {h' : Zh} {ls : Array Slot} {H : Heap} {locs : List Loc} {stk st' : List Value} {a : Array Value} (hr : va_Run p l e R s m args below meth c H locs (zN h - zN h0) (zS h - zS h0) (zNC - zN h) (zNS - zS h) (F0 m pc ls stk) st (zQA D cA base h h' rv a) (zA base)) (z : zgA h0 h) (hS : va_S (zA base) s.heap H locs) (hl : lv_has ls nL lo) (hst : rv.toList ++ st = st') (kk : zGA p l e R s m args below meth c Q nL D cA base h0 (pc + 3) lo st' h') : W p l e R s m args below meth c H locs (zN h - zN h0) (zS h - zS h0) Q (F0 m pc ls stk) := by
  intro T hT X0
  obtain ⟨v, st₀, t, T', L, e5, X', hL, e1, e2, ⟨hv, hW', hF, hz9⟩, stp⟩ := hr T hT X0
  have hv : v = rv := by injection hv
  subst hv
  subst hst
  obtain ⟨hF1, hF2⟩ := hF
  rw [e5] at hF1 hF2
  have hW2 : zW D cA base h' T'.heap := by rw [e1]; exact hW'
  have z' : zgA h0 h' := ⟨hz9.1, z.2.tr hz9.2⟩
  obtain ⟨g1, g2⟩ := r.tight hW2 z'
  obtain ⟨t2, a1, b1⟩ := W.tight (cells := zN h - zN h0 + (zNC - zN h)) (slots := zS h - zS h0 + (zNS - zS h)) g1 g2 (kk z' T'.heap (locs ++ L) ls hW2 ⟨Nat.le_trans hS.1 (by rw [e1]; exact hF1), fun q h1 h2 => by rw [e1, hF2 q (Nat.lt_of_lt_of_le h1 hS.1) h2]; exact hS.2.1 q h1 h2, fun q hq => by
      rcases List.mem_append.mp hq with h3 | h3
      · exact hS.2.2 q h3
      · exact hL q h3⟩ hl) T' rfl X'
  exact ⟨t2, stp t2 a1, b1⟩
theorem a_roomA (r : zRm R s D cA base h0) (z : zgA h0 h) : zN h - zN h0 + (zNC - zN h) ≤ R.cells ∧ zS h - zS h0 + (zNS - zS h) ≤ R.slots := by
  rw [r.1, r.2.1]
  have := z.1.2
  have := z.2.1
  have := z.2.2.1
  omega
theorem a_preA {av : List Value} {H : Heap} {locs : List Loc} (A : zAm D cA base sA s) (hW : zW D cA base h H) (hS : va_S (zA base) s.heap H locs) (zc : zcnt h) : FrameBlind (va_Pc av (fun U => zAm D cA base sA U ∧ zW D cA base h U.heap ∧ zcnt h)) ∧ ∀ U : State, U.heap = H → s.WarmedH U.vm → va_Pc av (fun U => zAm D cA base sA U ∧ zW D cA base h U.heap ∧ zcnt h) av.toArray U :=
  ⟨fun _ _ _ _ q => ⟨q.1, q.2.1.blind, q.2.2.1, q.2.2.2⟩, fun U hU hWm => ⟨rfl, A.kept hWm hS hU, by rw [hU]; exact hW, zc⟩⟩
theorem a_callV (X : zX p s m args meth c cc own nL D cA base sA) (r : zRm R s D cA base h0) {y : MethodName} {cc' : ByteArray} {nL' fr lc b ci N idx : Nat} {ret : Option FieldType} {As st' stk : List Value} {rv : Option Value} {h' : Zh} {C : String} {T : u_T} (n : Nat) (hC : zC l y cc' nL' ret fr lc D cA base sA (.ref (base + b) :: As) h rv h') (F : zF ci C T N) (hk : zK h b = ci) (hd : y.cls = C ∧ y.cls ≠ "java/lang/invoke/MethodHandle" ∧ y.cls ≠ "java/lang/invoke/VarHandle" ∧ (parseMethodDescriptor y.desc).map (fun d => d.parameters.length) = some n) (w1 : Cond.methodLink own idx y ∈ zgd) (w2 : Cond.instanceMethod y ∈ zgd) (w3 : Cond.selects C y y ∈ zgd) (w4 : Cond.initialized C ∈ zgd) (w5 : Cond.code y cc' nL' ret ∈ zgd) (hR : fr + 1 ≤ R.frames ∧ 8 + (nL' + 11) + lc ≤ R.locals) (hn : As.length = n) (hs : stk = As.reverse ++ .ref (base + b) :: st) (hst : rv.toList ++ st = st') (hsum : (st.map fun v => v.category).sum ≤ 8) (d : decode cc pc = .ok (.invokevirtual idx, 3)) (kk : zGA p l e R s m args below meth c Q nL D cA base h0 (pc + 3) lo st' h') : zGA p l e R s m args below meth c Q nL D cA base h0 pc lo stk h := fun z H locs ls hW hS hl => by
  have S : CallFix p m c cc nL s args zgd own := ⟨X.1, X.2.1, X.2.2.1, X.2.2.2.1, X.2.2.2.2.1⟩
  have ha := (hW.2.1 b).1 (by rw [hk]; exact F.1)
  rw [hk] at ha
  have hb := X.2.2.2.2.1
  refine a_run r (va_runV (As := As) (rest := st) S hC (n := n) ⟨callB_of n hb (zgoodW w5) rfl rfl rfl (by rw [hd.1]; exact hb _ w4) (hb _ w1) ⟨hd.2.1, hd.2.2⟩ hR, hb _ w2, hb _ w3⟩ ⟨(g_pre X.2.2.2.2.2.2 hW hS).1, va_recv X.2.2.2.2.2.2.1 (zP1 ha) F.2.1 (q0 := 0) rfl, (g_pre X.2.2.2.2.2.2 hW hS).2⟩ rfl hn hl.1 hs (lv_room hsum) d (a_room r z)) z hS hl hst kk
theorem a_callS (X : zX p s m args meth c cc own nL D cA base sA) (r : zRm R s D cA base h0) {y : MethodName} {cc' : ByteArray} {nL' fr lc idx : Nat} {ret : Option FieldType} {As st' stk : List Value} {rv : Option Value} {h' : Zh} (n : Nat) (hC : zC l y cc' nL' ret fr lc D cA base sA As h rv h') (hd : y.cls ≠ "java/lang/invoke/MethodHandle" ∧ y.cls ≠ "java/lang/invoke/VarHandle" ∧ (parseMethodDescriptor y.desc).map (fun d => d.parameters.length) = some n) (w1 : Cond.methodLink own idx y ∈ zgd) (w2 : Cond.static y ∈ zgd) (w4 : Cond.initialized y.cls ∈ zgd) (w5 : Cond.code y cc' nL' ret ∈ zgd) (hR : fr + 1 ≤ R.frames ∧ 8 + (nL' + 11) + lc ≤ R.locals) (hn : As.length = n) (hs : stk = As.reverse ++ st) (hst : rv.toList ++ st = st') (hsum : (st.map fun v => v.category).sum ≤ 8) (d : decode cc pc = .ok (.invokestatic idx, 3)) (kk : zGA p l e R s m args below meth c Q nL D cA base h0 (pc + 3) lo st' h') : zGA p l e R s m args below meth c Q nL D cA base h0 pc lo stk h := fun z H locs ls hW hS hl => by
  have S : CallFix p m c cc nL s args zgd own := ⟨X.1, X.2.1, X.2.2.1, X.2.2.2.1, X.2.2.2.2.1⟩
  have hb := X.2.2.2.2.1
  refine a_run r (va_runS (As := As) (rest := st) S hC (n := n) ⟨callB_of n hb (zgoodW w5) rfl rfl rfl (hb _ w4) (hb _ w1) hd hR, hb _ w2⟩ (g_pre X.2.2.2.2.2.2 hW hS) rfl hn hl.1 hs (lv_room hsum) d (a_room r z)) z hS hl hst kk
theorem a_callSN (X : zX p s m args meth c cc own nL D cA base sA) (r : zRm R s D cA base h0) {y : MethodName} {cc' : ByteArray} {nL' fr lc idx : Nat} {host : String} {ret : Option FieldType} {As st' stk : List Value} {rv : Option Value} {h' : Zh} (n : Nat) (hC : zC l y cc' nL' ret fr lc D cA base sA As h rv h') (hd : y.cls ≠ "java/lang/invoke/MethodHandle" ∧ y.cls ≠ "java/lang/invoke/VarHandle" ∧ (parseMethodDescriptor y.desc).map (fun d => d.parameters.length) = some n) (w1 : Cond.methodLinkNest own idx y host ∈ znn) (w2 : Cond.static y ∈ zgd) (w4 : Cond.initialized y.cls ∈ zgd) (w5 : Cond.code y cc' nL' ret ∈ zgd) (hR : fr + 1 ≤ R.frames ∧ 8 + (nL' + 11) + lc ≤ R.locals) (hn : As.length = n) (hs : stk = As.reverse ++ st) (hst : rv.toList ++ st = st') (hsum : (st.map fun v => v.category).sum ≤ 8) (d : decode cc pc = .ok (.invokestatic idx, 3)) (kk : zGA p l e R s m args below meth c Q nL D cA base h0 (pc + 3) lo st' h') : zGA p l e R s m args below meth c Q nL D cA base h0 pc lo stk h := fun z H locs ls hW hS hl => by
  have S : CallFix p m c cc nL s args zgd own := ⟨X.1, X.2.1, X.2.2.1, X.2.2.2.1, X.2.2.2.2.1⟩
  have hb := X.2.2.2.2.1
  refine a_run r (va_runSN (As := As) (rest := st) S hC (n := n) (host := host) ⟨va_cnB n hb (zgoodW w5) rfl rfl rfl (X.2.2.2.2.2.2.2.1 _ w1) (hb _ w4) hd hR, hb _ w2, trivial⟩ (g_pre X.2.2.2.2.2.2 hW hS) rfl hn hl.1 hs (lv_room hsum) d (a_room r z)) z hS hl hst kk
theorem a_callK (X : zX p s m args meth c cc own nL D cA base sA) (r : zRm R s D cA base h0) {y : MethodName} {cc' : ByteArray} {nL' fr lc i idx : Nat} {ret : Option FieldType} {As st' stk : List Value} {rv : Option Value} {h' : Zh} (n : Nat) (hi : i < ztxt.length) (hC : zC l y cc' nL' ret fr lc D cA base sA (.ref (sA i) :: As) h rv h') (hd : y.cls = RJ0 ∧ y.cls ≠ "java/lang/invoke/MethodHandle" ∧ y.cls ≠ "java/lang/invoke/VarHandle" ∧ (parseMethodDescriptor y.desc).map (fun d => d.parameters.length) = some n) (w1 : Cond.methodLink own idx y ∈ zgd) (w2 : Cond.instanceMethod y ∈ zgd) (w3 : Cond.selects RJ0 y y ∈ zgd) (w4 : Cond.initialized RJ0 ∈ zgd) (w5 : Cond.code y cc' nL' ret ∈ zgd) (hR : fr + 1 ≤ R.frames ∧ 8 + (nL' + 11) + lc ≤ R.locals) (hn : As.length = n) (hs : stk = As.reverse ++ .ref (sA i) :: st) (hst : rv.toList ++ st = st') (hsum : (st.map fun v => v.category).sum ≤ 8) (d : decode cc pc = .ok (.invokevirtual idx, 3)) (kk : zGA p l e R s m args below meth c Q nL D cA base h0 (pc + 3) lo st' h') : zGA p l e R s m args below meth c Q nL D cA base h0 pc lo stk h := fun z H locs ls hW hS hl => by
  have S : CallFix p m c cc nL s args zgd own := ⟨X.1, X.2.1, X.2.2.1, X.2.2.2.1, X.2.2.2.2.1⟩
  have hb := X.2.2.2.2.1
  obtain ⟨s1, -⟩ := X.2.2.2.2.2.2.2.2.2.2.2.1 i hi
  obtain ⟨cell, g1, g2, g3, -⟩ := s1.kept hS.2.1
  refine a_run r (va_runV (As := As) (rest := st) S hC (n := n) ⟨callB_of n hb (zgoodW w5) rfl rfl rfl (by rw [hd.1]; exact hb _ w4) (hb _ w1) ⟨hd.2.1, hd.2.2⟩ hR, hb _ w2, hb _ w3⟩ ⟨(g_pre X.2.2.2.2.2.2 hW hS).1, ⟨cell, g1, g2, g3⟩, (g_pre X.2.2.2.2.2.2 hW hS).2⟩ rfl hn hl.1 hs (lv_room hsum) d (a_room r z)) z hS hl hst kk
theorem a_callVA (X : zX p s m args meth c cc own nL D cA base sA) (r : zRm R s D cA base h0) {y : MethodName} {cc' : ByteArray} {nL' fr lc b ci N idx : Nat} {ret : Option FieldType} {As st' stk : List Value} {rv : Option Value} {h' : Zh} {C : String} {T : u_T} (n : Nat) (hC : zCA l y cc' nL' ret fr lc D cA base sA (.ref (base + b) :: As) h rv h') (F : zF ci C T N) (hk : zK h b = ci) (hd : y.cls = C ∧ y.cls ≠ "java/lang/invoke/MethodHandle" ∧ y.cls ≠ "java/lang/invoke/VarHandle" ∧ (parseMethodDescriptor y.desc).map (fun d => d.parameters.length) = some n) (w1 : Cond.methodLink own idx y ∈ zgd) (w2 : Cond.instanceMethod y ∈ zgd) (w3 : Cond.selects C y y ∈ zgd) (w4 : Cond.initialized C ∈ zgd) (w5 : Cond.code y cc' nL' ret ∈ zgd) (hR : fr + 1 ≤ R.frames ∧ 8 + (nL' + 11) + lc ≤ R.locals) (hn : As.length = n) (hs : stk = As.reverse ++ .ref (base + b) :: st) (hst : rv.toList ++ st = st') (hsum : (st.map fun v => v.category).sum ≤ 8) (d : decode cc pc = .ok (.invokevirtual idx, 3)) (kk : zGA p l e R s m args below meth c Q nL D cA base h0 (pc + 3) lo st' h') : zGA p l e R s m args below meth c Q nL D cA base h0 pc lo stk h := fun z H locs ls hW hS hl => by
  have S : CallFix p m c cc nL s args zgd own := ⟨X.1, X.2.1, X.2.2.1, X.2.2.2.1, X.2.2.2.2.1⟩
  have ha := (hW.2.1 b).1 (by rw [hk]; exact F.1)
  rw [hk] at ha
  have hb := X.2.2.2.2.1
  refine a_runA r (va_runV (As := As) (rest := st) S hC (n := n) ⟨callB_of n hb (zgoodW w5) rfl rfl rfl (by rw [hd.1]; exact hb _ w4) (hb _ w1) ⟨hd.2.1, hd.2.2⟩ hR, hb _ w2, hb _ w3⟩ ⟨(a_preA X.2.2.2.2.2.2 hW hS z.1).1, va_recv X.2.2.2.2.2.2.1 (zP1 ha) F.2.1 (q0 := 0) rfl, (a_preA X.2.2.2.2.2.2 hW hS z.1).2⟩ rfl hn hl.1 hs (lv_room hsum) d (a_roomA r z)) z hS hl hst kk
theorem a_callSA (X : zX p s m args meth c cc own nL D cA base sA) (r : zRm R s D cA base h0) {y : MethodName} {cc' : ByteArray} {nL' fr lc idx : Nat} {ret : Option FieldType} {As st' stk : List Value} {rv : Option Value} {h' : Zh} (n : Nat) (hC : zCA l y cc' nL' ret fr lc D cA base sA As h rv h') (hd : y.cls ≠ "java/lang/invoke/MethodHandle" ∧ y.cls ≠ "java/lang/invoke/VarHandle" ∧ (parseMethodDescriptor y.desc).map (fun d => d.parameters.length) = some n) (w1 : Cond.methodLink own idx y ∈ zgd) (w2 : Cond.static y ∈ zgd) (w4 : Cond.initialized y.cls ∈ zgd) (w5 : Cond.code y cc' nL' ret ∈ zgd) (hR : fr + 1 ≤ R.frames ∧ 8 + (nL' + 11) + lc ≤ R.locals) (hn : As.length = n) (hs : stk = As.reverse ++ st) (hst : rv.toList ++ st = st') (hsum : (st.map fun v => v.category).sum ≤ 8) (d : decode cc pc = .ok (.invokestatic idx, 3)) (kk : zGA p l e R s m args below meth c Q nL D cA base h0 (pc + 3) lo st' h') : zGA p l e R s m args below meth c Q nL D cA base h0 pc lo stk h := fun z H locs ls hW hS hl => by
  have S : CallFix p m c cc nL s args zgd own := ⟨X.1, X.2.1, X.2.2.1, X.2.2.2.1, X.2.2.2.2.1⟩
  have hb := X.2.2.2.2.1
  refine a_runA r (va_runS (As := As) (rest := st) S hC (n := n) ⟨callB_of n hb (zgoodW w5) rfl rfl rfl (hb _ w4) (hb _ w1) hd hR, hb _ w2⟩ (a_preA X.2.2.2.2.2.2 hW hS z.1) rfl hn hl.1 hs (lv_room hsum) d (a_roomA r z)) z hS hl hst kk
theorem a_callSNA (X : zX p s m args meth c cc own nL D cA base sA) (r : zRm R s D cA base h0) {y : MethodName} {cc' : ByteArray} {nL' fr lc idx : Nat} {host : String} {ret : Option FieldType} {As st' stk : List Value} {rv : Option Value} {h' : Zh} (n : Nat) (hC : zCA l y cc' nL' ret fr lc D cA base sA As h rv h') (hd : y.cls ≠ "java/lang/invoke/MethodHandle" ∧ y.cls ≠ "java/lang/invoke/VarHandle" ∧ (parseMethodDescriptor y.desc).map (fun d => d.parameters.length) = some n) (w1 : Cond.methodLinkNest own idx y host ∈ znn) (w2 : Cond.static y ∈ zgd) (w4 : Cond.initialized y.cls ∈ zgd) (w5 : Cond.code y cc' nL' ret ∈ zgd) (hR : fr + 1 ≤ R.frames ∧ 8 + (nL' + 11) + lc ≤ R.locals) (hn : As.length = n) (hs : stk = As.reverse ++ st) (hst : rv.toList ++ st = st') (hsum : (st.map fun v => v.category).sum ≤ 8) (d : decode cc pc = .ok (.invokestatic idx, 3)) (kk : zGA p l e R s m args below meth c Q nL D cA base h0 (pc + 3) lo st' h') : zGA p l e R s m args below meth c Q nL D cA base h0 pc lo stk h := fun z H locs ls hW hS hl => by
  have S : CallFix p m c cc nL s args zgd own := ⟨X.1, X.2.1, X.2.2.1, X.2.2.2.1, X.2.2.2.2.1⟩
  have hb := X.2.2.2.2.1
  refine a_runA r (va_runSN (As := As) (rest := st) S hC (n := n) (host := host) ⟨va_cnB n hb (zgoodW w5) rfl rfl rfl (X.2.2.2.2.2.2.2.1 _ w1) (hb _ w4) hd hR, hb _ w2, trivial⟩ (a_preA X.2.2.2.2.2.2 hW hS z.1) rfl hn hl.1 hs (lv_room hsum) d (a_roomA r z)) z hS hl hst kk
theorem a_callKA (X : zX p s m args meth c cc own nL D cA base sA) (r : zRm R s D cA base h0) {y : MethodName} {cc' : ByteArray} {nL' fr lc i idx : Nat} {ret : Option FieldType} {As st' stk : List Value} {rv : Option Value} {h' : Zh} (n : Nat) (hi : i < ztxt.length) (hC : zCA l y cc' nL' ret fr lc D cA base sA (.ref (sA i) :: As) h rv h') (hd : y.cls = RJ0 ∧ y.cls ≠ "java/lang/invoke/MethodHandle" ∧ y.cls ≠ "java/lang/invoke/VarHandle" ∧ (parseMethodDescriptor y.desc).map (fun d => d.parameters.length) = some n) (w1 : Cond.methodLink own idx y ∈ zgd) (w2 : Cond.instanceMethod y ∈ zgd) (w3 : Cond.selects RJ0 y y ∈ zgd) (w4 : Cond.initialized RJ0 ∈ zgd) (w5 : Cond.code y cc' nL' ret ∈ zgd) (hR : fr + 1 ≤ R.frames ∧ 8 + (nL' + 11) + lc ≤ R.locals) (hn : As.length = n) (hs : stk = As.reverse ++ .ref (sA i) :: st) (hst : rv.toList ++ st = st') (hsum : (st.map fun v => v.category).sum ≤ 8) (d : decode cc pc = .ok (.invokevirtual idx, 3)) (kk : zGA p l e R s m args below meth c Q nL D cA base h0 (pc + 3) lo st' h') : zGA p l e R s m args below meth c Q nL D cA base h0 pc lo stk h := fun z H locs ls hW hS hl => by
  have S : CallFix p m c cc nL s args zgd own := ⟨X.1, X.2.1, X.2.2.1, X.2.2.2.1, X.2.2.2.2.1⟩
  have hb := X.2.2.2.2.1
  obtain ⟨s1, -⟩ := X.2.2.2.2.2.2.2.2.2.2.2.1 i hi
  obtain ⟨cell, g1, g2, g3, -⟩ := s1.kept hS.2.1
  refine a_runA r (va_runV (As := As) (rest := st) S hC (n := n) ⟨callB_of n hb (zgoodW w5) rfl rfl rfl (by rw [hd.1]; exact hb _ w4) (hb _ w1) ⟨hd.2.1, hd.2.2⟩ hR, hb _ w2, hb _ w3⟩ ⟨(a_preA X.2.2.2.2.2.2 hW hS z.1).1, ⟨cell, g1, g2, g3⟩, (a_preA X.2.2.2.2.2.2 hW hS z.1).2⟩ rfl hn hl.1 hs (lv_room hsum) d (a_roomA r z)) z hS hl hst kk
theorem a_iret (X : zX p s m args meth c cc own nL D cA base sA) {v : Int32} (hr : meth.sig.returnType = some .int) (d : decode cc pc = .ok (.ireturn, 1)) : zGA p l e R s m args below meth c (MQ below (zQA D cA base h0 h (some (.int v))) args s (zNC - zN h0) (zNS - zS h0) (zA base)) nL D cA base h0 pc lo [.int v] h := fun z H locs ls hW hS hl => W.widen (by have := z.1.2; omega) (by have := z.1.2; omega) (W.iret X.1 X.2.1 hr (fun t ht hWt => ⟨rfl, by rw [ht]; exact hW, hS.F ht, z⟩) hS.2.2 d X.2.2.2.2.2.1)
theorem a_zret (X : zX p s m args meth c cc own nL D cA base sA) {v : Int32} (hb : v = 0 ∨ v = 1) (hr : meth.sig.returnType = some .boolean) (d : decode cc pc = .ok (.ireturn, 1)) : zGA p l e R s m args below meth c (MQ below (zQA D cA base h0 h (some (.int v))) args s (zNC - zN h0) (zNS - zS h0) (zA base)) nL D cA base h0 pc lo [.int v] h := fun z H locs ls hW hS hl => W.widen (by have := z.1.2; omega) (by have := z.1.2; omega) (W.zret X.1 X.2.1 hr (by rcases hb with e | e <;> rw [e] <;> rfl) (fun t ht hWt => ⟨rfl, by rw [ht]; exact hW, hS.F ht, z⟩) hS.2.2 d X.2.2.2.2.2.1)
theorem a_lret (X : zX p s m args meth c cc own nL D cA base sA) {v : Int64} (hr : meth.sig.returnType = some .long) (d : decode cc pc = .ok (.lreturn, 1)) : zGA p l e R s m args below meth c (MQ below (zQA D cA base h0 h (some (.long v))) args s (zNC - zN h0) (zNS - zS h0) (zA base)) nL D cA base h0 pc lo [.long v] h := fun z H locs ls hW hS hl => W.widen (by have := z.1.2; omega) (by have := z.1.2; omega) (W.lret X.1 X.2.1 hr (fun t ht hWt => ⟨rfl, by rw [ht]; exact hW, hS.F ht, z⟩) hS.2.2 d X.2.2.2.2.2.1)
theorem a_aret (X : zX p s m args meth c cc own nL D cA base sA) {v : Nat} {rt : FieldType} (hr : meth.sig.returnType = some rt) (hrt : (∃ n, rt = .object n) ∨ ∃ t, rt = .array t) (d : decode cc pc = .ok (.areturn, 1)) : zGA p l e R s m args below meth c (MQ below (zQA D cA base h0 h (some (.ref (base + v)))) args s (zNC - zN h0) (zNS - zS h0) (zA base)) nL D cA base h0 pc lo [.ref (base + v)] h := fun z H locs ls hW hS hl => W.widen (by have := z.1.2; omega) (by have := z.1.2; omega) (W.aret X.1 X.2.1 hr hrt (Or.inr ⟨_, rfl⟩) (fun t ht hWt => ⟨rfl, by rw [ht]; exact hW, hS.F ht, z⟩) hS.2.2 d X.2.2.2.2.2.1)
theorem a_vret (X : zX p s m args meth c cc own nL D cA base sA) (hr : meth.sig.returnType = none) (d : decode cc pc = .ok (.return_, 1)) : zGA p l e R s m args below meth c (MQ below (zQA D cA base h0 h none) args s (zNC - zN h0) (zNS - zS h0) (zA base)) nL D cA base h0 pc lo [] h := fun z H locs ls hW hS hl => W.widen (by have := z.1.2; omega) (by have := z.1.2; omega) (W.vret X.1 X.2.1 hr (fun t ht hWt => ⟨rfl, by rw [ht]; exact hW, hS.F ht, z⟩) hS.2.2 d X.2.2.2.2.2.1)
theorem a_iald (X : zX p s m args meth c cc own nL D cA base sA) {a : Nat} {i : Int32} (hk : zK h a = 100) (hin : zin i (zL h a)) (d : decode cc pc = .ok (.iaload, 1)) (kk : zGA p l e R s m args below meth c Q nL D cA base h0 (pc + 1) lo (.int (zI h a i.toNatClampNeg) :: st) h) : zGA p l e R s m args below meth c Q nL D cA base h0 pc lo (.int i :: .ref (base + a) :: st) h := fun z H locs ls hW hS hl => va_iald X.1 X.2.1 X.2.2.2.2.2.2.1 (zP1 ((hW.2.1 a).2 0 (by decide) hk)) 0 0 rfl rfl (vp_in_iff.mpr hin) d (kk z H locs ls hW hS hl)
theorem a_bald (X : zX p s m args meth c cc own nL D cA base sA) {a : Nat} {i : Int32} (hk : zK h a = 101) (hin : zin i (zL h a)) (d : decode cc pc = .ok (.baload, 1)) (kk : zGA p l e R s m args below meth c Q nL D cA base h0 (pc + 1) lo (.int (zI h a i.toNatClampNeg) :: st) h) : zGA p l e R s m args below meth c Q nL D cA base h0 pc lo (.int i :: .ref (base + a) :: st) h := fun z H locs ls hW hS hl => va_bald X.1 X.2.1 X.2.2.2.2.2.2.1 (zP1 ((hW.2.1 a).2 1 (by decide) hk)) 0 1 rfl rfl (vp_in_iff.mpr hin) d (kk z H locs ls hW hS hl)
theorem a_zald (X : zX p s m args meth c cc own nL D cA base sA) {a : Nat} {i : Int32} (hk : zK h a = 103) (hin : zin i (zL h a)) (d : decode cc pc = .ok (.baload, 1)) (kk : zGA p l e R s m args below meth c Q nL D cA base h0 (pc + 1) lo (.int (zI h a i.toNatClampNeg) :: st) h) : zGA p l e R s m args below meth c Q nL D cA base h0 pc lo (.int i :: .ref (base + a) :: st) h := fun z H locs ls hW hS hl => va_zald X.1 X.2.1 X.2.2.2.2.2.2.1 (zP1 ((hW.2.1 a).2 3 (by decide) hk)) 0 3 rfl rfl (vp_in_iff.mpr hin) d (kk z H locs ls hW hS hl)
theorem a_lald (X : zX p s m args meth c cc own nL D cA base sA) {a : Nat} {i : Int32} (hk : zK h a = 102) (hin : zin i (zL h a)) (d : decode cc pc = .ok (.laload, 1)) (kk : zGA p l e R s m args below meth c Q nL D cA base h0 (pc + 1) lo (.long (zJ h a i.toNatClampNeg) :: st) h) : zGA p l e R s m args below meth c Q nL D cA base h0 pc lo (.int i :: .ref (base + a) :: st) h := fun z H locs ls hW hS hl => va_lald X.1 X.2.1 X.2.2.2.2.2.2.1 (zP1 ((hW.2.1 a).2 2 (by decide) hk)) 0 2 rfl rfl (vp_in_iff.mpr hin) d (kk z H locs ls hW hS hl)
theorem a_aald4 (X : zX p s m args meth c cc own nL D cA base sA) {a b : Nat} {i : Int32} (hk : zK h a = 104) (hin : zin i (zL h a)) (hr : zR h a i.toNatClampNeg = some b) (d : decode cc pc = .ok (.aaload, 1)) (kk : zGA p l e R s m args below meth c Q nL D cA base h0 (pc + 1) lo (.ref (base + b) :: st) h) : zGA p l e R s m args below meth c Q nL D cA base h0 pc lo (.int i :: .ref (base + a) :: st) h := fun z H locs ls hW hS hl => by
  refine va_aldq X.1 X.2.1 X.2.2.2.2.2.2.1 (zP1 ((hW.2.1 a).2 4 (by decide) hk)) 0 4 rfl rfl (vp_in_iff.mpr hin) d ?_
  rw [hr]
  exact kk z H locs ls hW hS hl
theorem a_aald5 (X : zX p s m args meth c cc own nL D cA base sA) {a b : Nat} {i : Int32} (hk : zK h a = 105) (hin : zin i (zL h a)) (hr : zR h a i.toNatClampNeg = some b) (d : decode cc pc = .ok (.aaload, 1)) (kk : zGA p l e R s m args below meth c Q nL D cA base h0 (pc + 1) lo (.ref (base + b) :: st) h) : zGA p l e R s m args below meth c Q nL D cA base h0 pc lo (.int i :: .ref (base + a) :: st) h := fun z H locs ls hW hS hl => by
  refine va_aldq X.1 X.2.1 X.2.2.2.2.2.2.1 (zP1 ((hW.2.1 a).2 5 (by decide) hk)) 0 5 rfl rfl (vp_in_iff.mpr hin) d ?_
  rw [hr]
  exact kk z H locs ls hW hS hl
theorem a_alen0 (X : zX p s m args meth c cc own nL D cA base sA) {a : Nat} (hk : zK h a = 100) (d : decode cc pc = .ok (.arraylength, 1)) (kk : zGA p l e R s m args below meth c Q nL D cA base h0 (pc + 1) lo (.int (Int32.ofNat (zL h a)) :: st) h) : zGA p l e R s m args below meth c Q nL D cA base h0 pc lo (.ref (base + a) :: st) h := fun z H locs ls hW hS hl => va_alen X.1 X.2.1 X.2.2.2.2.2.2.1 (zP1 ((hW.2.1 a).2 0 (by decide) hk)) 0 0 rfl rfl rfl d (kk z H locs ls hW hS hl)
theorem a_alen1 (X : zX p s m args meth c cc own nL D cA base sA) {a : Nat} (hk : zK h a = 101) (d : decode cc pc = .ok (.arraylength, 1)) (kk : zGA p l e R s m args below meth c Q nL D cA base h0 (pc + 1) lo (.int (Int32.ofNat (zL h a)) :: st) h) : zGA p l e R s m args below meth c Q nL D cA base h0 pc lo (.ref (base + a) :: st) h := fun z H locs ls hW hS hl => va_alen X.1 X.2.1 X.2.2.2.2.2.2.1 (zP1 ((hW.2.1 a).2 1 (by decide) hk)) 0 1 rfl rfl rfl d (kk z H locs ls hW hS hl)
theorem a_alen2 (X : zX p s m args meth c cc own nL D cA base sA) {a : Nat} (hk : zK h a = 102) (d : decode cc pc = .ok (.arraylength, 1)) (kk : zGA p l e R s m args below meth c Q nL D cA base h0 (pc + 1) lo (.int (Int32.ofNat (zL h a)) :: st) h) : zGA p l e R s m args below meth c Q nL D cA base h0 pc lo (.ref (base + a) :: st) h := fun z H locs ls hW hS hl => va_alen X.1 X.2.1 X.2.2.2.2.2.2.1 (zP1 ((hW.2.1 a).2 2 (by decide) hk)) 0 2 rfl rfl rfl d (kk z H locs ls hW hS hl)
theorem a_iast (X : zX p s m args meth c cc own nL D cA base sA) {a : Nat} {i : Int32} {x : Int32} (hk : zK h a = 100) (hin : zin i (zL h a)) (d : decode cc pc = .ok (.iastore, 1)) (kk : zGA p l e R s m args below meth c Q nL D cA base h0 (pc + 1) lo st (zsI h a i.toNatClampNeg x)) : zGA p l e R s m args below meth c Q nL D cA base h0 pc lo (.int x :: .int i :: .ref (base + a) :: st) h := fun z H locs ls hW hS hl => by
  have ha : H[base + a]? = some (vp_cell (cA 0) (zL h a, zac base h a 0)) := (hW.2.1 a).2 0 (by decide) hk
  have hin' := vp_in_iff.mpr hin
  refine W.iast X.1 X.2.1 ha ((X.2.2.2.2.2.2.1.2 0 _ rfl).1 _ (fun j => .int (zI h a j))) (fun q => by cases q) (by show ¬ (i < 0 ∨ (arrV _ _ _).slots.size ≤ _); rw [arrV_size]; exact hin') rfl rfl d fun H1 e1 z1 oq => ?_
  refine kk z H1 _ ls (hW.upd (h' := zsI h a i.toNatClampNeg x) z1 oq ha e1 (zss _ _ _) rfl rfl rfl (fun x hx => ⟨z2_row _ _ _ hx, rfl, rfl⟩) ⟨fun hc => ?_, fun t ht hkt => ?_⟩) (hS.put z1 oq (by show base ≤ base + a; omega)) hl
  · have hc : zK h a < 13 := hc
    omega
  · have hkt : zK h a = 100 + t := hkt
    have : t = 0 := by omega
    subst this
    show H1[base + a]? = some (vp_cell _ (zL h a, zac base (zsI h a i.toNatClampNeg x) a 0))
    rw [e1]
    show some ((vp_cell (cA 0) (zL h a, Sum.inl (zI h a))).setSlot _ _) = some (vp_cell (cA 0) (zL h a, Sum.inl (zI (zsI h a i.toNatClampNeg x) a)))
    rw [vp_cell_i, vp_cell_i, arrV_store]
    congr 2
    funext q
    by_cases hq : q = i.toNatClampNeg
    · subst hq
      simp [updV, zsI, zI, z2]
    · simp [updV, zsI, zI, z2, hq]
theorem a_bast (X : zX p s m args meth c cc own nL D cA base sA) {a : Nat} {i : Int32} {x : Int32} (hk : zK h a = 101) (hin : zin i (zL h a)) (d : decode cc pc = .ok (.bastore, 1)) (kk : zGA p l e R s m args below meth c Q nL D cA base h0 (pc + 1) lo st (zsI h a i.toNatClampNeg x.toInt8.toInt32)) : zGA p l e R s m args below meth c Q nL D cA base h0 pc lo (.int x :: .int i :: .ref (base + a) :: st) h := fun z H locs ls hW hS hl => by
  have ha : H[base + a]? = some (vp_cell (cA 1) (zL h a, zac base h a 1)) := (hW.2.1 a).2 1 (by decide) hk
  have hin' := vp_in_iff.mpr hin
  refine W.bast X.1 X.2.1 ha ((X.2.2.2.2.2.2.1.2 1 _ rfl).1 _ (fun j => .int (zI h a j))) (fun q => by cases q) (by show ¬ (i < 0 ∨ (arrV _ _ _).slots.size ≤ _); rw [arrV_size]; exact hin') rfl rfl d fun H1 e1 z1 oq => ?_
  refine kk z H1 _ ls (hW.upd (h' := zsI h a i.toNatClampNeg x.toInt8.toInt32) z1 oq ha e1 (zss _ _ _) rfl rfl rfl (fun x hx => ⟨z2_row _ _ _ hx, rfl, rfl⟩) ⟨fun hc => ?_, fun t ht hkt => ?_⟩) (hS.put z1 oq (by show base ≤ base + a; omega)) hl
  · have hc : zK h a < 13 := hc
    omega
  · have hkt : zK h a = 100 + t := hkt
    have : t = 1 := by omega
    subst this
    show H1[base + a]? = some (vp_cell _ (zL h a, zac base (zsI h a i.toNatClampNeg x.toInt8.toInt32) a 1))
    rw [e1]
    show some ((vp_cell (cA 1) (zL h a, Sum.inl (zI h a))).setSlot _ _) = some (vp_cell (cA 1) (zL h a, Sum.inl (zI (zsI h a i.toNatClampNeg x.toInt8.toInt32) a)))
    rw [vp_cell_i, vp_cell_i, arrV_store]
    congr 2
    funext q
    by_cases hq : q = i.toNatClampNeg
    · subst hq
      simp [updV, zsI, zI, z2, narrow]
    · simp [updV, zsI, zI, z2, hq]
theorem a_zast (X : zX p s m args meth c cc own nL D cA base sA) {a : Nat} {i : Int32} {x : Int32} (hk : zK h a = 103) (hin : zin i (zL h a)) (hb : x = 0 ∨ x = 1) (d : decode cc pc = .ok (.bastore, 1)) (kk : zGA p l e R s m args below meth c Q nL D cA base h0 (pc + 1) lo st (zsI h a i.toNatClampNeg x)) : zGA p l e R s m args below meth c Q nL D cA base h0 pc lo (.int x :: .int i :: .ref (base + a) :: st) h := fun z H locs ls hW hS hl => by
  have ha : H[base + a]? = some (vp_cell (cA 3) (zL h a, zac base h a 3)) := (hW.2.1 a).2 3 (by decide) hk
  have hin' := vp_in_iff.mpr hin
  refine W.zast X.1 X.2.1 ha ((X.2.2.2.2.2.2.1.2 3 _ rfl).1 _ (fun j => .int (zI h a j))) (fun q => by cases q) (by show ¬ (i < 0 ∨ (arrV _ _ _).slots.size ≤ _); rw [arrV_size]; exact hin') rfl rfl d fun H1 e1 z1 oq => ?_
  refine kk z H1 _ ls (hW.upd (h' := zsI h a i.toNatClampNeg x) z1 oq ha e1 (zss _ _ _) rfl rfl rfl (fun x hx => ⟨z2_row _ _ _ hx, rfl, rfl⟩) ⟨fun hc => ?_, fun t ht hkt => ?_⟩) (hS.put z1 oq (by show base ≤ base + a; omega)) hl
  · have hc : zK h a < 13 := hc
    omega
  · have hkt : zK h a = 100 + t := hkt
    have : t = 3 := by omega
    subst this
    show H1[base + a]? = some (vp_cell _ (zL h a, zac base (zsI h a i.toNatClampNeg x) a 3))
    rw [e1]
    show some ((vp_cell (cA 3) (zL h a, Sum.inl (zI h a))).setSlot _ _) = some (vp_cell (cA 3) (zL h a, Sum.inl (zI (zsI h a i.toNatClampNeg x) a)))
    rw [vp_cell_i, vp_cell_i, arrV_store]
    congr 2
    funext q
    by_cases hq : q = i.toNatClampNeg
    · subst hq
      simp [updV, zsI, zI, z2, zbn hb]
    · simp [updV, zsI, zI, z2, hq]
theorem a_last (X : zX p s m args meth c cc own nL D cA base sA) {a : Nat} {i : Int32} {x : Int64} (hk : zK h a = 102) (hin : zin i (zL h a)) (d : decode cc pc = .ok (.lastore, 1)) (kk : zGA p l e R s m args below meth c Q nL D cA base h0 (pc + 1) lo st (zsJ h a i.toNatClampNeg x)) : zGA p l e R s m args below meth c Q nL D cA base h0 pc lo (.long x :: .int i :: .ref (base + a) :: st) h := fun z H locs ls hW hS hl => by
  have ha : H[base + a]? = some (vp_cell (cA 2) (zL h a, zac base h a 2)) := (hW.2.1 a).2 2 (by decide) hk
  have hin' := vp_in_iff.mpr hin
  refine W.last X.1 X.2.1 ha ((X.2.2.2.2.2.2.1.2 2 _ rfl).1 _ (fun j => .long (zJ h a j))) (fun q => by cases q) (by show ¬ (i < 0 ∨ (arrV _ _ _).slots.size ≤ _); rw [arrV_size]; exact hin') rfl rfl d fun H1 e1 z1 oq => ?_
  refine kk z H1 _ ls (hW.upd (h' := zsJ h a i.toNatClampNeg x) z1 oq ha e1 (zss _ _ _) rfl rfl rfl (fun x hx => ⟨rfl, z2_row _ _ _ hx, rfl⟩) ⟨fun hc => ?_, fun t ht hkt => ?_⟩) (hS.put z1 oq (by show base ≤ base + a; omega)) hl
  · have hc : zK h a < 13 := hc
    omega
  · have hkt : zK h a = 100 + t := hkt
    have : t = 2 := by omega
    subst this
    show H1[base + a]? = some (vp_cell _ (zL h a, zac base (zsJ h a i.toNatClampNeg x) a 2))
    rw [e1]
    show some ((vp_cell (cA 2) (zL h a, (fun f => Sum.inr (Sum.inl f)) (zJ h a))).setSlot _ _) = some (vp_cell (cA 2) (zL h a, (fun f => Sum.inr (Sum.inl f)) (zJ (zsJ h a i.toNatClampNeg x) a)))
    rw [vp_cell_l, vp_cell_l, arrV_store]
    congr 2
    funext q
    by_cases hq : q = i.toNatClampNeg
    · subst hq
      simp [updV, zsJ, zJ, z2]
    · simp [updV, zsJ, zJ, z2, hq]
theorem a_ldc (X : zX p s m args meth c cc own nL D cA base sA) {idx : Nat} {v : Int32} (hw : Cond.constant own idx v ∈ zgd) (d : decode cc pc = .ok (.ldc idx, 2)) (k : zGA p l e R s m args below meth c Q nL D cA base h0 (pc + 2) lo (.int v :: st) h) : zGA p l e R s m args below meth c Q nL D cA base h0 pc lo st h := fun z H locs ls hW hS hl => lv_ldc X.1 X.2.1 X.2.2.2.1 (X.2.2.2.2.1 _ hw) d (k z H locs ls hW hS hl)
theorem a_ldcw (X : zX p s m args meth c cc own nL D cA base sA) {idx : Nat} {v : Int32} (hw : Cond.constant own idx v ∈ zgd) (d : decode cc pc = .ok (.ldc_w idx, 3)) (k : zGA p l e R s m args below meth c Q nL D cA base h0 (pc + 3) lo (.int v :: st) h) : zGA p l e R s m args below meth c Q nL D cA base h0 pc lo st h := fun z H locs ls hW hS hl => lv_ldcw X.1 X.2.1 X.2.2.2.1 (X.2.2.2.2.1 _ hw) d (k z H locs ls hW hS hl)
theorem a_ldc2 (X : zX p s m args meth c cc own nL D cA base sA) {idx : Nat} {v : Int64} (hw : Cond.constantLong own idx v ∈ zgd) (d : decode cc pc = .ok (.ldc2_w idx, 3)) (k : zGA p l e R s m args below meth c Q nL D cA base h0 (pc + 3) lo (.long v :: st) h) : zGA p l e R s m args below meth c Q nL D cA base h0 pc lo st h := fun z H locs ls hW hS hl => lv_ldc2 X.1 X.2.1 X.2.2.2.1 (X.2.2.2.2.1 _ hw) d (k z H locs ls hW hS hl)
theorem a_ldcS (X : zX p s m args meth c cc own nL D cA base sA) {idx i : Nat} {tx : String} (hw : (own, idx, tx, i) ∈ zlit) (d : decode cc pc = .ok (.ldc idx, 2)) (k : zGA p l e R s m args below meth c Q nL D cA base h0 (pc + 2) lo (.ref (sA i) :: st) h) : zGA p l e R s m args below meth c Q nL D cA base h0 pc lo st h := fun z H locs ls hW hS hl => va_ldcS X.1 X.2.1 X.2.2.2.1 (X.2.2.2.2.2.2.2.2.2.2.1 _ hw) d (k z H locs ls hW hS hl)
theorem z_ldcwSA {T : State} {H : Heap} {locs : List Loc} {cells slots : Nat} (X : Stand p l e R s m args below meth c T locs cells slots) (hexec : p.tables.exec = Jvm.exec) {own text : String} {index : Nat} {a : Addr} (hown : s.vm.findClass own = some m.cls)
    (hconst : (Cond.stringRef own index text).before args s = true) (hev : (Term.string own index).eval args s none [] s = some (.ref a)) {g : JFrame} (hg : g.method = m) (hdg : decode c.code g.pc = .ok (.ldc_w index, 3)) :
    ∀ target, Steps p.tables e below (T.setTop { g with pc := g.pc + 3, stack := .ref a :: g.stack }) target → Steps p.tables e below (T.setTop g) target := by
  obtain ⟨k, cf, i, a', hk, hcf, hcp, -, hr, hev'⟩ := Cond.stringRef_spec hown hconst
  cases hev.symm.trans hev'
  obtain ⟨k', hk', he⟩ := X.warmed.alike.2.2 _ _ hk
  have hr' : k'.resolved[index]? = some (some (.string a)) := by
    rcases X.warmed.entry hk hk' index with h | ⟨h, -⟩
    · rw [h]; exact hr
    · rw [hr] at h; cases h
  intro target hrest
  subst hg
  jvm_step X.here [hexec, hdg, ldc_w.wp_string (e := e) (s := T) (f := g) X.here.top hk' (by rw [he]; exact hcf) hcp hr']
  exact hrest
theorem a_ldcwS (X : zX p s m args meth c cc own nL D cA base sA) {idx i : Nat} {tx : String} (hw : (own, idx, tx, i) ∈ zlit) (d : decode cc pc = .ok (.ldc_w idx, 3)) (k : zGA p l e R s m args below meth c Q nL D cA base h0 (pc + 3) lo (.ref (sA i) :: st) h) : zGA p l e R s m args below meth c Q nL D cA base h0 pc lo st h := fun z H locs ls hW hS hl T hT X0 => by
  obtain ⟨t, a1, b1⟩ := k z H locs ls hW hS hl T hT X0
  have hZ := X.2.2.2.2.2.2.2.2.2.2.1 _ hw
  exact ⟨t, z_ldcwSA (H := H) X0 X.1 X.2.2.2.1 (text := tx) (a := sA i) hZ.1 hZ.2 (g := F0 m pc ls st) rfl (by rw [X.2.1]; exact d) t a1, b1⟩
theorem a_tswOut (X : zX p s m args meth c cc own nL D cA base sA) {dflt lw hi : Int} {offs : Array Int} {len : Nat} {x : Int32} (t : Nat) (d : decode cc pc = .ok (.tableswitch dflt lw hi offs, len)) (hh : x.toInt < lw ∨ hi < x.toInt) (ht : (pc : Int) + dflt = (t : Int)) (k : zGA p l e R s m args below meth c Q nL D cA base h0 t lo st h) : zGA p l e R s m args below meth c Q nL D cA base h0 pc lo (.int x :: st) h := fun z H locs ls hW hS hl => lv_tableOut X.1 X.2.1 d hh ht (k z H locs ls hW hS hl)
theorem a_tswIn (X : zX p s m args meth c cc own nL D cA base sA) {dflt lw hi : Int} {offs : Array Int} {len : Nat} {x : Int32} {off : Int} (t : Nat) (d : decode cc pc = .ok (.tableswitch dflt lw hi offs, len)) (h1 : ¬ x.toInt < lw) (h2 : ¬ hi < x.toInt) (ho : offs[(x.toInt - lw).toNat]? = some off) (ht : (pc : Int) + off = (t : Int)) (k : zGA p l e R s m args below meth c Q nL D cA base h0 t lo st h) : zGA p l e R s m args below meth c Q nL D cA base h0 pc lo (.int x :: st) h := fun z H locs ls hW hS hl => lv_tableIn X.1 X.2.1 d h1 h2 ho ht (k z H locs ls hW hS hl)
theorem a_mmax (X : zX p s m args meth c cc own nL D cA base sA) (r : zRm R s D cA base h0) {idx : Nat} {x y : Int32} (w1 : Cond.methodLink own idx Lib.Math.max.name ∈ zgd) (w2 : Cond.static Lib.Math.max.name ∈ zgd) (w3 : Cond.initialized "java/lang/Math" ∈ zgd) (w4 : Cond.code Lib.Math.max.name Lib.Math.max.code 2 (some .int) ∈ zgd) (hfr : 1 ≤ R.frames) (hlo : (st.map fun v => v.category).sum + 13 ≤ R.locals) (d : decode cc pc = .ok (.invokestatic idx, 3)) (kk : zGA p l e R s m args below meth c Q nL D cA base h0 (pc + 3) lo (.int (if x < y then y else x) :: st) h) : zGA p l e R s m args below meth c Q nL D cA base h0 pc lo (.int y :: .int x :: st) h := fun z H locs ls hW hS hl => va_mmax X.1 X.2.1 (by rw [X.2.2.1, hl.1]) X.2.2.2.1 (X.2.2.2.2.1 _ w1) (X.2.2.2.2.1 _ w2) (X.2.2.2.2.1 _ w3) (X.2.2.2.2.1 _ w4) hfr hlo (a_room r z).1 (a_room r z).2 d (kk z H locs ls hW hS hl)
theorem a_mmin (X : zX p s m args meth c cc own nL D cA base sA) (r : zRm R s D cA base h0) {idx : Nat} {x y : Int32} (w1 : Cond.methodLink own idx Lib.Math.min.name ∈ zgd) (w2 : Cond.static Lib.Math.min.name ∈ zgd) (w3 : Cond.initialized "java/lang/Math" ∈ zgd) (w4 : Cond.code Lib.Math.min.name Lib.Math.min.code 2 (some .int) ∈ zgd) (hfr : 1 ≤ R.frames) (hlo : (st.map fun v => v.category).sum + 13 ≤ R.locals) (d : decode cc pc = .ok (.invokestatic idx, 3)) (kk : zGA p l e R s m args below meth c Q nL D cA base h0 (pc + 3) lo (.int (if y < x then y else x) :: st) h) : zGA p l e R s m args below meth c Q nL D cA base h0 pc lo (.int y :: .int x :: st) h := fun z H locs ls hW hS hl => va_mmin X.1 X.2.1 (by rw [X.2.2.1, hl.1]) X.2.2.2.1 (X.2.2.2.2.1 _ w1) (X.2.2.2.2.1 _ w2) (X.2.2.2.2.1 _ w3) (X.2.2.2.2.1 _ w4) hfr hlo (a_room r z).1 (a_room r z).2 d (kk z H locs ls hW hS hl)
theorem a_mminl (X : zX p s m args meth c cc own nL D cA base sA) (r : zRm R s D cA base h0) {idx : Nat} {x y : Int64} (w1 : Cond.methodLink own idx Lib.MathLoose.min_long.x ∈ zgd) (w2 : Cond.static Lib.MathLoose.min_long.x ∈ zgd) (w3 : Cond.initialized "java/lang/Math" ∈ zgd) (w4 : Cond.code Lib.MathLoose.min_long.x Lib.MathLoose.min_long.code 4 (some .long) ∈ zgd) (hfr : 1 ≤ R.frames) (hlo : (st.map fun v => v.category).sum + 15 ≤ R.locals) (d : decode cc pc = .ok (.invokestatic idx, 3)) (kk : zGA p l e R s m args below meth c Q nL D cA base h0 (pc + 3) lo (.long (if y < x then y else x) :: st) h) : zGA p l e R s m args below meth c Q nL D cA base h0 pc lo (.long y :: .long x :: st) h := fun z H locs ls hW hS hl => va_mmin_long X.1 X.2.1 (by rw [X.2.2.1, hl.1]) X.2.2.2.1 (X.2.2.2.2.1 _ w1) (X.2.2.2.2.1 _ w2) (X.2.2.2.2.1 _ w3) (X.2.2.2.2.1 _ w4) hfr hlo (a_room r z).1 (a_room r z).2 d (kk z H locs ls hW hS hl)
theorem a_sub (ks : List Nat) (hl' : lv_pick lo ks = lo') (k : zGA p l e R s m args below meth c Q nL D cA base h0 pc lo' st h) : zGA p l e R s m args below meth c Q nL D cA base h0 pc lo st h := fun z H locs ls hW hS hl => k z H locs ls hW hS (lv_sub hl ks hl')
theorem a_hp {h' : Zh} (k : ∀ h1, h1 = h' → zGA p l e R s m args below meth c Q nL D cA base h0 pc lo st h1) : zGA p l e R s m args below meth c Q nL D cA base h0 pc lo st h' := k h' rfl
end AH
theorem zW.push {D : va_G} {cA : Nat → ClassId} {base kd len sl : Nat} {h : Zh} {H H1 : Heap} {c1 : Cell} (hW : zW D cA base h H) (z : H1.size = H.size + 1) (oq : ∀ q : Nat, q < H.size → H1[q]? = H[q]?) (q1 : H1[base + zN h]? = some c1) (qs : c1.slots.size = zsz (znw h kd len sl) (zN h)) (ha : zat D cA base (znw h kd len sl) (zN h) H1) : zW D cA base (znw h kd len sl) H1 := by
  have e := hW.1
  have ne : ∀ i, i ≠ zN h → zK (znw h kd len sl) i = zK h i ∧ zL (znw h kd len sl) i = zL h i ∧ zI (znw h kd len sl) i = zI h i ∧ zJ (znw h kd len sl) i = zJ h i ∧ zR (znw h kd len sl) i = zR h i := fun i hi => ⟨z1_ne _ _ hi, z1_ne _ _ hi, z1_ne _ _ hi, z1_ne _ _ hi, z1_ne _ _ hi⟩
  have hq : ∀ i, i ≠ zN h → H1[base + i]? = H[base + i]? := by
    intro i hi
    rcases Nat.lt_or_ge i (zN h) with q | q
    · exact oq _ (by omega)
    · rw [Array.getElem?_eq_none (by omega), Array.getElem?_eq_none (by omega)]
  refine ⟨by show H1.size = base + (zN h + 1); omega, fun i => ?_, fun i cell hc => ?_⟩
  · by_cases hi : i = zN h
    · subst hi; exact ha
    · obtain ⟨n1, n2, n3, n4, n5⟩ := ne i hi
      exact (hW.2.1 i).congr (hq i hi) n1 n2 n3 n4 n5
  · by_cases hi : i = zN h
    · subst hi
      rw [← Option.some.inj (q1.symm.trans hc)]; exact qs
    · obtain ⟨n1, n2, -⟩ := ne i hi
      rw [hq i hi] at hc
      have := hW.2.2 i cell hc
      unfold zsz at this ⊢
      rw [n1, n2]; exact this
theorem zgA.push {h0 h : Zh} {kd len sl : Nat} (z : zgA h0 h) (hs : zsz (znw h kd len sl) (zN h) = sl) (hc : zN h + 1 ≤ zNC ∧ zS h + sl ≤ zNS) : zgA h0 (znw h kd len sl) := by
  have ne : ∀ i, i ≠ zN h → zK (znw h kd len sl) i = zK h i ∧ zL (znw h kd len sl) i = zL h i := fun i hi => ⟨z1_ne _ _ hi, z1_ne _ _ hi⟩
  refine ⟨⟨?_, hc.1, hc.2⟩, z.2.tr ⟨Nat.le_succ _, Nat.le_add_right _ _, fun i hi => ne i (by omega)⟩⟩
  show zS h + sl = zsum _ (zN h + 1)
  rw [zsum, hs, z.1.1]
  congr 1
  refine zsum_congr (fun i hi => ?_)
  unfold zsz
  rw [(ne i (by omega)).1, (ne i (by omega)).2]
def zfine (ty : FieldType) : Bool := match ty with
  | .float => false
  | .double => false
  | _ => true
theorem zq0 : ∀ j, j < 13 → zfine (zty 0 j) = true := by decide
theorem zq1 : ∀ j, j < 4 → zfine (zty 1 j) = true := by decide
theorem zq2 : ∀ j, j < 10 → zfine (zty 2 j) = true := by decide
theorem zq3 : ∀ j, j < 2 → zfine (zty 3 j) = true := by decide
theorem zq4 : ∀ j, j < 11 → zfine (zty 4 j) = true := by decide
theorem zq5 : ∀ j, j < 1 → zfine (zty 5 j) = true := by decide
theorem zq6 : ∀ j, j < 15 → zfine (zty 6 j) = true := by decide
theorem zq7 : ∀ j, j < 12 → zfine (zty 7 j) = true := by decide
theorem zq8 : ∀ j, j < 4 → zfine (zty 8 j) = true := by decide
theorem zq9 : ∀ j, j < 5 → zfine (zty 9 j) = true := by decide
theorem zq10 : ∀ j, j < 12 → zfine (zty 10 j) = true := by decide
theorem zq11 : ∀ j, j < 15 → zfine (zty 11 j) = true := by decide
theorem zq12 : ∀ j, j < 46 → zfine (zty 12 j) = true := by decide
section AN
variable {p : Program} {l : Launch} {e : Env} {R : Room} {s : State} {m : MethodId} {args : Array Value} {below : List Frame} {meth : Method} {c : Code} {Q : State → Prop}
variable {cc : ByteArray} {own : String} {nL : Nat} {D : va_G} {cA : Nat → ClassId} {base : Nat} {sA : Nat → Nat} {h0 : Zh} {pc : Nat} {lo lo' : List (Nat × Value)} {st : List Value} {h : Zh}
theorem a_roomN (r : zRm R s D cA base h0) (z : zgA h0 h) {sl : Nat} (hc : zN h + 1 ≤ zNC ∧ zS h + sl ≤ zNS) : zN h - zN h0 + 1 ≤ R.cells ∧ zS h - zS h0 + sl ≤ R.slots := by
  rw [r.1, r.2.1]
  have := z.2.1
  have := z.2.2.1
  omega
theorem a_new (X : zX p s m args meth c cc own nL D cA base sA) (r : zRm R s D cA base h0) {ci N idx : Nat} {C : String} {T : u_T} (F : zF ci C T N) (hq : ∀ j, j < N → zfine (zty ci j) = true) (hc : zN h + 1 ≤ zNC ∧ zS h + N ≤ zNS) (w1 : Cond.classLink own idx C ∈ zgd) (w2 : Cond.instantiable C N ∈ zgd) (w3 : Cond.initialized C ∈ zgd) (d : decode cc pc = .ok (.new idx, 3)) (kk : zGA p l e R s m args below meth c Q nL D cA base h0 (pc + 3) lo (.ref (base + zN h) :: st) (znw h ci 0 N)) : zGA p l e R s m args below meth c Q nL D cA base h0 pc lo st h := fun z H locs ls hW hS hl => by
  obtain ⟨F1, F2, F3, F4, F5, F6⟩ := F
  have hb := X.2.2.2.2.1
  have hKn := X.2.2.2.2.2.2.1.1 ci _ F2
  obtain ⟨q1, q2⟩ := a_roomN (sl := N) r z hc
  refine W.newcK X.1 X.2.1 X.2.2.2.1 (hb _ w1) (hb _ w2) (hb _ w3) rfl d q1 q2 hKn.2.1 hW.1 fun H1 kC hkC e1 z1 o1 => ?_
  have hnk : zK (znw h ci 0 N) (zN h) = ci := z1_self _ _ _
  have hszz : zsz (znw h ci 0 N) (zN h) = N := by unfold zsz; rw [hnk, if_pos F1, F3]
  obtain ⟨c9, k9, r1, r2, -, -, -, r6⟩ := Cond.instantiable_spec (hb _ w2)
  cases r1.symm.trans hKn.2.1
  cases r2.symm.trans hkC
  have hz' : zgA h0 (znw h ci 0 N) := z.push hszz hc
  refine W.cs (by show _ = zN h + 1 - zN h0; have := z.2.1; omega) (by show _ = zS h + N - zS h0; have := z.2.2.1; omega) (kk hz' H1 locs ls (hW.push (by rw [z1, hW.1]) (fun q hq => o1 q (by rw [← hW.1]; exact hq)) e1 (by rw [hszz]; simp [blank, r6]) ⟨fun hk => ?_, fun t ht hk => ?_⟩) ⟨Nat.le_trans hS.1 (by rw [z1, hW.1]; omega), fun x g1 g2 => (o1 x (by have := hS.1; have := hW.1; omega)).trans (hS.2.1 x g1 g2), hS.2.2⟩ hl)
  · rw [hnk]
    refine ⟨_, F2, (u_born (zty ci) hb F4 hKn hkC e1 F5).to (fun j hj => ?_)⟩
    rw [zob_V (by rw [F3]; exact hj)]
    have g1 : zI (znw h ci 0 N) (zN h) = (fun _ => 0) := z1_self _ _ _
    have g2 : zJ (znw h ci 0 N) (zN h) = (fun _ => 0) := z1_self _ _ _
    have g3 : zR (znw h ci 0 N) (zN h) = (fun _ => none) := z1_self _ _ _
    have q := hq j hj
    revert q
    generalize zty ci j = ty
    intro q
    cases ty <;> first | (cases q; done) | simp [zfv, defaultValue, g1, g2, g3, zvr, va_rf]
  · rw [hnk] at hk
    omega
theorem a_newa0 (X : zX p s m args meth c cc own nL D cA base sA) (r : zRm R s D cA base h0) {n : Int32} (hn : 0 ≤ n.toInt ∧ n.toInt ≤ 1000000) (hc : zN h + 1 ≤ zNC ∧ zS h + n.toNatClampNeg ≤ zNS) (w1 : Cond.arrayClass .int ∈ zgd) (d : decode cc pc = .ok (.newarray .int, 2)) (kk : zGA p l e R s m args below meth c Q nL D cA base h0 (pc + 2) lo (.ref (base + zN h) :: st) (znw h 100 n.toNatClampNeg n.toNatClampNeg)) : zGA p l e R s m args below meth c Q nL D cA base h0 pc lo (.int n :: st) h := fun z H locs ls hW hS hl => by
  have hb := X.2.2.2.2.1
  obtain ⟨q1, q2⟩ := a_roomN (sl := n.toNatClampNeg) r z hc
  have hle : n.toNatClampNeg ≤ 1000000 := by have : n.toNatClampNeg = n.toInt.toNat := rfl; omega
  have hneg : ¬ n < 0 := fun q => by have := Int32.lt_iff_toInt_lt.mp q; simp at this; omega
  refine va_newaK (atype := .int) X.1 X.2.1 (hb _ w1) rfl d rfl hneg rfl (by show n.toNatClampNeg * 4 ≤ _; omega) q1 q2 hW.1 fun H1 cB e1 z1 o1 hAr hNm => ?_
  have hcA : cB = cA 0 := by
    have h2 := (X.2.2.2.2.2.2.1.2 0 _ rfl).2
    exact Option.some.inj (hNm.symm.trans h2)
  subst hcA
  have hnk : zK (znw h 100 n.toNatClampNeg n.toNatClampNeg) (zN h) = 100 := z1_self _ _ _
  have hnl : zL (znw h 100 n.toNatClampNeg n.toNatClampNeg) (zN h) = n.toNatClampNeg := z1_self _ _ _
  have hszz : zsz (znw h 100 n.toNatClampNeg n.toNatClampNeg) (zN h) = n.toNatClampNeg := by unfold zsz; rw [hnk, if_neg (by decide), hnl]
  have hz' := z.push hszz hc
  refine W.cs (by show _ = zN h + 1 - zN h0; have := z.2.1; omega) (by show _ = zS h + n.toNatClampNeg - zS h0; have := z.2.2.1; omega) (kk hz' H1 locs ls (hW.push (by rw [z1, hW.1]) (fun q hq => o1 q (by rw [← hW.1]; exact hq)) e1 (by rw [hszz, arrV_size]) ⟨fun hk => ?_, fun t ht hk => ?_⟩) ⟨Nat.le_trans hS.1 (by rw [z1, hW.1]; omega), fun x g1 g2 => (o1 x (by have := hS.1; have := hW.1; omega)).trans (hS.2.1 x g1 g2), hS.2.2⟩ hl)
  · rw [hnk] at hk
    omega
  · rw [hnk] at hk
    have : t = 0 := by omega
    subst this
    show H1[base + zN h]? = some (vp_cell (cA 0) (zL (znw h 100 n.toNatClampNeg n.toNatClampNeg) (zN h), Sum.inl (zI (znw h 100 n.toNatClampNeg n.toNatClampNeg) (zN h))))
    rw [e1, hnl]
    have e9 : zI (znw h 100 n.toNatClampNeg n.toNatClampNeg) (zN h) = (fun _ => 0) := z1_self _ _ _
    rw [e9]
    rfl
theorem a_newa1 (X : zX p s m args meth c cc own nL D cA base sA) (r : zRm R s D cA base h0) {n : Int32} (hn : 0 ≤ n.toInt ∧ n.toInt ≤ 1000000) (hc : zN h + 1 ≤ zNC ∧ zS h + n.toNatClampNeg ≤ zNS) (w1 : Cond.arrayClass .byte ∈ zgd) (d : decode cc pc = .ok (.newarray .byte, 2)) (kk : zGA p l e R s m args below meth c Q nL D cA base h0 (pc + 2) lo (.ref (base + zN h) :: st) (znw h 101 n.toNatClampNeg n.toNatClampNeg)) : zGA p l e R s m args below meth c Q nL D cA base h0 pc lo (.int n :: st) h := fun z H locs ls hW hS hl => by
  have hb := X.2.2.2.2.1
  obtain ⟨q1, q2⟩ := a_roomN (sl := n.toNatClampNeg) r z hc
  have hle : n.toNatClampNeg ≤ 1000000 := by have : n.toNatClampNeg = n.toInt.toNat := rfl; omega
  have hneg : ¬ n < 0 := fun q => by have := Int32.lt_iff_toInt_lt.mp q; simp at this; omega
  refine va_newaK (atype := .byte) X.1 X.2.1 (hb _ w1) rfl d rfl hneg rfl (by show n.toNatClampNeg * 1 ≤ _; omega) q1 q2 hW.1 fun H1 cB e1 z1 o1 hAr hNm => ?_
  have hcA : cB = cA 1 := by
    have h2 := (X.2.2.2.2.2.2.1.2 1 _ rfl).2
    exact Option.some.inj (hNm.symm.trans h2)
  subst hcA
  have hnk : zK (znw h 101 n.toNatClampNeg n.toNatClampNeg) (zN h) = 101 := z1_self _ _ _
  have hnl : zL (znw h 101 n.toNatClampNeg n.toNatClampNeg) (zN h) = n.toNatClampNeg := z1_self _ _ _
  have hszz : zsz (znw h 101 n.toNatClampNeg n.toNatClampNeg) (zN h) = n.toNatClampNeg := by unfold zsz; rw [hnk, if_neg (by decide), hnl]
  have hz' := z.push hszz hc
  refine W.cs (by show _ = zN h + 1 - zN h0; have := z.2.1; omega) (by show _ = zS h + n.toNatClampNeg - zS h0; have := z.2.2.1; omega) (kk hz' H1 locs ls (hW.push (by rw [z1, hW.1]) (fun q hq => o1 q (by rw [← hW.1]; exact hq)) e1 (by rw [hszz, arrV_size]) ⟨fun hk => ?_, fun t ht hk => ?_⟩) ⟨Nat.le_trans hS.1 (by rw [z1, hW.1]; omega), fun x g1 g2 => (o1 x (by have := hS.1; have := hW.1; omega)).trans (hS.2.1 x g1 g2), hS.2.2⟩ hl)
  · rw [hnk] at hk
    omega
  · rw [hnk] at hk
    have : t = 1 := by omega
    subst this
    show H1[base + zN h]? = some (vp_cell (cA 1) (zL (znw h 101 n.toNatClampNeg n.toNatClampNeg) (zN h), Sum.inl (zI (znw h 101 n.toNatClampNeg n.toNatClampNeg) (zN h))))
    rw [e1, hnl]
    have e9 : zI (znw h 101 n.toNatClampNeg n.toNatClampNeg) (zN h) = (fun _ => 0) := z1_self _ _ _
    rw [e9]
    rfl
theorem a_newa2 (X : zX p s m args meth c cc own nL D cA base sA) (r : zRm R s D cA base h0) {n : Int32} (hn : 0 ≤ n.toInt ∧ n.toInt ≤ 1000000) (hc : zN h + 1 ≤ zNC ∧ zS h + n.toNatClampNeg ≤ zNS) (w1 : Cond.arrayClass .long ∈ zgd) (d : decode cc pc = .ok (.newarray .long, 2)) (kk : zGA p l e R s m args below meth c Q nL D cA base h0 (pc + 2) lo (.ref (base + zN h) :: st) (znw h 102 n.toNatClampNeg n.toNatClampNeg)) : zGA p l e R s m args below meth c Q nL D cA base h0 pc lo (.int n :: st) h := fun z H locs ls hW hS hl => by
  have hb := X.2.2.2.2.1
  obtain ⟨q1, q2⟩ := a_roomN (sl := n.toNatClampNeg) r z hc
  have hle : n.toNatClampNeg ≤ 1000000 := by have : n.toNatClampNeg = n.toInt.toNat := rfl; omega
  have hneg : ¬ n < 0 := fun q => by have := Int32.lt_iff_toInt_lt.mp q; simp at this; omega
  refine va_newaK (atype := .long) X.1 X.2.1 (hb _ w1) rfl d rfl hneg rfl (by show n.toNatClampNeg * 8 ≤ _; omega) q1 q2 hW.1 fun H1 cB e1 z1 o1 hAr hNm => ?_
  have hcA : cB = cA 2 := by
    have h2 := (X.2.2.2.2.2.2.1.2 2 _ rfl).2
    exact Option.some.inj (hNm.symm.trans h2)
  subst hcA
  have hnk : zK (znw h 102 n.toNatClampNeg n.toNatClampNeg) (zN h) = 102 := z1_self _ _ _
  have hnl : zL (znw h 102 n.toNatClampNeg n.toNatClampNeg) (zN h) = n.toNatClampNeg := z1_self _ _ _
  have hszz : zsz (znw h 102 n.toNatClampNeg n.toNatClampNeg) (zN h) = n.toNatClampNeg := by unfold zsz; rw [hnk, if_neg (by decide), hnl]
  have hz' := z.push hszz hc
  refine W.cs (by show _ = zN h + 1 - zN h0; have := z.2.1; omega) (by show _ = zS h + n.toNatClampNeg - zS h0; have := z.2.2.1; omega) (kk hz' H1 locs ls (hW.push (by rw [z1, hW.1]) (fun q hq => o1 q (by rw [← hW.1]; exact hq)) e1 (by rw [hszz, arrV_size]) ⟨fun hk => ?_, fun t ht hk => ?_⟩) ⟨Nat.le_trans hS.1 (by rw [z1, hW.1]; omega), fun x g1 g2 => (o1 x (by have := hS.1; have := hW.1; omega)).trans (hS.2.1 x g1 g2), hS.2.2⟩ hl)
  · rw [hnk] at hk
    omega
  · rw [hnk] at hk
    have : t = 2 := by omega
    subst this
    show H1[base + zN h]? = some (vp_cell (cA 2) (zL (znw h 102 n.toNatClampNeg n.toNatClampNeg) (zN h), (fun f => Sum.inr (Sum.inl f)) (zJ (znw h 102 n.toNatClampNeg n.toNatClampNeg) (zN h))))
    rw [e1, hnl]
    have e9 : zJ (znw h 102 n.toNatClampNeg n.toNatClampNeg) (zN h) = (fun _ => 0) := z1_self _ _ _
    rw [e9]
    rfl
theorem a_newa3 (X : zX p s m args meth c cc own nL D cA base sA) (r : zRm R s D cA base h0) {n : Int32} (hn : 0 ≤ n.toInt ∧ n.toInt ≤ 1000000) (hc : zN h + 1 ≤ zNC ∧ zS h + n.toNatClampNeg ≤ zNS) (w1 : Cond.arrayClass .boolean ∈ zgd) (d : decode cc pc = .ok (.newarray .boolean, 2)) (kk : zGA p l e R s m args below meth c Q nL D cA base h0 (pc + 2) lo (.ref (base + zN h) :: st) (znw h 103 n.toNatClampNeg n.toNatClampNeg)) : zGA p l e R s m args below meth c Q nL D cA base h0 pc lo (.int n :: st) h := fun z H locs ls hW hS hl => by
  have hb := X.2.2.2.2.1
  obtain ⟨q1, q2⟩ := a_roomN (sl := n.toNatClampNeg) r z hc
  have hle : n.toNatClampNeg ≤ 1000000 := by have : n.toNatClampNeg = n.toInt.toNat := rfl; omega
  have hneg : ¬ n < 0 := fun q => by have := Int32.lt_iff_toInt_lt.mp q; simp at this; omega
  refine va_newaK (atype := .boolean) X.1 X.2.1 (hb _ w1) rfl d rfl hneg rfl (by show n.toNatClampNeg * 1 ≤ _; omega) q1 q2 hW.1 fun H1 cB e1 z1 o1 hAr hNm => ?_
  have hcA : cB = cA 3 := by
    have h2 := (X.2.2.2.2.2.2.1.2 3 _ rfl).2
    exact Option.some.inj (hNm.symm.trans h2)
  subst hcA
  have hnk : zK (znw h 103 n.toNatClampNeg n.toNatClampNeg) (zN h) = 103 := z1_self _ _ _
  have hnl : zL (znw h 103 n.toNatClampNeg n.toNatClampNeg) (zN h) = n.toNatClampNeg := z1_self _ _ _
  have hszz : zsz (znw h 103 n.toNatClampNeg n.toNatClampNeg) (zN h) = n.toNatClampNeg := by unfold zsz; rw [hnk, if_neg (by decide), hnl]
  have hz' := z.push hszz hc
  refine W.cs (by show _ = zN h + 1 - zN h0; have := z.2.1; omega) (by show _ = zS h + n.toNatClampNeg - zS h0; have := z.2.2.1; omega) (kk hz' H1 locs ls (hW.push (by rw [z1, hW.1]) (fun q hq => o1 q (by rw [← hW.1]; exact hq)) e1 (by rw [hszz, arrV_size]) ⟨fun hk => ?_, fun t ht hk => ?_⟩) ⟨Nat.le_trans hS.1 (by rw [z1, hW.1]; omega), fun x g1 g2 => (o1 x (by have := hS.1; have := hW.1; omega)).trans (hS.2.1 x g1 g2), hS.2.2⟩ hl)
  · rw [hnk] at hk
    omega
  · rw [hnk] at hk
    have : t = 3 := by omega
    subst this
    show H1[base + zN h]? = some (vp_cell (cA 3) (zL (znw h 103 n.toNatClampNeg n.toNatClampNeg) (zN h), Sum.inl (zI (znw h 103 n.toNatClampNeg n.toNatClampNeg) (zN h))))
    rw [e1, hnl]
    have e9 : zI (znw h 103 n.toNatClampNeg n.toNatClampNeg) (zN h) = (fun _ => 0) := z1_self _ _ _
    rw [e9]
    rfl
end AN
section AO
variable {p : Program} {l : Launch} {e : Env} {R : Room} {s : State} {m : MethodId} {args : Array Value} {below : List Frame} {meth : Method} {c : Code} {Q : State → Prop}
variable {cc : ByteArray} {own : String} {nL : Nat} {D : va_G} {cA : Nat → ClassId} {base : Nat} {sA : Nat → Nat} {h0 : Zh} {pc : Nat} {lo lo' : List (Nat × Value)} {st : List Value} {h : Zh}
theorem a_objInit (X : zX p s m args meth c cc own nL D cA base sA) (r : zRm R s D cA base h0) {b idx : Nat} (w1 : Cond.methodLink own idx objectInit ∈ zgd) (w2 : Cond.instanceMethod objectInit ∈ zgd) (w3 : Cond.code objectInit ⟨#[0xb1]⟩ 1 none ∈ zgd) (hfr : 1 ≤ R.frames) (hlo : (st.map fun v => v.category).sum + 12 ≤ R.locals) (d : decode cc pc = .ok (.invokespecial idx, 3)) (kk : zGA p l e R s m args below meth c Q nL D cA base h0 (pc + 3) lo st h) : zGA p l e R s m args below meth c Q nL D cA base h0 pc lo (.ref b :: st) h := fun z H locs ls hW hS hl => W.objInit X.1 X.2.1 X.2.2.2.1 (X.2.2.2.2.1 _ w1) (X.2.2.2.2.1 _ w2) (X.2.2.2.2.1 _ w3) rfl (by rw [X.2.2.1]; exact hl.1) rfl d hfr (by show 2 * 0 + _ + 12 ≤ _; omega) (kk z H locs ls hW hS hl)
theorem a_putF0 (X : zX p s m args meth c cc own nL D cA base sA) {a ci N idx : Nat} {C : String} {T : u_T} {v : Value} {h' : Zh} (hin : meth.name = "<init>") (hoC : own = C) (F : zF ci C T N) (hk : zK h a = ci) (k : Nat) (hkN : k < N) (hw : Cond.fieldLink own idx C (T k).2.1 (T k).2.2.1 ∈ zgd) (hd : (T k).1 = C) (hfin : (T k).2.2.2 = true) (hn : narrow (zty ci k) v = v) (hfit : fits (zty ci k) v = true) (eN : zN h' = zN h) (eS : zS h' = zS h) (eK : zK h' = zK h) (eL : zL h' = zL h) (o : ∀ x, x ≠ a → zI h' x = zI h x ∧ zJ h' x = zJ h x ∧ zR h' x = zR h x) (eO : zob base h' a ci = (zob base h a ci).set k v) (d : decode cc pc = .ok (.putfield idx, 3)) (kk : zGA p l e R s m args below meth c Q nL D cA base h0 (pc + 3) lo st h') : zGA p l e R s m args below meth c Q nL D cA base h0 pc lo (v :: .ref (base + a) :: st) h := fun z H locs ls hW hS hl => by
  have z : zgA h0 h' := z.mv eN eS eK eL
  obtain ⟨F1, F2, F3, F4, F5, F6⟩ := F
  have ha := (hW.2.1 a).1 (by rw [hk]; exact F1)
  rw [hk] at ha
  obtain ⟨r, h1, cell, q1, q2, q3, q4⟩ := ha
  have hr : r = (C, T, N) := Option.some.inj (h1.symm.trans F2)
  subst hr
  have hap := va_apart (own := own) X.2.2.2.2.1 F4 (zty ci) F5 F6 X.2.2.2.2.2.2.1 F2
  obtain ⟨hS2, hfc, kC, hkC, hkind⟩ := X.2.2.2.2.2.2.1.1 ci _ F2
  obtain ⟨cf, kf, fi, f, hi, hsl⟩ := hS2 k hkN
  have hlay := X.2.2.2.2.1 _ (F4 _ (u_in_lay hkN))
  unfold u_lay at hlay
  rw [if_pos hfin] at hlay
  have hst := (u_facts hfc hkC (u_lays X.2.2.2.2.1 F4 hkN) hi).1
  have hcf : m.cls = cf := by
    obtain ⟨_, _, c', _, _, _, -, -, hf', -, -, -, hown2, -⟩ := Cond.laysFinal_spec hlay
    have e1 : c' = cf := by have := hi.symm.trans hf'; simp at this; exact this.1.symm
    rw [hd, ← hoC] at hown2
    rw [← e1]; exact Option.some.inj (X.2.2.2.1.symm.trans hown2)
  have h6 := u_fits hfc hkC hkind (Or.inr hlay) hi (F5 k hkN) hn hfit
  refine W.putFinK X.1 X.2.1 X.2.2.2.1 (X.2.2.2.2.1 _ hw) (by rw [hd] at hi; exact hi) hst hcf hin (by rw [q2]; exact h6) q1 q3 (by rw [hsl]; exact k2_hasslot (q4 k hkN)) rfl rfl d fun H' e1 e2 e3 => ?_
  rw [hsl] at e1 ⊢
  rw [← eN, ← eS]
  refine kk z H' _ _ (hW.upd e2 e3 q1 e1 (zss _ _ _) eN eK eL o ⟨fun hc => ?_, fun t ht hkt => ?_⟩) (hS.put e2 e3 (by show base ≤ base + a; omega)) hl
  · rw [eK, hk, eO]
    exact ⟨_, F2, t_OB.to (V := updV (vp_V (zob base h a ci)) k v) ⟨_, e1, q2, q3, t_set q4 hap hkN v⟩ (fun j _ => vp_updV_set (by rw [zob_len, F3]; exact hkN) v j)⟩
  · rw [eK, hk] at hkt
    omega
theorem a_putFI (X : zX p s m args meth c cc own nL D cA base sA) {a ci N idx : Nat} {C : String} {T : u_T} {v : Int32} (hin : meth.name = "<init>") (hoC : own = C) (F : zF ci C T N) (hk : zK h a = ci) (k : Nat) (hkN : k < N) (hw : Cond.fieldLink own idx C (T k).2.1 (T k).2.2.1 ∈ zgd) (hd : (T k).1 = C) (hfin : (T k).2.2.2 = true) (ht : zty ci k = .int) (d : decode cc pc = .ok (.putfield idx, 3)) (kk : zGA p l e R s m args below meth c Q nL D cA base h0 (pc + 3) lo st (zsI h a k v)) : zGA p l e R s m args below meth c Q nL D cA base h0 pc lo (.int v :: .ref (base + a) :: st) h := a_putF0 (h' := zsI h a k v) X hin hoC F hk k hkN hw hd hfin (by rw [ht]; rfl) (by rw [ht]; rfl) rfl rfl rfl rfl (fun x hx => ⟨z2_row _ _ _ hx, rfl, rfl⟩) (zob_sI (by rw [ht]; rfl)) d kk
theorem a_putFR (X : zX p s m args meth c cc own nL D cA base sA) {a ci N idx : Nat} {C : String} {T : u_T} {v : Nat} (hin : meth.name = "<init>") (hoC : own = C) (F : zF ci C T N) (hk : zK h a = ci) (k : Nat) (hkN : k < N) (hw : Cond.fieldLink own idx C (T k).2.1 (T k).2.2.1 ∈ zgd) (hd : (T k).1 = C) (hfin : (T k).2.2.2 = true) (ht : zref (zty ci k) = true) (d : decode cc pc = .ok (.putfield idx, 3)) (kk : zGA p l e R s m args below meth c Q nL D cA base h0 (pc + 3) lo st (zsR h a k (some v))) : zGA p l e R s m args below meth c Q nL D cA base h0 pc lo (.ref (base + v) :: .ref (base + a) :: st) h := a_putF0 (h' := zsR h a k (some v)) X hin hoC F hk k hkN hw hd hfin (zref_n ht) (zref_f ht) rfl rfl rfl rfl (fun x hx => ⟨rfl, rfl, z2_row _ _ _ hx⟩) (zob_sR ht) d kk
theorem a_callI (X : zX p s m args meth c cc own nL D cA base sA) (r : zRm R s D cA base h0) {y : MethodName} {cc' : ByteArray} {nL' fr lc b idx : Nat} {As stk : List Value} {h' : Zh} (n : Nat) (hC : zCA l y cc' nL' none fr lc D cA base sA (.ref (base + b) :: As) h none h') (hy : y.name = "<init>") (hd : y.cls ≠ "java/lang/invoke/MethodHandle" ∧ y.cls ≠ "java/lang/invoke/VarHandle" ∧ (parseMethodDescriptor y.desc).map (fun d => d.parameters.length) = some n) (w1 : Cond.methodLink own idx y ∈ zgd) (w2 : Cond.instanceMethod y ∈ zgd) (w4 : Cond.initialized y.cls ∈ zgd) (w5 : Cond.code y cc' nL' none ∈ zgd) (hR : fr + 1 ≤ R.frames ∧ 8 + (nL' + 11) + lc ≤ R.locals) (hn : As.length = n) (hs : stk = As.reverse ++ .ref (base + b) :: st) (hsum : (st.map fun v => v.category).sum ≤ 8) (d : decode cc pc = .ok (.invokespecial idx, 3)) (kk : zGA p l e R s m args below meth c Q nL D cA base h0 (pc + 3) lo st h') : zGA p l e R s m args below meth c Q nL D cA base h0 pc lo stk h := fun z H locs ls hW hS hl => by
  have S : CallFix p m c cc nL s args zgd own := ⟨X.1, X.2.1, X.2.2.1, X.2.2.2.1, X.2.2.2.2.1⟩
  have hb := X.2.2.2.2.1
  exact a_runA r (va_runI (As := As) (rest := st) S hC (n := n) ⟨callB_of n hb (zgoodW w5) rfl rfl rfl (hb _ w4) (hb _ w1) hd hR, hy, hb _ w2⟩ (a_preA X.2.2.2.2.2.2 hW hS z.1) rfl hn hl.1 hs (lv_room hsum) d (a_roomA r z)) z hS hl rfl kk
theorem a_callIN (X : zX p s m args meth c cc own nL D cA base sA) (r : zRm R s D cA base h0) {y : MethodName} {cc' : ByteArray} {nL' fr lc b idx : Nat} {host : String} {As stk : List Value} {h' : Zh} (n : Nat) (hC : zCA l y cc' nL' none fr lc D cA base sA (.ref (base + b) :: As) h none h') (hy : y.name = "<init>") (hd : y.cls ≠ "java/lang/invoke/MethodHandle" ∧ y.cls ≠ "java/lang/invoke/VarHandle" ∧ (parseMethodDescriptor y.desc).map (fun d => d.parameters.length) = some n) (w1 : Cond.methodLinkNest own idx y host ∈ znn) (w2 : Cond.instanceMethod y ∈ zgd) (w4 : Cond.initialized y.cls ∈ zgd) (w5 : Cond.code y cc' nL' none ∈ zgd) (hR : fr + 1 ≤ R.frames ∧ 8 + (nL' + 11) + lc ≤ R.locals) (hn : As.length = n) (hs : stk = As.reverse ++ .ref (base + b) :: st) (hsum : (st.map fun v => v.category).sum ≤ 8) (d : decode cc pc = .ok (.invokespecial idx, 3)) (kk : zGA p l e R s m args below meth c Q nL D cA base h0 (pc + 3) lo st h') : zGA p l e R s m args below meth c Q nL D cA base h0 pc lo stk h := fun z H locs ls hW hS hl => by
  have S : CallFix p m c cc nL s args zgd own := ⟨X.1, X.2.1, X.2.2.1, X.2.2.2.1, X.2.2.2.2.1⟩
  have hb := X.2.2.2.2.1
  exact a_runA r (va_runIN (As := As) (rest := st) S hC (n := n) (host := host) ⟨va_cnB n hb (zgoodW w5) rfl rfl rfl (X.2.2.2.2.2.2.2.1 _ w1) (hb _ w4) hd hR, hy, hb _ w2⟩ (a_preA X.2.2.2.2.2.2 hW hS z.1) rfl hn hl.1 hs (lv_room hsum) d (a_roomA r z)) z hS hl rfl kk
theorem a_anew4 (X : zX p s m args meth c cc own nL D cA base sA) (r : zRm R s D cA base h0) {n : Int32} {idx : Nat} (hn : 0 ≤ n.toInt ∧ n.toInt ≤ 1000000) (hc : zN h + 1 ≤ zNC ∧ zS h + n.toNatClampNeg ≤ zNS) (w1 : Cond.classLink own idx RX2 ∈ zgd) (d : decode cc pc = .ok (.anewarray idx, 3)) (kk : zGA p l e R s m args below meth c Q nL D cA base h0 (pc + 3) lo (.ref (base + zN h) :: st) (znw h 104 n.toNatClampNeg n.toNatClampNeg)) : zGA p l e R s m args below meth c Q nL D cA base h0 pc lo (.int n :: st) h := fun z H locs ls hW hS hl => by
  have hb := X.2.2.2.2.1
  obtain ⟨q1, q2⟩ := a_roomN (sl := n.toNatClampNeg) r z hc
  have hle : n.toNatClampNeg ≤ 1000000 := by have : n.toNatClampNeg = n.toInt.toNat := rfl; omega
  have hneg : ¬ n < 0 := fun q => by have := Int32.lt_iff_toInt_lt.mp q; simp at this; omega
  refine W.anew X.1 X.2.1 X.2.2.2.1 (hb _ w1) (va_AO.use X.2.2.2.2.2.2.2.2.1) rfl d rfl hneg (by omega) q1 q2 fun cB kA comp f1 f2 f3 f4 => ?_
  generalize hH1 : H.push ({ cls := cB, slots := Array.replicate n.toNatClampNeg .null, vm := .none } : Cell) = H1
  have z1 : H1.size = H.size + 1 := by rw [← hH1, Array.size_push]
  have e1 : H1[H.size]? = some (arrV cB n.toNatClampNeg (fun _ => .null)) := by rw [← hH1, Array.getElem?_push_size, ← arrV_new]
  have o1 : ∀ q : Nat, q < H.size → H1[q]? = H[q]? := fun q hq => by rw [← hH1, Array.getElem?_push, if_neg (Nat.ne_of_lt hq)]
  have hcA : cB = cA 4 := by
    obtain ⟨kA', comp', g1, g2, g3, g4⟩ := (X.2.2.2.2.2.2.1.2 4 _ rfl).2
    exact Option.some.inj (f1.symm.trans g4)
  subst hcA
  rw [hW.1] at e1
  rw [show (Value.ref H.size) = Value.ref (base + zN h) by rw [hW.1]]
  have hnk : zK (znw h 104 n.toNatClampNeg n.toNatClampNeg) (zN h) = 104 := z1_self _ _ _
  have hnl : zL (znw h 104 n.toNatClampNeg n.toNatClampNeg) (zN h) = n.toNatClampNeg := z1_self _ _ _
  have hszz : zsz (znw h 104 n.toNatClampNeg n.toNatClampNeg) (zN h) = n.toNatClampNeg := by unfold zsz; rw [hnk, if_neg (by decide), hnl]
  have hz' := z.push hszz hc
  refine W.cs (by show _ = zN h + 1 - zN h0; have := z.2.1; omega) (by show _ = zS h + n.toNatClampNeg - zS h0; have := z.2.2.1; omega) (kk hz' H1 locs ls (hW.push z1 o1 e1 (by rw [hszz, arrV_size]) ⟨fun hk => ?_, fun t ht hk => ?_⟩) ⟨Nat.le_trans hS.1 (by rw [z1]; omega), fun x g1 g2 => (o1 x (Nat.lt_of_lt_of_le g1 hS.1)).trans (hS.2.1 x g1 g2), hS.2.2⟩ hl)
  · rw [hnk] at hk
    omega
  · rw [hnk] at hk
    have : t = 4 := by omega
    subst this
    show H1[base + zN h]? = some (vp_cell (cA 4) (zL (znw h 104 n.toNatClampNeg n.toNatClampNeg) (zN h), .inr (.inr (.inr (.inr (fun j => (zR (znw h 104 n.toNatClampNeg n.toNatClampNeg) (zN h) j).map (base + ·)))))))
    rw [e1, hnl]
    have e9 : zR (znw h 104 n.toNatClampNeg n.toNatClampNeg) (zN h) = (fun _ => none) := z1_self _ _ _
    rw [e9]
    rfl
theorem a_aast4 (X : zX p s m args meth c cc own nL D cA base sA) {a b : Nat} {i : Int32} (hk : zK h a = 104) (hin : zin i (zL h a)) (hkb : zK h b = 2) (d : decode cc pc = .ok (.aastore, 1)) (kk : zGA p l e R s m args below meth c Q nL D cA base h0 (pc + 1) lo st (zsR h a i.toNatClampNeg (some b))) : zGA p l e R s m args below meth c Q nL D cA base h0 pc lo (.ref (base + b) :: .int i :: .ref (base + a) :: st) h := fun z H locs ls hW hS hl => by
  have ha : H[base + a]? = some (vp_cell (cA 4) (zL h a, zac base h a 4)) := (hW.2.1 a).2 4 (by decide) hk
  have hv := (hW.2.1 b).1 (by rw [hkb]; decide)
  rw [hkb] at hv
  obtain ⟨r', hr', cellV, g1, g2, g3, -⟩ := hv
  have hK := X.2.2.2.2.2.2.1
  have hcls := (hK.1 2 _ zf2.2.1).2
  obtain ⟨kA, comp, k1, k2, k3, -⟩ := (hK.2 4 _ rfl).2
  have hcomp : comp = D.1 2 := Option.some.inj (k3.symm.trans hcls.1)
  subst hcomp
  obtain ⟨kC, hkC, -⟩ := hcls.2
  have hin' := vp_in_iff.mpr hin
  have hlt : i.toNatClampNeg < zL h a := Nat.not_le.mp fun q => hin' (Or.inr q)
  have hi0 : ¬ i < 0 := fun q => hin' (Or.inl q)
  refine W.aast X.1 X.2.1 ha (fun q h => by cases h) (fun h => by cases h) k1 k2 rfl hkC ⟨hi0, by show _ < (arrV _ _ _).slots.size; rw [arrV_size]; exact hlt⟩ g1 (fun q h => by rw [g3] at h; cases h) (by rw [g2]; exact hkC) (by rw [g2]; exact va_assign hcls) rfl rfl d fun H1 e1 z1 oq => ?_
  refine kk z H1 _ ls (hW.upd (h' := zsR h a i.toNatClampNeg (some b)) z1 oq ha e1 (zss _ _ _) rfl rfl rfl (fun x hx => ⟨rfl, rfl, z2_row _ _ _ hx⟩) ⟨fun hc => ?_, fun t ht hkt => ?_⟩) (hS.put z1 oq (by show base ≤ base + a; omega)) hl
  · have hc : zK h a < 13 := hc
    omega
  · have hkt : zK h a = 100 + t := hkt
    have : t = 4 := by omega
    subst this
    show H1[base + a]? = some (vp_cell (cA 4) (zL h a, .inr (.inr (.inr (.inr (fun j => (zR (zsR h a i.toNatClampNeg (some b)) a j).map (base + ·)))))))
    rw [e1]
    show some ((vp_cell (cA 4) (zL h a, .inr (.inr (.inr (.inr (fun j => (zR h a j).map (base + ·))))))).setSlot _ _) = _
    rw [vp_cell_q, vp_cell_q, arrV_store]
    congr 2
    funext q
    by_cases hq : q = i.toNatClampNeg
    · subst hq
      simp [updV, zsR, zR, z2, va_rf]
    · simp [updV, zsR, zR, z2, hq]
theorem a_anew5 (X : zX p s m args meth c cc own nL D cA base sA) (r : zRm R s D cA base h0) {n : Int32} {idx : Nat} (hn : 0 ≤ n.toInt ∧ n.toInt ≤ 1000000) (hc : zN h + 1 ≤ zNC ∧ zS h + n.toNatClampNeg ≤ zNS) (w1 : Cond.classLink own idx RX1 ∈ zgd) (d : decode cc pc = .ok (.anewarray idx, 3)) (kk : zGA p l e R s m args below meth c Q nL D cA base h0 (pc + 3) lo (.ref (base + zN h) :: st) (znw h 105 n.toNatClampNeg n.toNatClampNeg)) : zGA p l e R s m args below meth c Q nL D cA base h0 pc lo (.int n :: st) h := fun z H locs ls hW hS hl => by
  have hb := X.2.2.2.2.1
  obtain ⟨q1, q2⟩ := a_roomN (sl := n.toNatClampNeg) r z hc
  have hle : n.toNatClampNeg ≤ 1000000 := by have : n.toNatClampNeg = n.toInt.toNat := rfl; omega
  have hneg : ¬ n < 0 := fun q => by have := Int32.lt_iff_toInt_lt.mp q; simp at this; omega
  refine W.anew X.1 X.2.1 X.2.2.2.1 (hb _ w1) (va_AO.use X.2.2.2.2.2.2.2.2.2.1) rfl d rfl hneg (by omega) q1 q2 fun cB kA comp f1 f2 f3 f4 => ?_
  generalize hH1 : H.push ({ cls := cB, slots := Array.replicate n.toNatClampNeg .null, vm := .none } : Cell) = H1
  have z1 : H1.size = H.size + 1 := by rw [← hH1, Array.size_push]
  have e1 : H1[H.size]? = some (arrV cB n.toNatClampNeg (fun _ => .null)) := by rw [← hH1, Array.getElem?_push_size, ← arrV_new]
  have o1 : ∀ q : Nat, q < H.size → H1[q]? = H[q]? := fun q hq => by rw [← hH1, Array.getElem?_push, if_neg (Nat.ne_of_lt hq)]
  have hcA : cB = cA 5 := by
    obtain ⟨kA', comp', g1, g2, g3, g4⟩ := (X.2.2.2.2.2.2.1.2 5 _ rfl).2
    exact Option.some.inj (f1.symm.trans g4)
  subst hcA
  rw [hW.1] at e1
  rw [show (Value.ref H.size) = Value.ref (base + zN h) by rw [hW.1]]
  have hnk : zK (znw h 105 n.toNatClampNeg n.toNatClampNeg) (zN h) = 105 := z1_self _ _ _
  have hnl : zL (znw h 105 n.toNatClampNeg n.toNatClampNeg) (zN h) = n.toNatClampNeg := z1_self _ _ _
  have hszz : zsz (znw h 105 n.toNatClampNeg n.toNatClampNeg) (zN h) = n.toNatClampNeg := by unfold zsz; rw [hnk, if_neg (by decide), hnl]
  have hz' := z.push hszz hc
  refine W.cs (by show _ = zN h + 1 - zN h0; have := z.2.1; omega) (by show _ = zS h + n.toNatClampNeg - zS h0; have := z.2.2.1; omega) (kk hz' H1 locs ls (hW.push z1 o1 e1 (by rw [hszz, arrV_size]) ⟨fun hk => ?_, fun t ht hk => ?_⟩) ⟨Nat.le_trans hS.1 (by rw [z1]; omega), fun x g1 g2 => (o1 x (Nat.lt_of_lt_of_le g1 hS.1)).trans (hS.2.1 x g1 g2), hS.2.2⟩ hl)
  · rw [hnk] at hk
    omega
  · rw [hnk] at hk
    have : t = 5 := by omega
    subst this
    show H1[base + zN h]? = some (vp_cell (cA 5) (zL (znw h 105 n.toNatClampNeg n.toNatClampNeg) (zN h), .inr (.inr (.inr (.inr (fun j => (zR (znw h 105 n.toNatClampNeg n.toNatClampNeg) (zN h) j).map (base + ·)))))))
    rw [e1, hnl]
    have e9 : zR (znw h 105 n.toNatClampNeg n.toNatClampNeg) (zN h) = (fun _ => none) := z1_self _ _ _
    rw [e9]
    rfl
theorem a_aast5 (X : zX p s m args meth c cc own nL D cA base sA) {a b : Nat} {i : Int32} (hk : zK h a = 105) (hin : zin i (zL h a)) (hkb : zK h b = 1) (d : decode cc pc = .ok (.aastore, 1)) (kk : zGA p l e R s m args below meth c Q nL D cA base h0 (pc + 1) lo st (zsR h a i.toNatClampNeg (some b))) : zGA p l e R s m args below meth c Q nL D cA base h0 pc lo (.ref (base + b) :: .int i :: .ref (base + a) :: st) h := fun z H locs ls hW hS hl => by
  have ha : H[base + a]? = some (vp_cell (cA 5) (zL h a, zac base h a 5)) := (hW.2.1 a).2 5 (by decide) hk
  have hv := (hW.2.1 b).1 (by rw [hkb]; decide)
  rw [hkb] at hv
  obtain ⟨r', hr', cellV, g1, g2, g3, -⟩ := hv
  have hK := X.2.2.2.2.2.2.1
  have hcls := (hK.1 1 _ zf1.2.1).2
  obtain ⟨kA, comp, k1, k2, k3, -⟩ := (hK.2 5 _ rfl).2
  have hcomp : comp = D.1 1 := Option.some.inj (k3.symm.trans hcls.1)
  subst hcomp
  obtain ⟨kC, hkC, -⟩ := hcls.2
  have hin' := vp_in_iff.mpr hin
  have hlt : i.toNatClampNeg < zL h a := Nat.not_le.mp fun q => hin' (Or.inr q)
  have hi0 : ¬ i < 0 := fun q => hin' (Or.inl q)
  refine W.aast X.1 X.2.1 ha (fun q h => by cases h) (fun h => by cases h) k1 k2 rfl hkC ⟨hi0, by show _ < (arrV _ _ _).slots.size; rw [arrV_size]; exact hlt⟩ g1 (fun q h => by rw [g3] at h; cases h) (by rw [g2]; exact hkC) (by rw [g2]; exact va_assign hcls) rfl rfl d fun H1 e1 z1 oq => ?_
  refine kk z H1 _ ls (hW.upd (h' := zsR h a i.toNatClampNeg (some b)) z1 oq ha e1 (zss _ _ _) rfl rfl rfl (fun x hx => ⟨rfl, rfl, z2_row _ _ _ hx⟩) ⟨fun hc => ?_, fun t ht hkt => ?_⟩) (hS.put z1 oq (by show base ≤ base + a; omega)) hl
  · have hc : zK h a < 13 := hc
    omega
  · have hkt : zK h a = 100 + t := hkt
    have : t = 5 := by omega
    subst this
    show H1[base + a]? = some (vp_cell (cA 5) (zL h a, .inr (.inr (.inr (.inr (fun j => (zR (zsR h a i.toNatClampNeg (some b)) a j).map (base + ·)))))))
    rw [e1]
    show some ((vp_cell (cA 5) (zL h a, .inr (.inr (.inr (.inr (fun j => (zR h a j).map (base + ·))))))).setSlot _ _) = _
    rw [vp_cell_q, vp_cell_q, arrV_store]
    congr 2
    funext q
    by_cases hq : q = i.toNatClampNeg
    · subst hq
      simp [updV, zsR, zR, z2, va_rf]
    · simp [updV, zsR, zR, z2, hq]
end AO
theorem a_entry {l : Launch} {y : MethodName} {cc : ByteArray} {nL fr lc : Nat} {ret : Option FieldType} {D : va_G} {cA : Nat → ClassId} {base : Nat} {sA : Nat → Nat} {av : List Value} {h h' : Zh} {rv : Option Value} (own : String) (hy : plainName y.cls = true) (hown : y.cls = own) (hav : (lg_sl av).length ≤ nL) (body : ∀ (p : Program) (e : Env) (R : Room) (s : State) (m : MethodId) (args : Array Value) (below : List Frame) (meth : Method) (c : Code), R.frames = fr → R.locals = lc → zRm R s D cA base h → meth.name = y.name → zX p s m args meth c cc own nL D cA base sA → meth.sig.returnType = ret → zGA p l e R s m args below meth c (MQ below (zQA D cA base h h' rv) args s (zNC - zN h) (zNS - zS h) (zA base)) nL D cA base h 0 (lv_args 0 av) [] h) : zCA l y cc nL ret fr lc D cA base sA av h rv h' := by
  refine Met.ofW (cc := cc) (maxL := nL) (ret := ret) hy rfl ?_
  intro p e s m args below meth c s₁ B hml hv
  obtain ⟨rfl, hA, hW, hc⟩ := hv
  have hts := atoms_spec (ws := .code y cc nL ret :: zgd) B.pre
  have hl := lv_entry av (n := nL) hav
  rw [lg_entry_eq]
  refine W.cs (Nat.sub_self (zN h)).symm (Nat.sub_self (zS h)).symm ?_
  exact body p e _ s m _ below meth c rfl rfl ⟨rfl, rfl, hW, hc⟩ (name_of_methodNamed B.named B.method).1 ⟨B.exec, B.bytes, hml, by rw [← hown]; exact findClass_of_methodNamed B.named, fun w hw => hts w (List.mem_cons_of_mem _ hw), B.notSynchronized, hA⟩ B.returns (zgA.rf hc) s.heap [] _ hW va_S.rf hl
