/-! a typed picture of the heap: cells count from base on; ints, longs and references of a cell by its places -/
abbrev Zh : Type := (Nat × Nat) × (Nat → Nat) × (Nat → Nat) × (Nat → Nat → Int32) × (Nat → Nat → Int64) × (Nat → Nat → Option Nat)
/-- how many cells, how many slots in all; each cell's kind, each array's length; what the places hold -/
def zN (h : Zh) : Nat := h.1.1
def zS (h : Zh) : Nat := h.1.2
def zK (h : Zh) : Nat → Nat := h.2.1
def zL (h : Zh) : Nat → Nat := h.2.2.1
def zI (h : Zh) : Nat → Nat → Int32 := h.2.2.2.1
def zJ (h : Zh) : Nat → Nat → Int64 := h.2.2.2.2.1
def zR (h : Zh) : Nat → Nat → Option Nat := h.2.2.2.2.2
def z1 {α : Type} (f : Nat → α) (a : Nat) (v : α) : Nat → α := fun x => if x = a then v else f x
def z2 {α : Type} (f : Nat → Nat → α) (a k : Nat) (v : α) : Nat → Nat → α := fun x y => if x = a ∧ y = k then v else f x y
def zsI (h : Zh) (a k : Nat) (v : Int32) : Zh := (h.1, zK h, zL h, z2 (zI h) a k v, zJ h, zR h)
def zsJ (h : Zh) (a k : Nat) (v : Int64) : Zh := (h.1, zK h, zL h, zI h, z2 (zJ h) a k v, zR h)
def zsR (h : Zh) (a k : Nat) (v : Option Nat) : Zh := (h.1, zK h, zL h, zI h, zJ h, z2 (zR h) a k v)
def zaI (h : Zh) (a : Nat) (f : Nat → Int32) : Zh := (h.1, zK h, zL h, z1 (zI h) a f, zJ h, zR h)
def znw (h : Zh) (kd len sl : Nat) : Zh := ((zN h + 1, zS h + sl), z1 (zK h) (zN h) kd, z1 (zL h) (zN h) len, z1 (zI h) (zN h) (fun _ => 0), z1 (zJ h) (zN h) (fun _ => 0), z1 (zR h) (zN h) (fun _ => none))
def zle (h h' : Zh) : Prop := zN h ≤ zN h' ∧ zS h ≤ zS h'
theorem zle.rf {h : Zh} : zle h h := ⟨Nat.le_refl _, Nat.le_refl _⟩
theorem zle.tr {a b c : Zh} (h : zle a b) (k : zle b c) : zle a c := ⟨Nat.le_trans h.1 k.1, Nat.le_trans h.2 k.2⟩
theorem z1_self {α : Type} (f : Nat → α) (a : Nat) (v : α) : z1 f a v a = v := by simp [z1]
theorem z1_ne {α : Type} (f : Nat → α) {a x : Nat} (v : α) (h : x ≠ a) : z1 f a v x = f x := by simp [z1, h]
theorem z2_row {α : Type} (f : Nat → Nat → α) {a x : Nat} (k : Nat) (v : α) (h : x ≠ a) : z2 f a k v x = f x := by funext y; simp [z2, h]
/-- the kinds: 0 .. 12 objects, 100 .. 105 arrays -/
abbrev zcl : List vw_C := [(RX0, TX0, 13), (RX1, TX1, 4), (RX2, TX2, 10), (RX3, TX3, 2), (RX4, TX4, 11), (RX5, TX5, 1), (RX6, TX6, 15), (RX7, TX7, 12), (RX8, TX8, 4), (RX9, TX9, 5), (RX10, TX10, 12), (RX11, TX11, 15), (RX12, TX12, 46)]
def zNf (c : Nat) : Nat := match c with
  | 0 => 13 | 1 => 4 | 2 => 10 | 3 => 2 | 4 => 11 | 5 => 1 | 6 => 15 | 7 => 12 | 8 => 4 | 9 => 5 | 10 => 12 | 11 => 15 | _ => 46
def zty (c : Nat) : Nat → FieldType := match c with
  | 0 => tyX0 | 1 => tyX1 | 2 => tyX2 | 3 => tyX3 | 4 => tyX4 | 5 => tyX5 | 6 => tyX6 | 7 => tyX7 | 8 => tyX8 | 9 => tyX9 | 10 => tyX10 | 11 => tyX11 | _ => tyX12
def zvr (base : Nat) (r : Option Nat) : Value := va_rf (r.map (base + ·))
def zfv (base : Nat) (h : Zh) (a : Nat) (ty : FieldType) (k : Nat) : Value := match ty with
  | .long => .long (zJ h a k)
  | .object _ => zvr base (zR h a k)
  | .array _ => zvr base (zR h a k)
  | _ => .int (zI h a k)
def zob (base : Nat) (h : Zh) (a c : Nat) : List Value := (List.range (zNf c)).map (fun k => zfv base h a (zty c k) k)
def zac (base : Nat) (h : Zh) (a t : Nat) : (Nat → Int32) ⊕ (Nat → Int64) ⊕ (Nat → UInt32) ⊕ (Nat → UInt64) ⊕ (Nat → Option Nat) := match t with
  | 2 => .inr (.inl (zJ h a))
  | 4 => .inr (.inr (.inr (.inr (fun j => (zR h a j).map (base + ·)))))
  | 5 => .inr (.inr (.inr (.inr (fun j => (zR h a j).map (base + ·)))))
  | _ => .inl (zI h a)
def zat (D : va_G) (cA : Nat → ClassId) (base : Nat) (h : Zh) (i : Nat) (H : Heap) : Prop :=
  (zK h i < 13 → va_at D zcl (base + i, .inr (zK h i, zob base h i (zK h i))) H) ∧ (∀ t, t < 6 → zK h i = 100 + t → va_at D zcl (base + i, .inl (cA t, zL h i, zac base h i t)) H)
/-- how many slots a cell has -/
def zsz (h : Zh) (i : Nat) : Nat := if zK h i < 13 then zNf (zK h i) else zL h i
def zW (D : va_G) (cA : Nat → ClassId) (base : Nat) (h : Zh) (H : Heap) : Prop := H.size = base + zN h ∧ (∀ i, zat D cA base h i H) ∧ ∀ (i : Nat) (cell : Cell), H[base + i]? = some cell → cell.slots.size = zsz h i
theorem zob_get {base : Nat} {h : Zh} {a c k : Nat} (hk : k < zNf c) : (zob base h a c)[k]? = some (zfv base h a (zty c k) k) := by
  simp [zob, hk]
theorem zob_V {base : Nat} {h : Zh} {a c k : Nat} (hk : k < zNf c) : vp_V (zob base h a c) k = zfv base h a (zty c k) k := by
  simp [vp_V, zob, hk]
theorem zob_len {base : Nat} {h : Zh} {a c : Nat} : (zob base h a c).length = zNf c := by simp [zob]
theorem zP1 {D : va_G} {q : Nat × va_E} {H : Heap} (h : va_at D zcl q H) : va_P D zcl [q] H := by
  intro k q' hk
  cases k with
  | zero => simp at hk; subst hk; exact h
  | succ k => simp at hk
/-- the cell's own places alone count -/
theorem zob_congr {base : Nat} {h h' : Zh} {a c : Nat} (e1 : zI h' a = zI h a) (e2 : zJ h' a = zJ h a) (e3 : zR h' a = zR h a) : zob base h' a c = zob base h a c := by
  unfold zob zfv
  simp only [e1, e2, e3]
theorem zac_congr {base : Nat} {h h' : Zh} {a t : Nat} (e1 : zI h' a = zI h a) (e2 : zJ h' a = zJ h a) (e3 : zR h' a = zR h a) : zac base h' a t = zac base h a t := by
  unfold zac
  simp only [e1, e2, e3]
theorem zat.congr {D : va_G} {cA : Nat → ClassId} {base : Nat} {h h' : Zh} {i : Nat} {H H' : Heap} (z : zat D cA base h i H) (hq : H'[base + i]? = H[base + i]?) (e0 : zK h' i = zK h i) (e4 : zL h' i = zL h i) (e1 : zI h' i = zI h i) (e2 : zJ h' i = zJ h i) (e3 : zR h' i = zR h i) : zat D cA base h' i H' := by
  refine ⟨fun hc => ?_, fun t ht hk => ?_⟩
  · rw [e0] at hc ⊢
    rw [zob_congr e1 e2 e3]
    exact (z.1 hc).kept hq
  · rw [e0] at hk
    rw [e4, zac_congr e1 e2 e3]
    exact (z.2 t ht hk).kept hq
/-- words that a method keeps, and words of nest mates -/
def zgd : List Cond := lw_tbl.filter goodWord
def zisN (w : Cond) : Bool := match w with
  | .fieldLinkNest _ _ _ _ _ _ => true
  | .methodLinkNest _ _ _ _ => true
  | _ => false
def znn : List Cond := lw_tbl.filter zisN
theorem zgd_in {w : Cond} (h : w ∈ lw_tbl) (g : goodWord w = true) : w ∈ zgd := List.mem_filter.mpr ⟨h, g⟩
theorem znn_in {w : Cond} (h : w ∈ lw_tbl) (g : zisN w = true) : w ∈ znn := List.mem_filter.mpr ⟨h, g⟩
theorem znn_moved {s U : State} (hW : s.WarmedH U.vm) (h : ∀ w ∈ znn, va_Nw w s) : ∀ w ∈ znn, va_Nw w U := by
  intro w hw
  have g := (List.mem_filter.mp hw).2
  have h1 := h w hw
  unfold zisN at g
  split at g
  · exact va_Nw.warmF hW h1
  · exact va_Nw.warmM hW h1
  · cases g
def ztys (cA : Nat → ClassId) : List (ClassId × FieldType) := [(cA 0, .int), (cA 1, .byte), (cA 2, .long), (cA 3, .boolean), (cA 4, .object RX2), (cA 5, .object RX1)]
def zA (base : Nat) : Nat → Prop := fun q => base ≤ q
theorem zW.upd {D : va_G} {cA : Nat → ClassId} {base a : Nat} {h h' : Zh} {H H1 : Heap} {c0 c1 : Cell} (hW : zW D cA base h H) (z : H1.size = H.size) (oq : ∀ q : Nat, q ≠ base + a → H1[q]? = H[q]?) (q0 : H[base + a]? = some c0) (q1 : H1[base + a]? = some c1) (qs : c1.slots.size = c0.slots.size) (eN : zN h' = zN h) (eK : zK h' = zK h) (eL : zL h' = zL h) (o : ∀ x, x ≠ a → zI h' x = zI h x ∧ zJ h' x = zJ h x ∧ zR h' x = zR h x) (ha : zat D cA base h' a H1) : zW D cA base h' H1 := by
  have esz : ∀ i, zsz h' i = zsz h i := fun i => by unfold zsz; rw [eK, eL]
  refine ⟨by rw [z, eN]; exact hW.1, fun i => ?_, fun i cell hc => ?_⟩
  · by_cases hi : i = a
    · subst hi
      exact ha
    · obtain ⟨o1, o2, o3⟩ := o i hi
      exact (hW.2.1 i).congr (oq _ (by omega)) (by rw [eK]) (by rw [eL]) o1 o2 o3
  · rw [esz]
    by_cases hi : i = a
    · subst hi
      have e := Option.some.inj (q1.symm.trans hc)
      rw [← e, qs]
      exact hW.2.2 i c0 q0
    · rw [oq _ (by omega)] at hc
      exact hW.2.2 i cell hc
theorem zss (c : Cell) (k : Nat) (v : Value) : (c.setSlot k v).slots.size = c.slots.size := by simp [Cell.setSlot]
def zint (ty : FieldType) : Bool := match ty with
  | .long => false
  | .object _ => false
  | .array _ => false
  | _ => true
def zref (ty : FieldType) : Bool := match ty with
  | .object _ => true
  | .array _ => true
  | _ => false
theorem zfv_int {base : Nat} {h : Zh} {a k : Nat} {ty : FieldType} (t : zint ty = true) : zfv base h a ty k = .int (zI h a k) := by
  cases ty <;> first | rfl | cases t
theorem zfv_ref {base : Nat} {h : Zh} {a k : Nat} {ty : FieldType} (t : zref ty = true) : zfv base h a ty k = zvr base (zR h a k) := by
  cases ty <;> first | rfl | cases t
theorem zob_sI {base : Nat} {h : Zh} {a k c : Nat} {v : Int32} (t : zint (zty c k) = true) : zob base (zsI h a k v) a c = (zob base h a c).set k (.int v) := by
  refine List.ext_getElem? fun j => ?_
  by_cases hj : j < zNf c
  · rw [zob_get hj, List.getElem?_set, zob_len]
    by_cases hk : k = j
    · subst hk
      rw [if_pos rfl, if_pos hj, zfv_int t]
      simp [zsI, zI, z2]
    · rw [if_neg hk, zob_get hj]
      unfold zfv
      split <;> simp [zsI, zI, zJ, zR, z2, Ne.symm hk]
  · rw [List.getElem?_eq_none (by rw [zob_len]; omega), List.getElem?_eq_none (by rw [List.length_set, zob_len]; omega)]
theorem zob_sR {base : Nat} {h : Zh} {a k c : Nat} {v : Option Nat} (t : zref (zty c k) = true) : zob base (zsR h a k v) a c = (zob base h a c).set k (zvr base v) := by
  refine List.ext_getElem? fun j => ?_
  by_cases hj : j < zNf c
  · rw [zob_get hj, List.getElem?_set, zob_len]
    by_cases hk : k = j
    · subst hk
      rw [if_pos rfl, if_pos hj, zfv_ref t]
      simp [zsR, zR, z2]
    · rw [if_neg hk, zob_get hj]
      unfold zfv
      split <;> simp [zsR, zI, zJ, zR, z2, Ne.symm hk]
  · rw [List.getElem?_eq_none (by rw [zob_len]; omega), List.getElem?_eq_none (by rw [List.length_set, zob_len]; omega)]
theorem zob_sJ {base : Nat} {h : Zh} {a k c : Nat} {v : Int64} (t : zty c k = .long) : zob base (zsJ h a k v) a c = (zob base h a c).set k (.long v) := by
  refine List.ext_getElem? fun j => ?_
  by_cases hj : j < zNf c
  · rw [zob_get hj, List.getElem?_set, zob_len]
    by_cases hk : k = j
    · subst hk
      rw [if_pos rfl, if_pos hj, t]
      simp [zfv, zsJ, zJ, z2]
    · rw [if_neg hk, zob_get hj]
      unfold zfv
      split <;> simp [zsJ, zI, zJ, zR, z2, Ne.symm hk]
  · rw [List.getElem?_eq_none (by rw [zob_len]; omega), List.getElem?_eq_none (by rw [List.length_set, zob_len]; omega)]
/-- what the tables say of an object's kind -/
def zF (ci : Nat) (C : String) (T : u_T) (N : Nat) : Prop := ci < 13 ∧ zcl[ci]? = some (C, T, N) ∧ zNf ci = N ∧ (∀ w ∈ u_ws C T N, w ∈ zgd) ∧ (∀ k, k < N → parseFieldDescriptor (T k).2.2.1 = some (zty ci k)) ∧ (∀ a, a < N → ∀ b, b < N → a ≠ b → (T a).2.1 ≠ (T b).2.1)
