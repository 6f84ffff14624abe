/-! rows for simp that decide a branch before they look into it -/
theorem ne_b {a b : Nat} (h : Nat.beq a b = false) : a ≠ b := Nat.ne_of_beq_eq_false h
theorem leT {a b : Int} (h : -2147483648 ≤ a ∧ b < 2147483648 ∧ a ≤ b) : (iI a ≤ iI b) = True := eq_true ((iI_le ⟨h.1, by omega⟩ ⟨by omega, h.2.1⟩).mpr h.2.2)
theorem leF {a b : Int} (h : -2147483648 ≤ b ∧ a < 2147483648 ∧ b < a) : (iI a ≤ iI b) = False := eq_false (fun q => by have := (iI_le ⟨by omega, h.2.1⟩ ⟨h.1, by omega⟩).mp q; omega)
theorem ltT {a b : Int} (h : -2147483648 ≤ a ∧ b < 2147483648 ∧ a < b) : (iI a < iI b) = True := eq_true ((iI_lt ⟨h.1, by omega⟩ ⟨by omega, h.2.1⟩).mpr h.2.2)
theorem ltF {a b : Int} (h : -2147483648 ≤ b ∧ a < 2147483648 ∧ b ≤ a) : (iI a < iI b) = False := eq_false (fun q => by have := (iI_lt ⟨by omega, h.2.1⟩ ⟨h.1, by omega⟩).mp q; omega)
theorem eqT {a b : Int} (h : a = b) : (iI a = iI b) = True := eq_true (by rw [h])
theorem eqF {a b : Int} (h : -2147483648 ≤ a ∧ a < 2147483648 ∧ -2147483648 ≤ b ∧ b < 2147483648 ∧ ¬ a = b) : (iI a = iI b) = False := eq_false (fun q => h.2.2.2.2 ((iI_eq ⟨h.1, h.2.1⟩ ⟨h.2.2.1, h.2.2.2.1⟩).mp q))
theorem zinT {a : Int} {n : Nat} (h : 0 ≤ a ∧ a < 2147483648 ∧ a < (n : Int)) : zin (iI a) n = True := eq_true ((si_zin (by omega) h.2.1).mpr ⟨h.1, h.2.2⟩)
theorem clN {a : Nat} (h : a < 2147483648) : (iI (a : Int)).toNatClampNeg = a := iI_clampN h
theorem clL (a : Nat) (h : a < 2147483648) : (iI (OfNat.ofNat a)).toNatClampNeg = a := iI_clampN h
theorem bdR_sI {β : Type} (h : Zh) (a k : Nat) (v : Int32) (b j : Nat) (f : Nat → Option β) : (zR (zsI h a k v) b j).bind f = (zR h b j).bind f := rfl
theorem bdR_sJ {β : Type} (h : Zh) (a k : Nat) (v : Int64) (b j : Nat) (f : Nat → Option β) : (zR (zsJ h a k v) b j).bind f = (zR h b j).bind f := rfl
theorem bdR_aI {β : Type} (h : Zh) (a : Nat) (g : Nat → Int32) (b j : Nat) (f : Nat → Option β) : (zR (zaI h a g) b j).bind f = (zR h b j).bind f := rfl
theorem bd_of {α β : Type} {o : Option α} {r : α} (e : o = some r) (f : α → Option β) : o.bind f = f r := by rw [e]; rfl
theorem zc_of {α β : Type} {o : Option (α × Zh)} {r : α} {k : Zh} (e : o = some (r, k)) (f : α → Zh → Option β) : zc2 o f = f r k := by rw [e]; rfl
theorem clI {a : Int} (h : 0 ≤ a ∧ a < 2147483648) : (iI a).toNatClampNeg = a.toNat := iI_clamp ⟨by omega, h.2⟩
theorem tN1 (a : Nat) : ((a : Int) + 1).toNat = a + 1 := by omega
theorem tNa (a b : Nat) : ((a : Int) + (b : Int)).toNat = a + b := by omega
theorem tN0 (a : Nat) : (OfNat.ofNat a : Int).toNat = a := rfl
theorem tNm (a b : Nat) : ((a : Int) - (b : Int)).toNat = a - b := by omega
theorem bIt : bI true = 1 := rfl
theorem bIf : bI false = 0 := rfl
