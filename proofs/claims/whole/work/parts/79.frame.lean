/-! frames over a heap that may grow -/
def Fc (A : Nat → Prop) (h h' : Zh) : Prop := zN h ≤ zN h' ∧ (∀ i, i < zN h → zK h' i = zK h i ∧ zL h' i = zL h i) ∧ ∀ i, i < zN h → ¬ A i → zI h' i = zI h i ∧ zJ h' i = zJ h i ∧ zR h' i = zR h i
theorem Fc.rf {A : Nat → Prop} {h : Zh} : Fc A h h := ⟨Nat.le_refl _, fun _ _ => ⟨rfl, rfl⟩, fun _ _ _ => ⟨rfl, rfl, rfl⟩⟩
theorem Fc.tr {A B : Nat → Prop} {a b c : Zh} (p : Fc A a b) (q : Fc B b c) (hs : ∀ i, i < zN a → B i → A i) : Fc A a c := ⟨Nat.le_trans p.1 q.1, fun i hi => by
  have h1 := p.2.1 i hi
  have h2 := q.2.1 i (by have := p.1; omega)
  exact ⟨h2.1.trans h1.1, h2.2.trans h1.2⟩, fun i hi ha => by
  have h1 := p.2.2 i hi ha
  have h2 := q.2.2 i (by have := p.1; omega) (fun hb => ha (hs i hi hb))
  exact ⟨h2.1.trans h1.1, h2.2.1.trans h1.2.1, h2.2.2.trans h1.2.2⟩⟩
theorem Fc.mono {A B : Nat → Prop} {a b : Zh} (p : Fc A a b) (hs : ∀ i, i < zN a → A i → B i) : Fc B a b := ⟨p.1, p.2.1, fun i hi ha => p.2.2 i hi (fun q => ha (hs i hi q))⟩
theorem Fm.N {S : List Nat} {a b : Zh} (p : Fm S a b) : zN b = zN a := by unfold zN; rw [p.1]
theorem Fm.S {S : List Nat} {a b : Zh} (p : Fm S a b) : zS b = zS a := by unfold zS; rw [p.1]
theorem Fm.c {S : List Nat} {a b : Zh} (p : Fm S a b) : Fc (fun i => i ∈ S) a b := ⟨by rw [p.N]; exact Nat.le_refl _, fun i _ => by rw [p.K, p.L]; exact ⟨rfl, rfl⟩, fun i _ ha => by rw [p.I ha, p.J, p.R]; exact ⟨rfl, rfl, rfl⟩⟩
theorem Fc.I {A : Nat → Prop} {h h' : Zh} (p : Fc A h h') {i : Nat} (hi : i < zN h) (ha : ¬ A i) : zI h' i = zI h i := (p.2.2 i hi ha).1
theorem Fc.J {A : Nat → Prop} {h h' : Zh} (p : Fc A h h') {i : Nat} (hi : i < zN h) (ha : ¬ A i) : zJ h' i = zJ h i := (p.2.2 i hi ha).2.1
theorem Fc.R {A : Nat → Prop} {h h' : Zh} (p : Fc A h h') {i : Nat} (hi : i < zN h) (ha : ¬ A i) : zR h' i = zR h i := (p.2.2 i hi ha).2.2
theorem Fc.K {A : Nat → Prop} {h h' : Zh} (p : Fc A h h') {i : Nat} (hi : i < zN h) : zK h' i = zK h i := (p.2.1 i hi).1
theorem Fc.L {A : Nat → Prop} {h h' : Zh} (p : Fc A h h') {i : Nat} (hi : i < zN h) : zL h' i = zL h i := (p.2.1 i hi).2
theorem Tr.fc {A : Nat → Prop} {h h' : Zh} {tr : Nat} {t : Tk} (q : Tr h tr t) (f : Fc A h h') (hi : tr < zN h) (ha : ¬ A tr) : Tr h' tr t := by
  unfold Tr
  rw [f.K hi, f.I hi ha]
  exact q
theorem Dk.fc {A : Nat → Prop} {h h' : Zh} {d : Nat} {t : Tk} (q : Dk h d t) (f : Fc A h h') (hi : d < zN h) (ha : ¬ A d) : Dk h' d t := by
  unfold Dk
  rw [f.K hi, f.I hi ha]
  exact q
theorem Cd.fc {A : Nat → Prop} {h h' : Zh} {t : Tk} (c : Cd h t) (f : Fc A h h') (hi : 101 ≤ zN h) (h1 : ¬ A 76) (h2 : ¬ A 78) : Cd h' t := by
  unfold Cd
  rw [f.I (by omega) h1, f.I (by omega) h2]
  exact c
/-! rows laid: what is known of them -/
noncomputable def fwi (ρ : Nat → Int) (i : Nat) (r : Int) : Nat := zfst (fun j => decide (ρ j = r)) i
noncomputable def fsw (ρ : Nat → Int) (i : Nat) (r : Nat) : Option Int := if fwi ρ i r < i then some (fwi ρ i r : Nat) else none
def dup (ρ : Nat → Int) (x : Nat) : Bool := decide (0 ≤ ρ x) && decide (zfst (fun j => decide (ρ j = ρ x)) x < x)
def fcl (ρ : Nat → Int) : Nat → Nat
  | 0 => 0
  | i + 1 => fcl ρ i + (if ρ i < 0 then 1 else 0)
def ucl (ρ : Nat → Int) : Nat → Nat
  | 0 => 0
  | i + 1 => ucl ρ i + (if 0 ≤ ρ i ∧ dup ρ i = false then 1 else 0)
def chd (ρ : Nat → Int) (i : Nat) : Int := if zfst (dup ρ) i < i then (zfst (dup ρ) i : Nat) else -2
def cah (ρ : Nat → Int) (i : Nat) : Int := if zfst (dup ρ) i < i then (zfst (fun j => decide (ρ j = ρ (zfst (dup ρ) i))) (zfst (dup ρ) i) : Nat) else -2
theorem zfst_ext {P : Nat → Bool} {n : Nat} : zfst P (n + 1) = if zfst P n < n then zfst P n else if P n then n else n + 1 := rfl
theorem fcl_le (ρ : Nat → Int) : ∀ i, fcl ρ i ≤ i
  | 0 => Nat.le_refl _
  | i + 1 => by
    have := fcl_le ρ i
    rw [fcl]; split <;> omega
theorem ucl_le (ρ : Nat → Int) : ∀ i, ucl ρ i ≤ i
  | 0 => Nat.le_refl _
  | i + 1 => by
    have := ucl_le ρ i
    rw [ucl]; split <;> omega
theorem fsw_ext {ρ : Nat → Int} {i r : Nat} : fsw ρ (i + 1) r = if (fsw ρ i r).isSome = true then fsw ρ i r else if ρ i = (r : Int) then some (i : Int) else none := by
  unfold fsw fwi
  have hr := zfst_le (fun j => decide (ρ j = (r : Int))) i
  rw [zfst_ext]
  by_cases c2 : zfst (fun j => decide (ρ j = (r : Int))) i < i
  · rw [if_pos c2, if_pos c2, Option.isSome_some, if_pos rfl, if_pos (by omega)]
  · rw [if_neg c2, if_neg c2, Option.isSome_none, if_neg (show ¬ (false = true) by decide)]
    by_cases c3 : ρ i = (r : Int)
    · rw [decide_eq_true c3, if_pos c3, if_pos rfl, if_pos (by omega)]
    · rw [decide_eq_false c3, if_neg c3, if_neg (show ¬ (false = true) by decide), if_neg (by omega)]
theorem fsw_s {ρ : Nat → Int} {i : Nat} (h0 : 0 ≤ ρ i) : (if (fsw ρ i (ρ i).toNat).isSome = true then fsw ρ i else updO (fsw ρ i) (ρ i).toNat i) = fsw ρ (i + 1) := by
  have ht : ((ρ i).toNat : Int) = ρ i := Int.toNat_of_nonneg h0
  funext r
  rw [fsw_ext]
  by_cases c : ρ i = (r : Int)
  · have e : (ρ i).toNat = r := by omega
    rw [e, if_pos c]
    cases hq : (fsw ρ i r).isSome
    · rw [if_neg (show ¬ (false = true) by decide), if_neg (show ¬ (false = true) by decide)]
      unfold updO
      rw [if_pos rfl]
    · rw [if_pos rfl, if_pos rfl]
  · rw [if_neg c]
    have e : r ≠ (ρ i).toNat := by omega
    have hx : (if (fsw ρ i r).isSome = true then fsw ρ i r else none) = fsw ρ i r := by
      cases fsw ρ i r <;> rfl
    rw [hx]
    split
    · rfl
    · unfold updO
      rw [if_neg e]
theorem fsw_0 (ρ : Nat → Int) : fsw ρ 0 = fun _ => none := by
  funext r
  unfold fsw
  rw [if_neg (by omega)]
theorem fsw_neg {ρ : Nat → Int} {i : Nat} (h0 : ρ i < 0) : fsw ρ (i + 1) = fsw ρ i := by
  funext r
  rw [fsw_ext, if_neg (show ¬ ρ i = (r : Int) by omega)]
  cases fsw ρ i r <;> rfl
/-! the heap's class cells: told, hands -/
def HdC (h : Zh) (t : Tk) : Prop := ∀ x, x < tH t → zI h 26 x = iI (pk t x)
theorem HdC.fc {A : Nat → Prop} {h h' : Zh} {t : Tk} (c : HdC h t) (f : Fc A h h') (hi : 101 ≤ zN h) (h1 : ¬ A 26) : HdC h' t := by
  unfold HdC
  rw [f.I (by omega) h1]
  exact c
