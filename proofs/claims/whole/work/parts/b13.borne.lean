/-! rows by which a change is seen, or borne: what both walks keep -/
theorem fsw_some {ρ : Nat → Int} {H r : Nat} : (fsw ρ H r).isSome = true ↔ ∃ y, y < H ∧ ρ y = (r : Int) := by
  unfold fsw fwi
  have hle := zfst_le (fun j => decide (ρ j = (r : Int))) H
  by_cases c : zfst (fun j => decide (ρ j = (r : Int))) H < H
  · rw [if_pos c]
    exact ⟨fun _ => ⟨_, c, of_decide_eq_true (zfst_at (P := fun j => decide (ρ j = (r : Int))) c)⟩, fun _ => rfl⟩
  · rw [if_neg c]
    refine ⟨fun q => (by cases q), fun ⟨y, hy, e⟩ => ?_⟩
    have := zfst_before (P := fun j => decide (ρ j = (r : Int))) (n := H) (i := y) (by omega)
    exact absurd e (of_decide_eq_false this)
theorem fsw_b {ρ : Nat → Int} {H r : Nat} {v : Int} (h : fsw ρ H r = some v) : 0 ≤ v ∧ v < H := by
  unfold fsw at h
  by_cases c : fwi ρ H r < H
  · rw [if_pos c] at h
    have := Option.some.inj h
    omega
  · rw [if_neg c] at h; cases h
def pcd (t : Tk) (ρ : Nat → Int) (x i y j : Nat) : Prop := j + 1 < tsh t ∧ 0 ≤ ρ y ∧ (y < x ∨ (y = x ∧ j < i))
/-- the class's set -/
def BI (t : Tk) (ρ : Nat → Int) (f : Nat → Option Int) (x i : Nat) : Prop := (∀ r, (f r).isSome = true ↔ (∃ y, y < tH t ∧ ρ y = (r : Int)) ∨ ∃ y j, pcd t ρ x i y j ∧ swR t (ρ y).toNat j = r) ∧ (∀ r : Nat, (∃ y, y < tH t ∧ ρ y = (r : Int)) → f r = fsw ρ (tH t) r) ∧ (∀ r v, f r = some v → 0 ≤ v ∧ v < 2147483648) ∧ ∀ y j y' j', pcd t ρ x i y j → pcd t ρ x i y' j' → swR t (ρ y).toNat j = swR t (ρ y').toNat j' → ρ y = ρ y'
theorem BI.init {t : Tk} {ρ : Nat → Int} (hH : tH t ≤ 2000) : BI t ρ (fsw ρ (tH t)) 0 0 := by
  refine ⟨fun r => ⟨fun q => Or.inl (fsw_some.mp q), fun q => ?_⟩, fun r _ => rfl, fun r v h => by have := fsw_b h; omega, fun y j y' j' h1 => by obtain ⟨_, _, q⟩ := h1; omega⟩
  rcases q with q | ⟨y, j, ⟨_, _, q⟩, _⟩
  · exact fsw_some.mpr q
  · omega
theorem BI.step {t : Tk} {ρ : Nat → Int} {f : Nat → Option Int} {x i : Nat} (b : BI t ρ f x i) (hi : i + 1 < tsh t) (hx : 0 ≤ ρ x) (hx2 : x < 2147483648) (hn : f (swR t (ρ x).toNat i) = none) : BI t ρ (updO f (swR t (ρ x).toNat i) x) x (i + 1) := by
  obtain ⟨b1, b2, b3, b4⟩ := b
  have pc : ∀ y j, pcd t ρ x (i + 1) y j ↔ pcd t ρ x i y j ∨ (y = x ∧ j = i) := by
    intro y j
    unfold pcd
    constructor
    · rintro ⟨h1, h2, h3⟩
      by_cases c : y = x ∧ j = i
      · exact Or.inr c
      · exact Or.inl ⟨h1, h2, by omega⟩
    · rintro (⟨h1, h2, h3⟩ | ⟨h1, h2⟩)
      · exact ⟨h1, h2, by omega⟩
      · rw [h1, h2]; exact ⟨hi, hx, by omega⟩
  have old : ∀ y j, pcd t ρ x i y j → swR t (ρ y).toNat j ≠ swR t (ρ x).toNat i := fun y j h q => by
    have := (b1 (swR t (ρ x).toNat i)).mpr (Or.inr ⟨y, j, h, q⟩)
    rw [hn] at this
    cases this
  refine ⟨fun r => ?_, fun r hr => ?_, fun r v h => ?_, fun y j y' j' h1 h2 e => ?_⟩
  · unfold updO
    by_cases c : r = swR t (ρ x).toNat i
    · rw [if_pos c]
      exact ⟨fun _ => Or.inr ⟨x, i, (pc x i).mpr (Or.inr ⟨rfl, rfl⟩), c.symm⟩, fun _ => rfl⟩
    · rw [if_neg c, b1 r]
      constructor
      · rintro (h | ⟨y, j, h1, h2⟩)
        · exact Or.inl h
        · exact Or.inr ⟨y, j, (pc y j).mpr (Or.inl h1), h2⟩
      · rintro (h | ⟨y, j, h1, h2⟩)
        · exact Or.inl h
        · rcases (pc y j).mp h1 with q | ⟨q1, q2⟩
          · exact Or.inr ⟨y, j, q, h2⟩
          · rw [q1, q2] at h2; exact absurd h2.symm c
  · unfold updO
    by_cases c : r = swR t (ρ x).toNat i
    · have := (b1 r).mpr (Or.inl hr)
      rw [c, hn] at this
      cases this
    · rw [if_neg c]; exact b2 r hr
  · unfold updO at h
    by_cases c : r = swR t (ρ x).toNat i
    · rw [if_pos c] at h
      have := Option.some.inj h
      omega
    · rw [if_neg c] at h; exact b3 r v h
  · rcases (pc y j).mp h1 with q | ⟨q1, q2⟩
    · rcases (pc y' j').mp h2 with q' | ⟨q1', q2'⟩
      · exact b4 y j y' j' q q' e
      · rw [q1', q2'] at e; exact absurd e (old y j q)
    · rcases (pc y' j').mp h2 with q' | ⟨q1', q2'⟩
      · rw [q1, q2] at e; exact absurd e.symm (old y' j' q')
      · rw [q1, q1']
theorem BI.bad {t : Tk} (tok : Tok t) {ρ : Nat → Int} {f : Nat → Option Int} {x i : Nat} (b : BI t ρ f x i) (hi : i + 1 < tsh t) (hx : 0 ≤ ρ x) (hxH : x < tH t) (hfst : ∀ y, y < x → ρ y ≠ ρ x) (hn : (f (swR t (ρ x).toNat i)).isSome = true) : ¬ (snP t ρ ∧ boP t ρ) := by
  rintro ⟨h1, h2⟩
  rcases (b.1 _).mp hn with ⟨y, hy, e⟩ | ⟨y, j, ⟨p1, p2, p3⟩, e⟩
  · exact h1 x hxH hx i hi y hy e
  · have hyH : y < tH t := by omega
    have e2 := h2 y x hyH hxH p2 hx j i p1 hi e
    rcases p3 with p3 | ⟨p3, p4⟩
    · exact hfst y p3 e2
    · rw [p3] at e
      exact swR_ne tok p4 hi e
theorem BI.next {t : Tk} {ρ : Nat → Int} {f : Nat → Option Int} {x : Nat} (b : BI t ρ f x (tsh t - 1)) : BI t ρ f (x + 1) 0 := by
  have pc : ∀ y j, pcd t ρ (x + 1) 0 y j ↔ pcd t ρ x (tsh t - 1) y j := by
    intro y j
    unfold pcd
    constructor
    · rintro ⟨h1, h2, h3⟩; exact ⟨h1, h2, by omega⟩
    · rintro ⟨h1, h2, h3⟩; exact ⟨h1, h2, by omega⟩
  obtain ⟨b1, b2, b3, b4⟩ := b
  refine ⟨fun r => ?_, b2, b3, fun y j y' j' h1 h2 => b4 y j y' j' ((pc _ _).mp h1) ((pc _ _).mp h2)⟩
  rw [b1 r]
  constructor
  · rintro (h | ⟨y, j, h1, h2⟩)
    · exact Or.inl h
    · exact Or.inr ⟨y, j, (pc y j).mpr h1, h2⟩
  · rintro (h | ⟨y, j, h1, h2⟩)
    · exact Or.inl h
    · exact Or.inr ⟨y, j, (pc y j).mp h1, h2⟩
/-- a hand whose row was ahead, or that has none -/
theorem BI.skip {t : Tk} {ρ : Nat → Int} {f : Nat → Option Int} {x : Nat} (b : BI t ρ f x 0) (h : ρ x < 0 ∨ ∃ y, y < x ∧ ρ y = ρ x) : BI t ρ f (x + 1) 0 := by
  have pc : ∀ y j, pcd t ρ (x + 1) 0 y j → ∃ y', pcd t ρ x 0 y' j ∧ ρ y' = ρ y := by
    rintro y j ⟨h1, h2, h3⟩
    by_cases c : y = x
    · rcases h with h | ⟨y', q1, q2⟩
      · rw [c] at h2; omega
      · exact ⟨y', ⟨h1, by rw [q2, ← c]; exact h2, Or.inl q1⟩, by rw [q2, c]⟩
    · exact ⟨y, ⟨h1, h2, by omega⟩, rfl⟩
  have pc2 : ∀ y j, pcd t ρ x 0 y j → pcd t ρ (x + 1) 0 y j := by
    rintro y j ⟨h1, h2, h3⟩
    exact ⟨h1, h2, by omega⟩
  obtain ⟨b1, b2, b3, b4⟩ := b
  refine ⟨fun r => ?_, b2, b3, fun y j y' j' h1 h2 e => ?_⟩
  · rw [b1 r]
    constructor
    · rintro (h | ⟨y, j, h1, h2⟩)
      · exact Or.inl h
      · exact Or.inr ⟨y, j, pc2 y j h1, h2⟩
    · rintro (h | ⟨y, j, h1, h2⟩)
      · exact Or.inl h
      · obtain ⟨y', q1, q2⟩ := pc y j h1
        exact Or.inr ⟨y', j, q1, by rw [q2]; exact h2⟩
  · obtain ⟨z, q1, q2⟩ := pc y j h1
    obtain ⟨z', q1', q2'⟩ := pc y' j' h2
    rw [← q2, ← q2'] at e ⊢
    exact b4 z j z' j' q1 q1' e
theorem BI.done {t : Tk} {ρ : Nat → Int} {f : Nat → Option Int} (b : BI t ρ f (tH t) 0) : boP t ρ := fun x y hx hy h1 h2 i j hi hj e => b.2.2.2 x i y j ⟨hi, h1, Or.inl hx⟩ ⟨hj, h2, Or.inl hy⟩ e
/-- the model's owners -/
def MBI (t : Tk) (ρ : Nat → Int) (f : Nat → Option Int) (x i : Nat) : Prop := (∀ r, (f r).isSome = true → (∃ y, y < tH t ∧ ρ y = (r : Int)) ∨ ∃ y j, pcd t ρ x i y j ∧ swR t (ρ y).toNat j = r) ∧ (∀ y j, pcd t ρ x i y j → f (swR t (ρ y).toNat j) = some (ρ y)) ∧ ∀ r v, f r = some v → 0 ≤ v ∧ v < 2147483648
theorem MBI.step {t : Tk} {ρ : Nat → Int} {f : Nat → Option Int} {x i : Nat} (b : MBI t ρ f x i) (hi : i + 1 < tsh t) (hx : 0 ≤ ρ x) (hx2 : ρ x < 2147483648) (hn : f (swR t (ρ x).toNat i) = none ∨ f (swR t (ρ x).toNat i) = some (ρ x)) : MBI t ρ (updO f (swR t (ρ x).toNat i) (ρ x)) x (i + 1) := by
  obtain ⟨b1, b2, b3⟩ := b
  have pc : ∀ y j, pcd t ρ x (i + 1) y j ↔ pcd t ρ x i y j ∨ (y = x ∧ j = i) := by
    intro y j
    unfold pcd
    constructor
    · rintro ⟨h1, h2, h3⟩
      by_cases c : y = x ∧ j = i
      · exact Or.inr c
      · exact Or.inl ⟨h1, h2, by omega⟩
    · rintro (⟨h1, h2, h3⟩ | ⟨h1, h2⟩)
      · exact ⟨h1, h2, by omega⟩
      · rw [h1, h2]; exact ⟨hi, hx, by omega⟩
  refine ⟨fun r h => ?_, fun y j h => ?_, fun r v h => ?_⟩
  · unfold updO at h
    by_cases c : r = swR t (ρ x).toNat i
    · exact Or.inr ⟨x, i, (pc x i).mpr (Or.inr ⟨rfl, rfl⟩), c.symm⟩
    · rw [if_neg c] at h
      rcases b1 r h with q | ⟨y, j, q1, q2⟩
      · exact Or.inl q
      · exact Or.inr ⟨y, j, (pc y j).mpr (Or.inl q1), q2⟩
  · unfold updO
    rcases (pc y j).mp h with q | ⟨q1, q2⟩
    · have e := b2 y j q
      by_cases c : swR t (ρ y).toNat j = swR t (ρ x).toNat i
      · rw [if_pos c]
        rw [c] at e
        rcases hn with hn | hn
        · rw [hn] at e; cases e
        · rw [hn] at e; exact e
      · rw [if_neg c]; exact e
    · rw [q1, q2, if_pos rfl]
  · unfold updO at h
    by_cases c : r = swR t (ρ x).toNat i
    · rw [if_pos c] at h
      have := Option.some.inj h
      omega
    · rw [if_neg c] at h; exact b3 r v h
theorem MBI.bad {t : Tk} {ρ : Nat → Int} {f : Nat → Option Int} {x i : Nat} {v : Int} (b : MBI t ρ f x i) (hi : i + 1 < tsh t) (hx : 0 ≤ ρ x) (hxH : x < tH t) (hn : f (swR t (ρ x).toNat i) = some v) (hv : v ≠ ρ x) : ¬ (snP t ρ ∧ boP t ρ) := by
  rintro ⟨h1, h2⟩
  rcases b.1 _ (by rw [hn]; rfl) with ⟨y, hy, e⟩ | ⟨y, j, p, e⟩
  · exact h1 x hxH hx i hi y hy e
  · have e2 := b.2.1 y j p
    rw [e, hn] at e2
    have e3 : v = ρ y := Option.some.inj e2
    obtain ⟨p1, p2, p3⟩ := p
    exact hv (by rw [e3]; exact h2 y x (by omega) hxH p2 hx j i p1 hi e)
theorem MBI.next {t : Tk} {ρ : Nat → Int} {f : Nat → Option Int} {x i : Nat} (b : MBI t ρ f x i) (h : ρ x < 0 ∨ tsh t ≤ i + 1) (hi : i + 1 ≤ tsh t ∨ i = 0) : MBI t ρ f (x + 1) 0 := by
  have pc : ∀ y j, pcd t ρ (x + 1) 0 y j ↔ pcd t ρ x i y j := by
    intro y j
    unfold pcd
    constructor
    · rintro ⟨h1, h2, h3⟩
      refine ⟨h1, h2, ?_⟩
      by_cases c : y = x
      · rw [c] at h2; omega
      · omega
    · rintro ⟨h1, h2, h3⟩; exact ⟨h1, h2, by omega⟩
  obtain ⟨b1, b2, b3⟩ := b
  refine ⟨fun r h => ?_, fun y j h => b2 y j ((pc y j).mp h), b3⟩
  rcases b1 r h with q | ⟨y, j, q1, q2⟩
  · exact Or.inl q
  · exact Or.inr ⟨y, j, (pc y j).mpr q1, q2⟩
theorem MBI.done {t : Tk} {ρ : Nat → Int} {f : Nat → Option Int} (b : MBI t ρ f (tH t) 0) : boP t ρ := fun x y hx hy h1 h2 i j hi hj e => by
  have e1 := b.2.1 x i ⟨hi, h1, Or.inl hx⟩
  have e2 := b.2.1 y j ⟨hj, h2, Or.inl hy⟩
  rw [e, e2] at e1
  exact (Option.some.inj e1).symm
