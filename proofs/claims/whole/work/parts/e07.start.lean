/-! the start: what holds -/
theorem start_inv : ∃ h1 h2, fX10_init 0 (znw zh0 10 0 12) = some h1 ∧ zN h1 = 76 ∧ fX12_init 76 (znw h1 12 0 46) = some h2 ∧ zN h2 = 100 ∧ Inv (znw h2 102 1 1) 0 := by
  have n := hS0_n
  have ca := hS0_a
  have cb := hS0_b
  unfold hS0 at ca cb
  cases e1 : fX10_init 0 (znw zh0 10 0 12) with
  | none => rw [e1] at n; exact absurd n.1 (by simp)
  | some h1 =>
    rw [e1] at n ca cb
    have n1 : zN h1 = 76 := by simpa using n.1
    have n2 := n.2
    rw [Option.bind_some, n1] at n2
    rw [Option.bind_some, n1] at ca cb
    cases e2 : fX12_init 76 (znw h1 12 0 46) with
    | none => rw [e2] at n2; exact absurd n2 (by simp)
    | some h2 =>
      rw [e2] at n2 ca cb
      have n2' : zN h2 = 100 := by simpa using n2
      have ca' : chA (znw h2 102 1 1) = true := by simpa using ca
      have cb' : chB (znw h2 102 1 1) = true := by simpa using cb
      refine ⟨h1, h2, rfl, n1, e2, n2', ?_⟩
      have z0 : ZA (znw zh0 10 0 12) := fun i j hk => by
        by_cases c : i = zN zh0
        · rw [zI_nw, c, z1_self]
        · rw [zI_nw, z1_ne _ _ c]; rfl
      have z1 := za_X10 e1 z0
      have zw : ∀ {h : Zh} {kd len sl : Nat}, ZA h → ZA (znw h kd len sl) := fun {h kd len sl} q => by
        obtain ⟨h2, q2, e⟩ := zaN (f := fun x => some x) (y := znw h kd len sl) (by rw [zlet_eq]) q
        injection e with e
        rw [← e]; exact q2
      have z3 : ZA (znw h2 102 1 1) := zw (za_X12 e2 (zw z1))
      generalize znw h2 102 1 1 = h at *
      unfold chA at ca'
      rw [Bool.and_eq_true, List.all_eq_true, List.all_eq_true] at ca'
      obtain ⟨c1, c2⟩ := ca'
      unfold chB at cb'
      simp only [Bool.and_eq_true, decide_eq_true_iff, List.all_eq_true] at cb'
      obtain ⟨⟨⟨⟨⟨⟨⟨⟨⟨d1, d2⟩, d3⟩, d4⟩, d5⟩, d6⟩, d7⟩, d8⟩, d9⟩, d10⟩ := cb'
      have hI : ∀ a k v, (a, k, v) ∈ chI → zI h a k = v := fun a k v m => d1 (a, k, v) m
      have st : St h := by
        refine ⟨by omega, fun i hi => ?_, fun i hi => ?_, fun q hq => ?_⟩
        · have := c1 i (List.mem_range.mpr hi)
          simp only [Bool.and_eq_true, decide_eq_true_iff] at this
          exact this.1
        · have := c1 i (List.mem_range.mpr hi)
          simp only [Bool.and_eq_true, decide_eq_true_iff] at this
          exact this.2
        · have := c2 q hq
          simpa using this
      have pb := ptb
      refine ⟨mkV 0 (fun _ => 0) 0 (zI h 0 10).toInt false 13 (0, 0, 0, 0, false, false, false) 0 (fun _ => 0) 0 (fun _ => 0) (fun _ => 0) 0 0 (fun _ => 0) (fun _ => 0) (fun _ _ => 0) (fun _ _ => 0), 0, 0, 0, ?_, ?_, ?_, ?_⟩
      · exact ⟨⟨Nat.zero_le _, fun j hj => absurd hj (Nat.not_lt_zero _)⟩, Or.inl rfl, Nat.zero_le _, Nat.zero_le _, Nat.zero_le _, fun _ => ⟨rfl, rfl, rfl⟩, fun z => (by cases z)⟩
      · refine ⟨st, hI 0 1 0 (by decide), fun j hj => absurd hj (Nat.not_lt_zero _), hI 0 9 0 (by decide), ?_, d2, d3, hI 0 7 0 (by decide), ⟨hI 16 2 0 (by decide), hI 16 3 0 (by decide), fun e he => absurd he (Nat.not_lt_zero _)⟩, fun k hk => absurd hk (Nat.not_lt_zero _), by omega, by omega, fun i hi => ?_, 48, 49, 0, 0, by decide, Nat.zero_le _, Nat.zero_le _, by omega, ?_, ⟨d4, d5, sK48 st, sK49 st, by rw [d8]; decide, by rw [d9]; decide, by decide, Or.inl rfl, Or.inl rfl, by omega, by omega, hI 42 14 0 (by decide), fun _ => 0, fun y hy => ⟨z3 52 y (by rw [sK52 st]; decide), Nat.le_refl _⟩⟩, ⟨by decide, hI 38 3 0 (by decide), fun _ => 0, fun p hp => ⟨z3 41 p (by rw [sK41 st]; decide), Nat.le_refl _⟩⟩, fun _ => ⟨hI 13 0 0 (by decide), hI 13 3 0 (by decide), fun j hj => ?_⟩, fun z => (by cases z)⟩
        · exact (toI (zI h 0 10)).symm
        · have : i = 0 ∨ i = 1 ∨ i = 2 ∨ i = 3 := by omega
          rcases this with rfl | rfl | rfl | rfl
          · exact hI 54 0 0 (by decide)
          · exact hI 56 0 1 (by decide)
          · exact hI 58 0 2 (by decide)
          · exact hI 60 0 3 (by decide)
        · unfold Pot
          rw [d8, d9]
          omega
        · have : j = 0 ∨ j = 1 ∨ j = 2 ∨ j = 3 ∨ j = 4 ∨ j = 5 ∨ j = 6 ∨ j = 7 ∨ j = 8 ∨ j = 9 ∨ j = 10 := by omega
          rcases this with rfl | rfl | rfl | rfl | rfl | rfl | rfl | rfl | rfl | rfl | rfl <;> exact hI 14 _ 0 (by decide)
      · exact ⟨st, hI 76 6 0 (by decide), fun j hj => absurd hj (Nat.not_lt_zero _), hI 76 13 0 (by decide), fun _ => d6, fun z => (by cases z)⟩
      · exact ⟨hI 0 8 0 (by decide), hI 76 1 0 (by decide), hI 76 2 (-1) (by decide)⟩
