/-! the law: its start -/
theorem zW_0 (D : va_G) (cA : Nat → ClassId) (H : Heap) : zW D cA H.size zh0 H := by
  refine ⟨rfl, fun i => ⟨fun h => absurd h (show ¬ (999 : Nat) < 13 by decide), fun t ht h => ?_⟩, fun i cell h => ?_⟩
  · have : (999 : Nat) = 100 + t := h
    omega
  · have := (Array.getElem?_eq_some_iff.mp h).1
    omega
theorem ws0 {p : Program} {e : Env} {s : State} {m : MethodId} {below : List Frame} {meth : Method} {c : Code} (l : Launch) {b L : Nat} {xs : Nat → Int32} (hL : L ≤ 3072) (C0 : lw_At p s m meth c b L xs) (hled : ∀ (D : va_G) (cA : Nat → ClassId) (sA : Nat → Nat), zX p s m #[Value.ref b] meth c cL_law RL 7 D cA s.heap.size sA → zRm room_1 s D cA s.heap.size zh0 → ∀ (i : Int32) (h : Zh) (u : Nat), Inv h u → u ≤ 59000 → (∀ k : Int32, k = 1 ∨ k = 2 ∨ k = 3 ∨ k = 4 ∨ k = 5 → zin (i + k) L) → (∀ h2, Inv h2 (u + 100) → zGA p l e room_1 s m #[Value.ref b] below meth c (lw_Z below #[Value.ref b] s) 7 D cA s.heap.size zh0 1565 (lwLO s.heap.size b i) [] h2) → zGA p l e room_1 s m #[Value.ref b] below meth c (lw_Z below #[Value.ref b] s) 7 D cA s.heap.size zh0 1434 (lwLO s.heap.size b i) [] h) : W p l e room_1 s m #[Value.ref b] below meth c s.heap [] 0 0 (lw_Z below #[Value.ref b] s) (entryFrame m ([Value.ref b] : List Value).toArray 7) := by
  obtain ⟨hx, hb, hr, hml, hown, hts, hX, hbl, hlocks, hgv⟩ := id C0
  obtain ⟨D, cA, sA, am⟩ := amb_of hgv hts
  have X : zX p s m #[Value.ref b] meth c cL_law RL 7 D cA s.heap.size sA := ⟨hx, hb, hml, hown, fun w hw => hts w (List.mem_filter.mp hw).1, hlocks, am⟩
  have r : zRm room_1 s D cA s.heap.size zh0 := ⟨rfl, rfl, zW_0 D cA s.heap, rfl, by decide, by decide⟩
  have hl := lv_entry ([.ref b]) (n := 7) (Nat.le_of_ble_eq_true rfl)
  rw [lg_entry_eq]
  generalize (lg_sl ([.ref b]) ++ List.replicate (7 - (lg_sl ([.ref b])).length) Slot.unset).toArray = ls at hl ⊢
  have hl : lv_has ls 7 [(0, .ref b)] := hl
  have hS : va_S (zA s.heap.size) s.heap s.heap [] := va_S.rf
  exact lw_in X r ⟨rfl, hbl, hX⟩ hr hL (hled D cA sA X r) ⟨r.2.2.2, zext.rf⟩ s.heap [] ls (zW_0 D cA s.heap) hS hl
