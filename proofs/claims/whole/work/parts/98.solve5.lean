/-! the class's pairing: solve, for its callers -/
theorem hA0_I (h : Zh) (d : Nat) : zI (hA0 h d) = z2 (zI h) 42 1 (iI 1) := rfl
theorem hA0_R (h : Zh) (d : Nat) : zR (hA0 h d) = z2 (z2 (zR h) 42 3 (some d)) 42 4 (some 26) := rfl
theorem hA0_J (h : Zh) (d : Nat) : zJ (hA0 h d) = zJ h := rfl
theorem hA0_K (h : Zh) (d : Nat) : zK (hA0 h d) = zK h := rfl
theorem hA0_L (h : Zh) (d : Nat) : zL (hA0 h d) = zL h := rfl
theorem hA0_N (h : Zh) (d : Nat) : zN (hA0 h d) = zN h := rfl
theorem hA0_S (h : Zh) (d : Nat) : zS (hA0 h d) = zS h := rfl
theorem hA0_St {h : Zh} (s : St h) (d : Nat) : St (hA0 h d) := ((s.sI _ _ _).sR _ (by decide)).sR _ (by decide)
theorem fX6_solve_eq {h : Zh} {t : Tk} {d CR OW se : Nat} {rdy : Bool} (tok : Tok t) (s : St h) (pi : PI h CR OW se) (hd : d = 14 ∨ d = 20) (dk : Dk h d t) (hdc : HdC h t) (prd : PRd h t rdy) (hse : se + 600 < 2147483648) (hsN : zN h + 2 ≤ 601024) (hsS : tH t ≤ 300 → zS h + grw (zL h CR) (tH t * pcn t) + grw (zL h OW) (tR t) ≤ 7293034) : ∃ h' CR' OW' se', fX6_solve 42 d 26 33 h = some h' ∧ St h' ∧ Fc (fun i => i ∈ [34, 42, 43, 46, 47, 50, 51, 52] ∨ i = CR ∨ i = OW) h h' ∧ PI h' CR' OW' se' ∧ se' ≤ se + 600 ∧ PRd h' t true ∧ Cst h h' t CR OW CR' OW' := by
  have pi' := pi
  cases rdy
  · have sA := hA0_St s d
    have rA3 : zR (hA0 h d) 42 3 = some d := by rw [hA0_R, z2_k _ _ _ (by decide), z2_at]
    have dA : Dk (hA0 h d) d t := by
      unfold Dk
      rw [hA0_K, hA0_I, z2_row _ _ _ (by omega)]
      exact dk
    rw [solve_a tok s prd.1 sA rA3 dA]
    refine solve_b tok s.1 pi hd hse hsN hsS sA rA3 (by rw [hA0_R, z2_at]) (by rw [hA0_R, z2_k _ _ _ (by decide), z2_k _ _ _ (by decide)]; exact pi.1) (by rw [hA0_R, z2_k _ _ _ (by decide), z2_k _ _ _ (by decide)]; exact pi.2.1) dA ?_ (fun j hj => by rw [hA0_I, z2_k _ _ _ hj]) (by rw [hA0_I, z2_at]) (fun i hi => ⟨by rw [hA0_I, z2_row _ _ _ hi], by rw [hA0_J], by rw [hA0_R, z2_row _ _ _ hi, z2_row _ _ _ hi]⟩) (hA0_K h d) (hA0_L h d) (hA0_N h d) (hA0_S h d)
    intro x hx
    rw [hA0_I, z2_a _ _ _ _ (by decide)]
    exact hdc x hx
  · refine ⟨h, CR, OW, se, ?_, s, Fc.rf, pi', by omega, prd, by omega, Or.inl ⟨rfl, rfl, rfl⟩, Or.inl rfl, Or.inl rfl⟩
    have e1 := prd.1
    unfold fX6_solve
    rw [zlet_eq, if_pos (sK42 s), e1, if_neg (show ¬ iI (bI true) = 0 by decide)]
