/-! the class's pairing: clear's beginning -/
theorem clear_49 {h g : Zh} {t : Tk} {d CR OW : Nat} (p : P0 h t d CR OW) (tok : Tok t) (hH : tH t ≤ 300) (h6 : zI h 42 6 = iI (pcn t)) (hsN : zN h + 2 ≤ 601024) (hsS : zS h + grw (zL h CR) (tH t * pcn t) + grw (zL h OW) (tR t) ≤ 7293034) : ∃ h' CR' OW', jX6_clear_49 g 42 (iI (bI (!anyO t))) (iI (tsh t)) (iI (tk t)) 33 h = some h' ∧ Rdy h' t d CR' OW' ∧ Fc (fun i => i ∈ [34, 42, 43, 46, 47] ∨ i = CR ∨ i = OW) h h' ∧ (∀ j, j ≠ 10 → zI h' 42 j = zI h 42 j) ∧ zN h' ≤ zN h + 2 ∧ zS h' = zS h + grw (zL h CR) (tH t * pcn t) + grw (zL h OW) (tR t) ∧ zL h' CR' = max (zL h CR) (tH t * pcn t) ∧ zL h' OW' = max (zL h OW) (tR t) ∧ CR' < zN h' ∧ OW' < zN h' ∧ (CR' = CR ∨ zN h ≤ CR') ∧ (OW' = OW ∨ zN h ≤ OW') := by
  obtain ⟨bn4, bn12, bu1, bu4, bnu, bk2, bk5, bkn, bp1, bp2, bpk, bH, bsp, bs1, bs4, bT1, bT16, bR1, bR2, bH1, bff, bff1⟩ := tok.b
  have hpb := pcn_b tok
  have p' := p
  obtain ⟨a1, a2, a3, a4, a5, a6, a7, a8, a9, a10, a11, a12, a13, a14, a15, a16, a17⟩ := p
  have hpk := hpb.2
  unfold pcn at hpk
  obtain ⟨hb, f1, fmA, f3⟩ := fX5_list_eq (r0 := 33) (rw := 34) (out := 46) (n := tk t) (k := tsh t) (L := 120) (rs := !anyO t) (h := h) (sK33 a1) (sR33_0 a1) (sK34 a1) (sL34 a1) (sK46 a1) (sL46 a1) (by decide) (by decide) (by omega) bs1 (by omega) (by omega) (by omega) hpk
  have p1 := p'.fm fmA (by simp) (by simp; omega)
  have p1' := p1
  obtain ⟨b1, b2, b3, b4, b5, b6, b7, b8, b9, b10, b11, b12, b13, b14, b15, b16, b17⟩ := p1
  have e42 : zI hb 42 = zI h 42 := fmA.I (by simp)
  have pp1 : PP hb t := ⟨by rw [e42]; exact h6, fun i hi => f3 i hi⟩
  have hl1 : zL hb = zL h := fmA.L
  have hN1 : zN hb = zN h := fmA.N
  have hS1 : zS hb = zS h := fmA.S
  have hprod : tH t * pcn t ≤ 300 * 120 := Nat.mul_le_mul hH hpb.2
  have em : (tH t : Int) * (pcn t : Int) = ((tH t * pcn t : Nat) : Int) := by rw [Int.natCast_mul]
  have hb6 : zI hb 42 6 = iI (pcn t) := pp1.1
  have hkeep : ∀ i, i < zN h → ¬ (i ∈ [34, 42, 43, 46, 47] ∨ i = CR ∨ i = OW) → zI hb i = zI h i ∧ zJ hb i = zJ h i ∧ zR hb i = zR h i := fun i hi hA => by
    rw [fmA.I (by simp at hA ⊢; omega), fmA.J, fmA.R]
    exact ⟨rfl, rfl, rfl⟩
  by_cases c : tH t * pcn t ≤ zL h CR
  · have hg : grw (zL h CR) (tH t * pcn t) = 0 := by unfold grw; rw [if_neg (by omega)]
    rw [hg, Nat.add_zero] at hsS
    rw [hg]
    obtain ⟨h', OW', r1, r2, r3, r4, r5, r6, r7, r8, r9, r10, r11⟩ := clear_85 (g := g) p1' tok hH pp1 (by rw [hl1]; exact c) (by rw [hN1]; omega) (by rw [hS1, hl1]; exact hsS)
    refine ⟨h', CR, OW', ?_, r2, ?_, fun j hj => by rw [r4 j hj, e42], by rw [hN1] at r5; omega, by rw [r6, hS1, hl1]; omega, by rw [r8, hl1]; omega, by rw [r7, hl1], r9, r10, Or.inl rfl, by rw [← hN1]; exact r11⟩
    · unfold jX6_clear_49
      rw [if_pos (sK42 a1), sB42_5 a1, if_pos (sK33 a1), bd_of f1, if_pos (sK42 b1), bd_of b2, if_pos b16.fK, b16.f9, hb6, iI_mul, em, zlet_eq, bd_of b4, if_pos b6, si_ofN, hl1, if_pos (by rw [iI_le ⟨by omega, by omega⟩ ⟨by omega, by omega⟩]; omega)]
      exact r1
    · refine ⟨by have := r3.1; omega, fun i hi => ?_, fun i hi hA => ?_⟩
      · have := r3.2.1 i (by omega)
        rw [this.1, this.2, fmA.K, hl1]
        exact ⟨rfl, rfl⟩
      · have hk := hkeep i hi hA
        have := r3.2.2 i (by omega) (by simp at hA ⊢; omega)
        rw [this.1, this.2.1, this.2.2]
        exact hk
  · have hg : grw (zL h CR) (tH t * pcn t) = tH t * pcn t := by unfold grw; rw [if_pos (by omega)]
    rw [hg] at hsS ⊢
    generalize hlen : tH t * pcn t = len at *
    have p2 := p1'.newC (len := len) (by omega)
    have pp2 : PP (zsR (znw hb 100 len len) 42 8 (some (zN hb))) t := by
      unfold PP
      rw [show zI (zsR (znw hb 100 len len) 42 8 (some (zN hb))) = z1 (zI hb) (zN hb) (fun _ => 0) from rfl, z1_ne _ _ (by have := b1.1; omega), z1_ne _ _ (by have := b1.1; omega)]
      exact pp1
    have hOn : OW ≠ zN hb := by omega
    have hLO : zL (zsR (znw hb 100 len len) 42 8 (some (zN hb))) OW = zL h OW := by
      rw [zL_sR, zL_nw, z1_ne _ _ hOn, hl1]
    have hLC : zL (zsR (znw hb 100 len len) 42 8 (some (zN hb))) (zN hb) = len := by rw [zL_sR, zL_nw, z1_self]
    have hN2 : zN (zsR (znw hb 100 len len) 42 8 (some (zN hb))) = zN h + 1 := by show zN hb + 1 = _; rw [hN1]
    have hS2 : zS (zsR (znw hb 100 len len) 42 8 (some (zN hb))) = zS h + len := by show zS hb + len = _; rw [hS1]
    obtain ⟨h', OW', r1, r2, r3, r4, r5, r6, r7, r8, r9, r10, r11⟩ := clear_85 (g := g) p2 tok hH pp2 (by rw [hLC, hlen]; exact Nat.le_refl _) (by rw [hN2]; omega) (by rw [hS2, hLO]; exact hsS)
    refine ⟨h', zN hb, OW', ?_, r2, ?_, fun j hj => ?_, by rw [hN2] at r5; omega, by rw [r6, hS2, hLO], by rw [r8, hLC]; omega, by rw [r7, hLO], r9, r10, Or.inr (by omega), ?_⟩
    · unfold jX6_clear_49
      have s2 : St (znw hb 100 len len) := b1.nw _ _ _
      rw [if_pos (sK42 a1), sB42_5 a1, if_pos (sK33 a1), bd_of f1, if_pos (sK42 b1), bd_of b2, if_pos b16.fK, b16.f9, hb6, iI_mul, em, zlet_eq, bd_of b4, if_pos b6, si_ofN, hl1, if_neg (by rw [iI_le ⟨by omega, by omega⟩ ⟨by omega, by omega⟩]; omega), si_toInt (by omega) (by omega), if_pos ⟨by omega, by omega⟩, iI_clampN (by omega), if_pos ⟨by rw [zNC_v]; omega, by rw [zNS_v]; omega⟩, zlet_eq, if_pos (sK42 s2), zlet_eq]
      exact r1
    · have hb3 := r3.1
      rw [hN2] at hb3
      refine ⟨by omega, fun i hi => ?_, fun i hi hA => ?_⟩
      · have := r3.2.1 i (by rw [hN2]; omega)
        rw [this.1, this.2, zK_sR, zL_sR, zK_nw, zL_nw, z1_ne _ _ (by omega), z1_ne _ _ (by omega), fmA.K, hl1]
        exact ⟨rfl, rfl⟩
      · have hk := hkeep i hi hA
        have hi42 : i ≠ 42 := fun e => hA (Or.inl (by rw [e]; simp))
        have := r3.2.2 i (by rw [hN2]; omega) (by simp at hA ⊢; omega)
        rw [this.1, this.2.1, this.2.2, show zI (zsR (znw hb 100 len len) 42 8 (some (zN hb))) = z1 (zI hb) (zN hb) (fun _ => 0) from rfl, show zJ (zsR (znw hb 100 len len) 42 8 (some (zN hb))) = z1 (zJ hb) (zN hb) (fun _ => 0) from rfl, zR_sR, z2_row _ _ _ hi42, zR_nw, z1_ne _ _ (by omega), z1_ne _ _ (by omega), z1_ne _ _ (by omega)]
        exact hk
    · rw [r4 j hj, show zI (zsR (znw hb 100 len len) 42 8 (some (zN hb))) = z1 (zI hb) (zN hb) (fun _ => 0) from rfl, z1_ne _ _ (by have := b1.1; omega), e42]
    · rcases r11 with q | q
      · exact Or.inl q
      · rw [hN2] at q; exact Or.inr (by omega)
theorem fX6_clear_eq {h : Zh} {t : Tk} {d CR OW : Nat} (p : P0 h t d CR OW) (tok : Tok t) (hH : tH t ≤ 300) (hsN : zN h + 2 ≤ 601024) (hsS : zS h + grw (zL h CR) (tH t * pcn t) + grw (zL h OW) (tR t) ≤ 7293034) : ∃ h' CR' OW', fX6_clear 42 33 h = some h' ∧ Rdy h' t d CR' OW' ∧ Fc (fun i => i ∈ [34, 42, 43, 46, 47] ∨ i = CR ∨ i = OW) h h' ∧ (∀ j, j ≠ 6 → j ≠ 10 → zI h' 42 j = zI h 42 j) ∧ zN h' ≤ zN h + 2 ∧ zS h' = zS h + grw (zL h CR) (tH t * pcn t) + grw (zL h OW) (tR t) ∧ zL h' CR' = max (zL h CR) (tH t * pcn t) ∧ zL h' OW' = max (zL h OW) (tR t) ∧ CR' < zN h' ∧ OW' < zN h' ∧ (CR' = CR ∨ zN h ≤ CR') ∧ (OW' = OW ∨ zN h ≤ OW') := by
  obtain ⟨bn4, bn12, bu1, bu4, bnu, bk2, bk5, bkn, bp1, bp2, bpk, bH, bsp, bs1, bs4, bT1, bT16, bR1, bR2, bH1, bff, bff1⟩ := tok.b
  have hpb := pcn_b tok
  have p' := p
  obtain ⟨a1, a2, a3, a4, a5, a6, a7, a8, a9, a10, a11, a12, a13, a14, a15, a16, a17⟩ := p
  have fmA : Fm [42] h (zsI h 42 6 (iI (pcn t))) := Fm_sI _ _ _ (by simp)
  have p1 := p'.fm fmA (by simp) (by simp; omega)
  obtain ⟨h', CR', OW', r1, r2, r3, r4, r5, r6, r7, r8, r9, r10, r11, r12⟩ := clear_49 (g := h) p1 tok hH (by rw [zI_sI, z2_at]) hsN hsS
  have p1' := p1
  obtain ⟨b1, b2, b3, b4, b5, b6, b7, b8, b9, b10, b11, b12, b13, b14, b15, b16, b17⟩ := p1
  have hw := fX0_waysToShow_eq a16 tok
  have hpT : pcn t * tT t ≤ 120 * 16 := Nat.mul_le_mul hpb.2 bT16
  have hdiv : iI ((pcn t * tT t : Nat) : Int) / iI (tT t) = iI (pcn t) := by
    rw [si_divN (by omega) (by omega) (by omega), Nat.mul_div_cancel _ (by omega)]
  have hany := fX0_anyOrder_eq b16
  refine ⟨h', CR', OW', ?_, r2, ?_, fun j j6 j10 => by rw [r4 j j10, zI_sI, z2_k _ _ _ j6], r5, r6, r7, r8, r9, r10, r11, r12⟩
  · unfold fX6_clear
    rw [zlet_eq, if_pos (sK42 a1), bd_of a2, if_pos a16.fK, zc_of hw, if_pos (sK42 a1), bd_of a2, if_pos a16.fK, a16.f12, if_pos (by rw [show (0 : Int32) = iI 0 from rfl, iI_eq ⟨by omega, by omega⟩ ⟨by omega, by omega⟩]; omega), hdiv, zlet_eq, if_pos (sK42 b1), bd_of b2, if_pos b16.fK, bd_of b2, if_pos b16.fK, bd_of b2, if_pos b16.fK, zc_of hany, b16.f5, b16.f3]
    cases e : anyO t
    · rw [e] at r1
      rw [if_pos (show iI (bI false) = 0 from rfl)]
      exact r1
    · rw [e] at r1
      rw [if_neg (show ¬ iI (bI true) = 0 by decide)]
      exact r1
  · refine ⟨r3.1, r3.2.1, fun i hi hA => ?_⟩
    have := r3.2.2 i hi hA
    have hi42 : i ≠ 42 := fun e => hA (Or.inl (by rw [e]; simp))
    rw [this.1, this.2.1, this.2.2, fmA.I (by simp; exact hi42)]
    exact ⟨rfl, rfl, rfl⟩
