/-! the class's pairing: clear, as a whole -/
theorem clear_85 {h g : Zh} {t : Tk} {d CR OW : Nat} (p : P0 h t d CR OW) (tok : Tok t) (hH : tH t ≤ 300) (pp : PP h t) (h1 : tH t * pcn t ≤ zL h CR) (hsN : zN h + 1 ≤ 601024) (hsS : zS h + grw (zL h OW) (tR t) ≤ 7293034) : ∃ h' OW', jX6_clear_85 g 42 h = some h' ∧ Rdy h' t d CR OW' ∧ Fc (fun i => i ∈ [42, 43, 47] ∨ i = CR ∨ i = OW) h h' ∧ (∀ j, j ≠ 10 → zI h' 42 j = zI h 42 j) ∧ zN h' ≤ zN h + 1 ∧ zS h' = zS h + grw (zL h OW) (tR t) ∧ zL h' OW' = max (zL h OW) (tR t) ∧ zL h' CR = zL h CR ∧ CR < zN h' ∧ OW' < zN h' ∧ (OW' = OW ∨ zN h ≤ OW') := by
  obtain ⟨bn4, bn12, bu1, bu4, bnu, bk2, bk5, bkn, bp1, bp2, bpk, bH, bsp, bs1, bs4, bT1, bT16, bR1, bR2, bH1, bff, bff1⟩ := tok.b
  have p' := p
  obtain ⟨a1, a2, a3, a4, a5, a6, a7, a8, a9, a10, a11, a12, a13, a14, a15, a16, a17⟩ := p
  have f1 := fJ7_fill_eq (v := 0) (h := h) a6 a8
  have fmA : Fm [CR] h (zaI h CR (afill (zL h CR) (fun _ => iI 0) (zI h CR))) := Fm_aI _ _ (by simp)
  have p1 := p'.fm fmA (by simp; omega) (by simp; omega)
  have pp1 : PP (zaI h CR (afill (zL h CR) (fun _ => iI 0) (zI h CR))) t := by
    unfold PP
    rw [fmA.I (by simp; omega), fmA.I (by simp; omega)]
    exact pp
  have hz1 : ∀ a, a < zL h CR → zI (zaI h CR (afill (zL h CR) (fun _ => iI 0) (zI h CR))) CR a = iI 0 := fun a ha => by rw [zI_aI, z1_self, afill_lt ha]
  have e42 : zI (zaI h CR (afill (zL h CR) (fun _ => iI 0) (zI h CR))) 42 = zI h 42 := fmA.I (by simp; omega)
  have hl1 : zL (zaI h CR (afill (zL h CR) (fun _ => iI 0) (zI h CR))) = zL h := rfl
  have hN1 : zN (zaI h CR (afill (zL h CR) (fun _ => iI 0) (zI h CR))) = zN h := rfl
  have hS1 : zS (zaI h CR (afill (zL h CR) (fun _ => iI 0) (zI h CR))) = zS h := rfl
  generalize hB : zaI h CR (afill (zL h CR) (fun _ => iI 0) (zI h CR)) = hb at *
  have p1' := p1
  obtain ⟨b1, b2, b3, b4, b5, b6, b7, b8, b9, b10, b11, b12, b13, b14, b15, b16, b17⟩ := p1
  have hkeep : ∀ i, i < zN h → ¬ (i ∈ [42, 43, 47] ∨ i = CR ∨ i = OW) → zI hb i = zI h i ∧ zJ hb i = zJ h i ∧ zR hb i = zR h i := fun i hi hA => by
    rw [fmA.I (by simp; exact fun e => hA (Or.inr (Or.inl e))), fmA.J, fmA.R]
    exact ⟨rfl, rfl, rfl⟩
  by_cases c : tR t ≤ zL h OW
  · obtain ⟨h', r1, r2, r3, r4⟩ := clear_121 (g := g) p1' tok hH pp1 (by rw [hl1]; exact h1) (by rw [hl1]; exact c) (fun a ha => hz1 a (by rw [hl1] at ha; exact ha))
    have hg : grw (zL h OW) (tR t) = 0 := by unfold grw; rw [if_neg (by omega)]
    refine ⟨h', OW, ?_, r2, ?_, fun j hj => by rw [r4 j hj, e42], by rw [r3.N, hN1]; omega, by rw [r3.S, hS1, hg]; rfl, by rw [r3.L, hl1]; omega, by rw [r3.L, hl1], by rw [r3.N, hN1]; exact a13, by rw [r3.N, hN1]; exact a14, Or.inl rfl⟩
    · unfold jX6_clear_85
      rw [if_pos (sK42 a1), bd_of a4, show (0 : Int32) = iI 0 from rfl, bd_of f1]
      rw [if_pos (sK42 b1), bd_of b5, if_pos b7, bd_of b2, if_pos b16.fK, b16.f10, si_ofN, hl1, if_pos (by rw [iI_le ⟨by omega, by omega⟩ ⟨by omega, by omega⟩]; omega)]
      exact r1
    · refine ⟨by rw [r3.N, hN1]; omega, fun i hi => by rw [r3.K, fmA.K, r3.L, hl1]; exact ⟨rfl, rfl⟩, fun i hi hA => ?_⟩
      have hk := hkeep i hi hA
      rw [r3.I (by simp at hA ⊢; omega), r3.J, r3.R]
      exact hk
  · have hg : grw (zL h OW) (tR t) = tR t := by unfold grw; rw [if_pos (by omega)]
    have p2 := p1'.newO (len := tR t) (by omega)
    have pp2 : PP (zsR (znw hb 100 (tR t) (tR t)) 42 9 (some (zN hb))) t := by
      unfold PP
      rw [show zI (zsR (znw hb 100 (tR t) (tR t)) 42 9 (some (zN hb))) = z1 (zI hb) (zN hb) (fun _ => 0) from rfl, z1_ne _ _ (by have := b1.1; omega), z1_ne _ _ (by have := b1.1; omega)]
      exact pp1
    have hCn : CR ≠ zN hb := by omega
    have hLC : zL (zsR (znw hb 100 (tR t) (tR t)) 42 9 (some (zN hb))) CR = zL h CR := by
      rw [zL_sR, zL_nw, z1_ne _ _ hCn, hl1]
    have hLO : zL (zsR (znw hb 100 (tR t) (tR t)) 42 9 (some (zN hb))) (zN hb) = tR t := by rw [zL_sR, zL_nw, z1_self]
    obtain ⟨h', r1, r2, r3, r4⟩ := clear_121 (g := g) p2 tok hH pp2 (by rw [hLC]; exact h1) (by rw [hLO]; exact Nat.le_refl _) (fun a ha => by
      rw [hLC] at ha
      rw [show zI (zsR (znw hb 100 (tR t) (tR t)) 42 9 (some (zN hb))) = z1 (zI hb) (zN hb) (fun _ => 0) from rfl, z1_ne _ _ hCn]
      exact hz1 a ha)
    have hN2 : zN (zsR (znw hb 100 (tR t) (tR t)) 42 9 (some (zN hb))) = zN h + 1 := by show zN hb + 1 = _; rw [hN1]
    refine ⟨h', zN hb, ?_, r2, ?_, fun j hj => ?_, by rw [r3.N, hN2]; omega, ?_, by rw [r3.L, hLO]; omega, by rw [r3.L, hLC], by rw [r3.N, hN2]; omega, by rw [r3.N, hN2, hN1]; omega, Or.inr (by omega)⟩
    · unfold jX6_clear_85
      have s2 : St (znw hb 100 (tR t) (tR t)) := b1.nw _ _ _
      rw [if_pos (sK42 a1), bd_of a4, show (0 : Int32) = iI 0 from rfl, bd_of f1]
      rw [if_pos (sK42 b1), bd_of b5, if_pos b7, bd_of b2, if_pos b16.fK, b16.f10, si_ofN, hl1, if_neg (by rw [iI_le ⟨by omega, by omega⟩ ⟨by omega, by omega⟩]; omega), bd_of b2, if_pos b16.fK, b16.f10, si_toInt (by omega) (by omega), if_pos ⟨by omega, by omega⟩, iI_clampN (by omega), if_pos ⟨by rw [zNC_v]; omega, by rw [zNS_v]; omega⟩, zlet_eq, if_pos (sK42 s2), zlet_eq]
      exact r1
    · refine ⟨by rw [r3.N, hN2]; omega, fun i hi => ?_, fun i hi hA => ?_⟩
      · rw [r3.K, r3.L, zK_sR, zL_sR, zK_nw, zL_nw, z1_ne _ _ (by omega), z1_ne _ _ (by omega), fmA.K, hl1]
        exact ⟨rfl, rfl⟩
      · have hk := hkeep i hi hA
        have hi42 : i ≠ 42 := fun e => hA (Or.inl (by rw [e]; simp))
        rw [r3.I (by simp at hA ⊢; omega), r3.J, r3.R, show zI (zsR (znw hb 100 (tR t) (tR t)) 42 9 (some (zN hb))) = z1 (zI hb) (zN hb) (fun _ => 0) from rfl, show zJ (zsR (znw hb 100 (tR t) (tR t)) 42 9 (some (zN hb))) = z1 (zJ hb) (zN hb) (fun _ => 0) from rfl, zR_sR, z2_row _ _ _ hi42, zR_nw, z1_ne _ _ (by omega), z1_ne _ _ (by omega), z1_ne _ _ (by omega)]
        exact hk
    · rw [r4 j hj, show zI (zsR (znw hb 100 (tR t) (tR t)) 42 9 (some (zN hb))) = z1 (zI hb) (zN hb) (fun _ => 0) from rfl, z1_ne _ _ (by have := b1.1; omega), e42]
    · rw [r3.S, hg]
      show zS hb + tR t = _
      rw [hS1]
