/-! the ledger: rows judged once and kept -/
theorem snS_t {t : Tk} {ρ : Nat → Int} (h : snP t ρ) : snS t ρ = true := @decide_eq_true _ (Classical.propDecidable _) h
theorem snS_f {t : Tk} {ρ : Nat → Int} (h : ¬ snP t ρ) : snS t ρ = false := @decide_eq_false _ (Classical.propDecidable _) h
theorem boS_t {t : Tk} {ρ : Nat → Int} (h : snP t ρ ∧ boP t ρ) : boS t ρ = true := @decide_eq_true _ (Classical.propDecidable _) h
theorem boS_f {t : Tk} {ρ : Nat → Int} (h : ¬ (snP t ρ ∧ boP t ρ)) : boS t ρ = false := @decide_eq_false _ (Classical.propDecidable _) h
theorem fX4_noSwap_F {h : Zh} {td : Nat} {t : Tk} {rc : Nat} {ru : Nat → Nat} {i sp c : Nat} {ρ : Nat → Int} (tok : Tok t) (s0 : St h) (r1 : zR h 25 1 = some td) (tdh : TD h td t rc ru) (hi : i < rc) (hb : ∀ x, x < tH t → ρ x = -2 ∨ (0 ≤ ρ x ∧ ρ x < 2147483648)) (hρ : ∀ x, x < tH t → zI h (54 + 2 * i + 1) x = iI (ρ x)) (rs : RS h (fsw ρ (tH t)) c sp) : ∃ h', fX4_noSwap 25 (54 + 2 * i) (iI 0) h = some (iI (bI (snS t ρ)), h') ∧ Fm [64] h h' := by
  obtain ⟨e, x', h', l1, l2, l3⟩ := nsF_2 (g := h) tok s0 s0 r1 tdh hi hb hρ rs
  refine ⟨h', ?_, l2⟩
  unfold fX4_noSwap
  rw [zlet_eq]
  refine (lp_bd l1).trans ?_
  rcases l3 with ⟨l3, l4⟩ | ⟨l3, l4⟩
  · subst l3
    rw [snS_f l4]
    rfl
  · subst l3
    rw [snS_t l4]
    rfl
theorem fX4_noSwap_T {h : Zh} {td : Nat} {t : Tk} {rc : Nat} {ru : Nat → Nat} {i sp c : Nat} {ρ : Nat → Int} (tok : Tok t) (s0 : St h) (r1 : zR h 25 1 = some td) (tdh : TD h td t rc ru) (hi : i < rc) (hb : ∀ x, x < tH t → ρ x = -2 ∨ (0 ≤ ρ x ∧ ρ x < 2147483648)) (hρ : ∀ x, x < tH t → zI h (54 + 2 * i + 1) x = iI (ρ x)) (hpR : ∀ y, y < tH t → ρ y < tR t) (rs : RS h (fsw ρ (tH t)) c sp) (hc0 : c ≤ tH t) (hsn : snP t ρ) : ∃ h', fX4_noSwap 25 (54 + 2 * i) (iI 1) h = some (iI (bI (boS t ρ)), h') ∧ Fm [39, 40, 41, 64] h h' ∧ RS0 h' sp := by
  obtain ⟨e, x', h', l1, l2, l3, l4⟩ := nsT_2 (g := h) tok s0 s0 r1 tdh hi hb hρ hpR rs hc0
  refine ⟨h', ?_, l2, l3⟩
  unfold fX4_noSwap
  rw [zlet_eq]
  refine (lp_bd l1).trans ?_
  rcases l4 with ⟨l4, l5⟩ | ⟨l4, l5⟩
  · subst l4
    rw [boS_f l5]
    rfl
  · subst l4
    rw [boS_t ⟨hsn, l5⟩]
    rfl
theorem fX4_swapsJudged_eq {h : Zh} {td : Nat} {t : Tk} {rc : Nat} {ru : Nat → Nat} {CR OW se sp i : Nat} {rdy : Bool} (tok : Tok t) (lg : LG h td t rc ru CR OW se sp rdy) (hi : i < rc) (l : LFd h t (ru i) i) (hsp : sp + 1 < 2147480000) : ∃ h' sp', fX4_swapsJudged 25 (54 + 2 * i) h = some (54 + 2 * i, h') ∧ LG h' td t rc ru CR OW se sp' rdy ∧ sp' ≤ sp + 1 ∧ zI h' (54 + 2 * i) 8 = iI (bI (snS t (lay t (ru i)))) ∧ zI h' (54 + 2 * i) 9 = iI (bI (boS t (lay t (ru i)))) ∧ Fm [38, 39, 40, 41, 64, 54 + 2 * i] h h' := by
  obtain ⟨bn4, bn12, bu1, bu4, bnu, bk2, bk5, bkn, bp1, bp2, bpk, bH, bsp, bs1, bs4, bT1, bT16, bR1, bR2, bH1, bff, bff1⟩ := tok.b
  have lg0 := lg
  obtain ⟨s, r1, tdh, hd, pi, prd, rs, ld, lx⟩ := lg
  have hrc := tdh.2.2.2.2.1
  have hN := s.1
  obtain ⟨d1, d2, d3, d4, d5⟩ := ldS s (show i < 4 by omega)
  obtain ⟨j1, j2, j3⟩ := l
  rcases j3 with j3 | ⟨j3, j4, j5⟩
  · have hb : ∀ x, x < tH t → lay t (ru i) x = -2 ∨ (0 ≤ lay t (ru i) x ∧ lay t (ru i) x < 2147483648) := fun x hx => by
      rcases lay_b tok (kind := ru i) hx with q | q
      · exact Or.inl q
      · exact Or.inr (by omega)
    have q54 : ∀ S : List Nat, (∀ y, y ∈ S → y < 54 ∨ y = 64) → 54 + 2 * i ∉ S := fun S hS m => by have := hS _ m; omega
    have q55 : ∀ S : List Nat, (∀ y, y ∈ S → y < 54 ∨ y = 64 ∨ y = 54 + 2 * i) → 54 + 2 * i + 1 ∉ S := fun S hS m => by have := hS _ m; omega
    have f2 : Fm [54 + 2 * i] h (zsI h (54 + 2 * i) 7 (iI 1)) := Fm_sI _ _ _ (by simp)
    have s2 := s.fm f2
    have rs2 : RS0 (zsI h (54 + 2 * i) 7 (iI 1)) sp := rs.fc f2.c hN (by simp; omega) (by simp; omega)
    obtain ⟨h3, g1, g2, g3⟩ := fX8_clear_eq s2 rs2 hsp
    have s3 := s2.fm g2
    have ft : ∀ x, x ∈ [54 + 2 * i] → x < 13 ∨ 25 ≤ x := by intro x hx; simp at hx; omega
    have td3 := (tdh.fm f2 ft).fm g2 (by simp)
    have r13 : zR h3 25 1 = some td := by rw [g2.R]; exact r1
    have ρ3 : ∀ x, x < tH t → zI h3 (54 + 2 * i + 1) x = iI (lay t (ru i) x) := fun x hx => by
      rw [g2.I (q55 _ (by simp)), f2.I (q55 _ (by simp))]
      exact j2.1 x hx
    obtain ⟨e, x', h4, c, m1, m2, m3, m4⟩ := swj_21 (g := h) tok s s3 r13 td3 hi hb ρ3 g3
    have s4 := s3.fm m2
    have td4 := td3.fm m2 (by simp)
    have r14 : zR h4 25 1 = some td := by rw [m2.R]; exact r13
    have ρ4 : ∀ x, x < tH t → zI h4 (54 + 2 * i + 1) x = iI (lay t (ru i) x) := fun x hx => by
      rw [m2.I (q55 _ (by simp))]
      exact ρ3 x hx
    obtain ⟨h5, n1, n2⟩ := fX4_noSwap_F tok s4 r14 td4 hi hb ρ4 m4
    have s5 := s4.fm n2
    have f6 : Fm [54 + 2 * i] h5 (zsI h5 (54 + 2 * i) 8 (iI (bI (snS t (lay t (ru i)))))) := Fm_sI _ _ _ (by simp)
    have s6 := s5.fm f6
    have td6 := (td4.fm n2 (by simp)).fm f6 ft
    have r16 : zR (zsI h5 (54 + 2 * i) 8 (iI (bI (snS t (lay t (ru i)))))) 25 1 = some td := by rw [f6.R, n2.R]; exact r14
    have rs6 : RS (zsI h5 (54 + 2 * i) 8 (iI (bI (snS t (lay t (ru i)))))) (fsw (lay t (ru i)) (tH t)) c (sp + 1) := (m4.fm n2 (by simp) (by simp) (by simp) (by simp)).fm f6 (by simp; omega) (by simp; omega) (by simp; omega) (by simp; omega)
    have ρ6 : ∀ x, x < tH t → zI (zsI h5 (54 + 2 * i) 8 (iI (bI (snS t (lay t (ru i)))))) (54 + 2 * i + 1) x = iI (lay t (ru i) x) := fun x hx => by
      rw [f6.I (q55 _ (by simp)), n2.I (q55 _ (by simp))]
      exact ρ4 x hx
    -- what it says of being borne
    have key : ∃ h7, Fm [39, 40, 41, 64] (zsI h5 (54 + 2 * i) 8 (iI (bI (snS t (lay t (ru i)))))) h7 ∧ RS0 h7 (sp + 1) ∧ kX4_swapsJudged_21 h 25 (54 + 2 * i) e x' h4 = some (54 + 2 * i, zsI h7 (54 + 2 * i) 9 (iI (bI (boS t (lay t (ru i)))))) := by
      have n1' : fX4_noSwap 25 (54 + 2 * i) 0 h4 = some (iI (bI (snS t (lay t (ru i)))), h5) := n1
      by_cases c1 : snP t (lay t (ru i))
      · obtain ⟨h7, o1, o2, o3⟩ := fX4_noSwap_T tok s6 r16 td6 hi hb ρ6 (fun x hx => by rcases lay_b tok (kind := ru i) hx with q | q <;> omega) rs6 m3 c1
        refine ⟨h7, o2, o3, ?_⟩
        rw [snS_t c1] at *
        unfold kX4_swapsJudged_21
        have o1' : fX4_noSwap 25 (54 + 2 * i) 1 (zsI h5 (54 + 2 * i) 8 (iI (bI true))) = some (iI (bI (boS t (lay t (ru i)))), h7) := o1
        rw [zc_of n1', if_pos (show iI (bI true) = 0 ∨ iI (bI true) = 1 from Or.inr rfl), zlet_eq, if_neg (by rw [zI_sI, z2_at]; decide), zc_of o1']
        cases boS t (lay t (ru i)) <;> rfl
      · refine ⟨_, Fm.rf, rs6.z, ?_⟩
        have hbo : boS t (lay t (ru i)) = false := boS_f (fun q => c1 q.1)
        rw [hbo]
        rw [snS_f c1] at *
        unfold kX4_swapsJudged_21
        rw [zc_of n1', if_pos (show iI (bI false) = 0 ∨ iI (bI false) = 1 from Or.inl rfl), zlet_eq, if_pos (by rw [zI_sI, z2_at]; rfl)]
        rfl
    obtain ⟨h7, o1, o2, o3⟩ := key
    have s7 := s6.fm o1
    have f8 : Fm [54 + 2 * i] h7 (zsI h7 (54 + 2 * i) 9 (iI (bI (boS t (lay t (ru i)))))) := Fm_sI _ _ _ (by simp)
    have fmA : Fm [38, 39, 40, 41, 64, 54 + 2 * i] h (zsI h7 (54 + 2 * i) 9 (iI (bI (boS t (lay t (ru i)))))) := (((((f2.mono (by simp)).tr (g2.mono (by simp))).tr (m2.mono (by simp))).tr (n2.mono (by simp))).tr (f6.mono (by simp))).tr ((o1.mono (by simp)).tr (f8.mono (by simp)))
    have ei : ∀ j, j ≠ 7 → j ≠ 8 → j ≠ 9 → zI (zsI h7 (54 + 2 * i) 9 (iI (bI (boS t (lay t (ru i)))))) (54 + 2 * i) j = zI h (54 + 2 * i) j := fun j h7' h8 h9 => by
      rw [zI_sI, z2_k _ _ _ h9, o1.I (q54 _ (by simp)), zI_sI, z2_k _ _ _ h8, n2.I (q54 _ (by simp)), m2.I (q54 _ (by simp)), g2.I (q54 _ (by simp)), zI_sI, z2_k _ _ _ h7']
    have e7 : zI (zsI h7 (54 + 2 * i) 9 (iI (bI (boS t (lay t (ru i)))))) (54 + 2 * i) 7 = iI 1 := by
      rw [zI_sI, z2_k _ _ _ (by decide), o1.I (q54 _ (by simp)), zI_sI, z2_k _ _ _ (by decide), n2.I (q54 _ (by simp)), m2.I (q54 _ (by simp)), g2.I (q54 _ (by simp)), zI_sI, z2_at]
    have e8 : zI (zsI h7 (54 + 2 * i) 9 (iI (bI (boS t (lay t (ru i)))))) (54 + 2 * i) 8 = iI (bI (snS t (lay t (ru i)))) := by
      rw [zI_sI, z2_k _ _ _ (by decide), o1.I (q54 _ (by simp)), zI_sI, z2_at]
    have e9 : zI (zsI h7 (54 + 2 * i) 9 (iI (bI (boS t (lay t (ru i)))))) (54 + 2 * i) 9 = iI (bI (boS t (lay t (ru i)))) := by
      rw [zI_sI, z2_at]
    refine ⟨_, sp + 1, ?_, ?_, Nat.le_refl _, e8, e9, fmA⟩
    · unfold fX4_swapsJudged
      have j3' : zI h (54 + 2 * i) 7 = 0 := j3
      rw [zlet_eq, if_pos d2, if_pos j3', zlet_eq, if_pos (sK25 s)]
      refine (bd_of (show zR (zsI h (54 + 2 * i) 7 1) 25 4 = some 38 from sR25_4 s) _).trans ?_
      rw [if_pos (sK38 s)]
      refine (bd_of g1 _).trans ?_
      refine (lp_bd m1).trans ?_
      exact o3
    · have mA : ∀ y, y ∈ [38, 39, 40, 41, 64, 54 + 2 * i] → (38 ≤ y ∧ y ≤ 41) ∨ y = 64 ∨ y = 54 + 2 * i := by
        intro y hy
        simp only [List.mem_cons, List.not_mem_nil, or_false] at hy
        omega
      have nA : ∀ y, ¬ ((38 ≤ y ∧ y ≤ 41) ∨ y = 64 ∨ y = 54 + 2 * i) → y ∉ [38, 39, 40, 41, 64, 54 + 2 * i] := fun y hy m => hy (mA y m)
      have l7 : LFd (zsI h7 (54 + 2 * i) 9 (iI (bI (boS t (lay t (ru i)))))) t (ru i) i := ⟨by rw [ei 2 (by decide) (by decide) (by decide)]; exact j1, ⟨fun y hy => by rw [fmA.I (nA _ (by omega))]; exact j2.1 y hy, by rw [ei 3 (by decide) (by decide) (by decide)]; exact j2.2.1, by rw [ei 4 (by decide) (by decide) (by decide)]; exact j2.2.2.1, by rw [ei 5 (by decide) (by decide) (by decide)]; exact j2.2.2.2.1, by rw [ei 6 (by decide) (by decide) (by decide)]; exact j2.2.2.2.2⟩, Or.inr ⟨e7, e8, e9⟩⟩
      refine ⟨s.fm fmA, by rw [fmA.R]; exact r1, tdh.fm fmA (fun y hy => by have := mA y hy; omega), hd.fc fmA.c hN (nA _ (by omega)), pi.fc fmA.c hN (nA _ (by omega)) (nA _ (by omega)), prd.fc fmA.c hN (nA _ (by omega)) (nA _ (by omega)), o2.fc f8.c s7.1 (by simp; omega) (by simp; omega), fun k hk => ?_, lx.fc fmA.c hN (nA _ (by omega)) (nA _ (by omega)) (nA _ (by omega))⟩
      by_cases c : k = i
      · rw [c]
        exact ⟨by rw [ei 0 (by decide) (by decide) (by decide)]; exact (ld i (show i < 4 by omega)).1, Or.inr l7⟩
      · exact (ld k hk).fc fmA.c (by omega) (nA _ (by omega)) (nA _ (by omega))
  · refine ⟨h, sp, ?_, lg0, by omega, j4, j5, Fm.rf⟩
    unfold fX4_swapsJudged
    rw [zlet_eq, if_pos d2, if_neg (by rw [j3]; decide)]
