/-! the model's reader: the token that is looked at -/
theorem go_178 {g h0 : Zh} {tx : Nat → Int} {n s : Nat} (s0 : St h0) (tm : TxM h0 tx n) (hs : s ≤ n) (h8 : zI h0 76 8 = iI s) (h12 : zI h0 76 12 = iI 0) : ∃ h', lp (fun q : Int32 × Zh => bX12_goesOn_178 g 76 q.1 q.2) zB (iI 0, h0) = some (1, (iI (rnl 48 57 tx n s), h')) ∧ Fm [76] h0 h' ∧ (∀ j, j ≠ 8 → j ≠ 12 → zI h' 76 j = zI h0 76 j) ∧ zI h' 76 8 = iI ((s + rnl 48 57 tx n s : Nat) : Int) ∧ zI h' 76 12 = iI (dvv 48 tx s (min (rnl 48 57 tx n s) 3)) := by
  have hrb := rnl_b 48 57 tx hs
  have hn := tm.1
  have := lp_cnt (body := fun q : Int32 × Zh => bX12_goesOn_178 g 76 q.1 q.2) (rnl 48 57 tx n s) (fun k z => ∃ h, z = ((iI (k : Int), h) : Int32 × Zh) ∧ Fm [76] h0 h ∧ (∀ j, j ≠ 8 → j ≠ 12 → zI h 76 j = zI h0 76 j) ∧ zI h 76 8 = iI ((s + k : Nat) : Int) ∧ zI h 76 12 = iI (dvv 48 tx s (min k 3))) (fun e z => e = 1 ∧ z.1 = iI (rnl 48 57 tx n s) ∧ Fm [76] h0 z.2 ∧ (∀ j, j ≠ 8 → j ≠ 12 → zI z.2 76 j = zI h0 76 j) ∧ zI z.2 76 8 = iI ((s + rnl 48 57 tx n s : Nat) : Int) ∧ zI z.2 76 12 = iI (dvv 48 tx s (min (rnl 48 57 tx n s) 3))) ?_ ?_ (by omega) (s := (iI 0, h0)) ⟨h0, rfl, Fm.rf, fun _ _ _ => rfl, h8, h12⟩
  · obtain ⟨e, z, l1, l2, l3, l4⟩ := this
    obtain ⟨z1, z2⟩ := z
    have e0 : e = 0 := by omega
    subst e0
    have l3' : z1 = iI (rnl 48 57 tx n s) := l3
    rw [l3'] at l1
    exact ⟨z2, l1, l4⟩
  · intro k z hk ⟨h, ez, fm, k1, k2, k3⟩
    subst ez
    have s1 := s0.fm fm
    have tm1 := tm.fm fm (k1 7 (by decide) (by decide)) (by simp)
    obtain ⟨c0, c1, c2⟩ := rnl_in hk
    have tb := tm.2.2 _ c0
    have e1 := byteAt_m (k := s + k) s1 tm1 (by omega)
    have hub := ub_b tb.2.1 tb.2.2
    have hby : byt tx n (s + k) = tx (s + k) := by unfold byt; rw [if_pos c0]; omega
    rw [hby] at e1
    have e2 := isDigit_m (h := h) (c := tx (s + k)) (by omega)
    have hl : dgt0 (tx (s + k)) = true := by unfold dgt0; rw [decide_eq_true c1, decide_eq_true c2]; rfl
    rw [hl] at e2
    have e2' : fX12_isDigit (iI (tx (s + k))) h = some (iI 1, h) := e2
    have ee : ((s + k : Nat) : Int) + 1 = ((s + (k + 1) : Nat) : Int) := by omega
    show (∃ s', bX12_goesOn_178 g 76 (iI k) h = some (0, s') ∧ _) ∨ (∃ e s', bX12_goesOn_178 g 76 (iI k) h = some (e + 1, s') ∧ _)
    by_cases c : k < 3
    · have hw : dvv 48 tx s (min (k + 1) 3) = 10 * dvv 48 tx s (min k 3) + tx (s + k) - 48 := by
        rw [Nat.min_eq_left (by omega), Nat.min_eq_left (by omega), dvv]; omega
      refine Or.inl ⟨(iI ((k + 1 : Nat) : Int), zsI (zsI h 76 12 (iI (dvv 48 tx s (min (k + 1) 3)))) 76 8 (iI ((s + (k + 1) : Nat) : Int))), ?_, _, rfl, (fm.tr (Fm_sI _ _ _ (by simp))).tr (Fm_sI _ _ _ (by simp)), fun j hj hj2 => by rw [zI_sI, z2_k _ _ _ hj, zI_sI, z2_k _ _ _ hj2]; exact k1 j hj hj2, by rw [zI_sI, z2_at], by rw [zI_sI, z2_k _ _ _ (by decide), zI_sI, z2_at]⟩
      rw [hw]
      generalize dvv 48 tx s (min k 3) = w at *
      generalize tx (s + k) = y at *
      unfold bX12_goesOn_178
      simp (maxSteps := 1000000) (disch := (first | assumption | exact ne_b rfl | omega)) only [↓reduceIte, ↓zlet_eq, ↓bdR_sI, ↓bdR_sJ, ↓bdR_aI, zc2_some, Option.bind_some, ↓si_m1, ↓si_m2, ↓si_m3, iI_lit, iI_add, iI_sub, iI_mul, leT, leF, ltT, ltF, eqT, eqF, zinT, clI, Int.toNat_natCast, Int.reduceToNat, tN1, tNa, tN0, tNm, if_pos, if_neg, zI_sI, zI_sJ, zI_sR, zJ_sI, zJ_sJ, zJ_sR, zR_sI, zR_sJ, zR_sR, zK_sI, zK_sJ, zK_sR, zL_sI, zL_sJ, zL_sR, zI_aI, zJ_aI, zR_aI, zK_aI, zL_aI, z2_at, z2_a, z2_k, z1_self, z1_ne, true_and, and_true, bIt, bIf, Bool.false_eq_true, Bool.true_eq_false, eq_self, not_true_eq_false, not_false_eq_true, k2, ↓zc_of e1, ↓zc_of e2', k3, ee]
      all_goals rfl
    · have hw : dvv 48 tx s (min (k + 1) 3) = dvv 48 tx s (min k 3) := by
        rw [Nat.min_eq_right (by omega), Nat.min_eq_right (by omega)]
      refine Or.inl ⟨(iI ((k + 1 : Nat) : Int), zsI h 76 8 (iI ((s + (k + 1) : Nat) : Int))), ?_, _, rfl, fm.tr (Fm_sI _ _ _ (by simp)), fun j hj hj2 => by rw [zI_sI, z2_k _ _ _ hj]; exact k1 j hj hj2, by rw [zI_sI, z2_at], by rw [zI_sI, z2_k _ _ _ (by decide), hw]; exact k3⟩
      unfold bX12_goesOn_178
      simp (maxSteps := 1000000) (disch := (first | assumption | exact ne_b rfl | omega)) only [↓reduceIte, ↓zlet_eq, ↓bdR_sI, ↓bdR_sJ, ↓bdR_aI, zc2_some, Option.bind_some, ↓si_m1, ↓si_m2, ↓si_m3, iI_lit, iI_add, iI_sub, iI_mul, leT, leF, ltT, ltF, eqT, eqF, zinT, clI, Int.toNat_natCast, Int.reduceToNat, tN1, tNa, tN0, tNm, if_pos, if_neg, zI_sI, zI_sJ, zI_sR, zJ_sI, zJ_sJ, zJ_sR, zR_sI, zR_sJ, zR_sR, zK_sI, zK_sJ, zK_sR, zL_sI, zL_sJ, zL_sR, zI_aI, zJ_aI, zR_aI, zK_aI, zL_aI, z2_at, z2_a, z2_k, z1_self, z1_ne, true_and, and_true, bIt, bIf, Bool.false_eq_true, Bool.true_eq_false, eq_self, not_true_eq_false, not_false_eq_true, k2, ↓zc_of e1, ↓zc_of e2', ee]
      all_goals rfl
  · intro z ⟨h, ez, fm, k1, k2, k3⟩
    subst ez
    have s1 := s0.fm fm
    have tm1 := tm.fm fm (k1 7 (by decide) (by decide)) (by simp)
    refine ⟨0, (iI (rnl 48 57 tx n s), h), ?_, rfl, rfl, fm, k1, k2, k3⟩
    show bX12_goesOn_178 g 76 (iI (rnl 48 57 tx n s)) h = _
    have e1 := byteAt_m (k := s + rnl 48 57 tx n s) s1 tm1 (by omega)
    have hbb := byt_b (k := s + rnl 48 57 tx n s) tm1
    have hl : dgt0 (byt tx n (s + rnl 48 57 tx n s)) = false := by
      unfold byt
      by_cases c : s + rnl 48 57 tx n s < n
      · rw [if_pos c, dgt_ub (tm.2.2 _ c).2.1 (tm.2.2 _ c).2.2]
        have := rnl_end c
        unfold dgt0
        by_cases q : 48 ≤ tx (s + rnl 48 57 tx n s)
        · rw [decide_eq_false (fun z => this ⟨q, z⟩), Bool.and_false]
        · rw [decide_eq_false q, Bool.false_and]
      · rw [if_neg c]; rfl
    have e2 := isDigit_m (h := h) hbb
    rw [hl] at e2
    have e2' : fX12_isDigit (iI (byt tx n (s + rnl 48 57 tx n s))) h = some (iI 0, h) := e2
    generalize byt tx n (s + rnl 48 57 tx n s) = w at *
    unfold bX12_goesOn_178
    simp (maxSteps := 1000000) (disch := (first | assumption | exact ne_b rfl | omega)) only [↓reduceIte, ↓zlet_eq, ↓bdR_sI, ↓bdR_sJ, ↓bdR_aI, zc2_some, Option.bind_some, ↓si_m1, ↓si_m2, ↓si_m3, iI_lit, iI_add, iI_sub, iI_mul, leT, leF, ltT, ltF, eqT, eqF, zinT, clI, Int.toNat_natCast, Int.reduceToNat, tN1, tNa, tN0, tNm, if_pos, if_neg, zI_sI, zI_sJ, zI_sR, zJ_sI, zJ_sJ, zJ_sR, zR_sI, zR_sJ, zR_sR, zK_sI, zK_sJ, zK_sR, zL_sI, zL_sJ, zL_sR, zI_aI, zJ_aI, zR_aI, zK_aI, zL_aI, z2_at, z2_a, z2_k, z1_self, z1_ne, true_and, and_true, bIt, bIf, Bool.false_eq_true, Bool.true_eq_false, eq_self, not_true_eq_false, not_false_eq_true, k2, ↓zc_of e1, ↓zc_of e2']
/-- BAD 0, END 1, WORD 2, WHOLE 3, SIGN 4 -/
def mS (k : Nat) : Int := if k = 0 then 1 else if k = 1 then 2 else if k = 2 then 3 else if k = 3 then 4 else if k = 4 then 4 else 0
def RdM (h : Zh) (tx : Nat → Int) (n p : Nat) : Prop := p ≤ n ∧ TxM h tx n ∧ zI h 76 9 = iI (mS (tkK tx n p)) ∧ zI h 76 10 = iI (skp tx n p) ∧ (tkK tx n p ≠ 5 → zI h 76 8 = iI (tkN tx n p)) ∧ (tkK tx n p = 1 → zJ h 76 15 = jI (wen tx (skp tx n p) (rnl 97 122 tx n (skp tx n p)))) ∧ (tkK tx n p = 2 → zI h 76 12 = iI (tkV tx n p)) ∧ zI h 76 11 = iI (if tkK tx n p = 3 then 59 else if tkK tx n p = 4 then 44 else 0)
def M6 (j : Nat) : Prop := j = 8 ∨ j = 9 ∨ j = 10 ∨ j = 11 ∨ j = 12
