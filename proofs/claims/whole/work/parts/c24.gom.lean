/-! the model's reader: words and numbers -/
def Fj (S : List Nat) (h h' : Zh) : Prop := h'.1 = h.1 ∧ zK h' = zK h ∧ zL h' = zL h ∧ zR h' = zR h ∧ ∀ a, a ∉ S → zI h' a = zI h a ∧ zJ h' a = zJ h a
theorem Fm.j {S : List Nat} {h h' : Zh} (p : Fm S h h') : Fj S h h' := ⟨p.1, p.2.1, p.2.2.1, p.2.2.2.2.1, fun a ha => ⟨p.I ha, by rw [p.J]⟩⟩
theorem Fj.rf {S : List Nat} {h : Zh} : Fj S h h := Fm.rf.j
theorem Fj.tr {S : List Nat} {a b c : Zh} (p : Fj S a b) (q : Fj S b c) : Fj S a c := ⟨q.1.trans p.1, q.2.1.trans p.2.1, q.2.2.1.trans p.2.2.1, q.2.2.2.1.trans p.2.2.2.1, fun x hx => ⟨(q.2.2.2.2 x hx).1.trans (p.2.2.2.2 x hx).1, (q.2.2.2.2 x hx).2.trans (p.2.2.2.2 x hx).2⟩⟩
theorem Fj.mono {S T : List Nat} {a b : Zh} (p : Fj S a b) (hs : ∀ x, x ∈ S → x ∈ T) : Fj T a b := ⟨p.1, p.2.1, p.2.2.1, p.2.2.2.1, fun x hx => p.2.2.2.2 x (fun m => hx (hs x m))⟩
theorem Fj.I {S : List Nat} {a b : Zh} (p : Fj S a b) {x : Nat} (hx : x ∉ S) : zI b x = zI a x := (p.2.2.2.2 x hx).1
theorem Fj.R {S : List Nat} {a b : Zh} (p : Fj S a b) : zR b = zR a := p.2.2.2.1
theorem Fj.K {S : List Nat} {a b : Zh} (p : Fj S a b) : zK b = zK a := p.2.1
theorem Fj.L {S : List Nat} {a b : Zh} (p : Fj S a b) : zL b = zL a := p.2.2.1
theorem Fj.N {S : List Nat} {a b : Zh} (p : Fj S a b) : zN b = zN a := by unfold zN; rw [p.1]
theorem Fj.S {S : List Nat} {a b : Zh} (p : Fj S a b) : zS b = zS a := by unfold zS; rw [p.1]
theorem Fj.c {S : List Nat} {a b : Zh} (p : Fj S a b) : Fc (fun i => i ∈ S) a b := ⟨by rw [p.N]; exact Nat.le_refl _, fun i _ => by rw [p.K, p.L]; exact ⟨rfl, rfl⟩, fun i _ ha => ⟨p.I ha, (p.2.2.2.2 i ha).2, by rw [p.R]⟩⟩
theorem Fj_sJ {S : List Nat} (h : Zh) {a : Nat} (k : Nat) (v : Int64) (ha : a ∈ S) : Fj S h (zsJ h a k v) := ⟨rfl, rfl, rfl, rfl, fun x hx => ⟨rfl, by rw [zJ_sJ]; exact z2_row _ _ _ (fun e => hx (e ▸ ha))⟩⟩
theorem St.fj {S : List Nat} {h h' : Zh} (s : St h) (f : Fj S h h') : St h' := ⟨by rw [f.N]; exact s.1, by rw [f.K]; exact s.2.1, by rw [f.L]; exact s.2.2.1, by rw [f.R]; exact s.2.2.2⟩
theorem TxM.fj {S : List Nat} {h h' : Zh} {tx : Nat → Int} {n : Nat} (q : TxM h tx n) (f : Fj S h h') (h7 : zI h' 76 7 = zI h 76 7) (h1 : 77 ∉ S) : TxM h' tx n := by
  obtain ⟨a, b, d⟩ := q
  exact ⟨a, by rw [h7]; exact b, by rw [f.I h1]; exact d⟩
theorem rnl_in {lo hi : Int} {tx : Nat → Int} {n s k : Nat} (hk : k < rnl lo hi tx n s) : s + k < n ∧ lo ≤ tx (s + k) ∧ tx (s + k) ≤ hi := by
  have hle := zfst_le (fun j => !(decide (lo ≤ tx (s + j)) && decide (tx (s + j) ≤ hi))) (n - s)
  have hb := zfst_before (P := fun j => !(decide (lo ≤ tx (s + j)) && decide (tx (s + j) ≤ hi))) (n := n - s) (i := k) hk
  have hb' : (decide (lo ≤ tx (s + k)) && decide (tx (s + k) ≤ hi)) = true := by
    cases q : (decide (lo ≤ tx (s + k)) && decide (tx (s + k) ≤ hi))
    · rw [q] at hb; cases hb
    · rfl
  rw [Bool.and_eq_true_iff] at hb'
  have hk2 : k < zfst (fun j => !(decide (lo ≤ tx (s + j)) && decide (tx (s + j) ≤ hi))) (n - s) := hk
  exact ⟨by omega, of_decide_eq_true hb'.1, of_decide_eq_true hb'.2⟩
theorem rnl_end {lo hi : Int} {tx : Nat → Int} {n s : Nat} (h : s + rnl lo hi tx n s < n) : ¬ (lo ≤ tx (s + rnl lo hi tx n s) ∧ tx (s + rnl lo hi tx n s) ≤ hi) := by
  have ha := zfst_at (P := fun j => !(decide (lo ≤ tx (s + j)) && decide (tx (s + j) ≤ hi))) (n := n - s) (by unfold rnl at h; omega)
  intro z
  unfold rnl at z
  rw [decide_eq_true z.1, decide_eq_true z.2] at ha
  cases ha
theorem go_89 {g h0 : Zh} {tx : Nat → Int} {n s : Nat} (s0 : St h0) (tm : TxM h0 tx n) (hs : s ≤ n) (h8 : zI h0 76 8 = iI s) (h15 : zJ h0 76 15 = jI 0) : ∃ h', lp (fun q : Int32 × Zh => bX12_goesOn_89 g 76 q.1 q.2) zB (iI 0, h0) = some (1, (iI (rnl 97 122 tx n s), h')) ∧ Fj [76] h0 h' ∧ (∀ j, j ≠ 8 → zI h' 76 j = zI h0 76 j) ∧ zI h' 76 8 = iI ((s + rnl 97 122 tx n s : Nat) : Int) ∧ zJ h' 76 15 = jI (wen tx s (min (rnl 97 122 tx n s) 8)) := by
  have hrb := rnl_b 97 122 tx hs
  have hn := tm.1
  have := lp_cnt (body := fun q : Int32 × Zh => bX12_goesOn_89 g 76 q.1 q.2) (rnl 97 122 tx n s) (fun k z => ∃ h, z = ((iI (k : Int), h) : Int32 × Zh) ∧ Fj [76] h0 h ∧ (∀ j, j ≠ 8 → zI h 76 j = zI h0 76 j) ∧ zI h 76 8 = iI ((s + k : Nat) : Int) ∧ zJ h 76 15 = jI (wen tx s (min k 8))) (fun e z => e = 1 ∧ z.1 = iI (rnl 97 122 tx n s) ∧ Fj [76] h0 z.2 ∧ (∀ j, j ≠ 8 → zI z.2 76 j = zI h0 76 j) ∧ zI z.2 76 8 = iI ((s + rnl 97 122 tx n s : Nat) : Int) ∧ zJ z.2 76 15 = jI (wen tx s (min (rnl 97 122 tx n s) 8))) ?_ ?_ (by omega) (s := (iI 0, h0)) ⟨h0, rfl, Fj.rf, fun _ _ => rfl, h8, h15⟩
  · obtain ⟨e, z, l1, l2, l3, l4⟩ := this
    obtain ⟨z1, z2⟩ := z
    have e0 : e = 0 := by omega
    subst e0
    have l3' : z1 = iI (rnl 97 122 tx n s) := l3
    rw [l3'] at l1
    exact ⟨z2, l1, l4⟩
  · intro k z hk ⟨h, ez, fm, k1, k2, k3⟩
    subst ez
    have s1 := s0.fj fm
    have tm1 := tm.fj fm (k1 7 (by decide)) (by simp)
    obtain ⟨c0, c1, c2⟩ := rnl_in hk
    have tb := tm.2.2 _ c0
    have e1 := byteAt_m (k := s + k) s1 tm1 (by omega)
    have hub := ub_b tb.2.1 tb.2.2
    have hby : byt tx n (s + k) = tx (s + k) := by unfold byt; rw [if_pos c0]; omega
    rw [hby] at e1
    have e2 := isLetter_m (h := h) (c := tx (s + k)) (by omega)
    have hl : ltr (tx (s + k)) = true := by unfold ltr; rw [decide_eq_true c1, decide_eq_true c2]; rfl
    rw [hl] at e2
    have e2' : fX12_isLetter (iI (tx (s + k))) h = some (iI 1, h) := e2
    have ee : ((s + k : Nat) : Int) + 1 = ((s + (k + 1) : Nat) : Int) := by omega
    show (∃ s', bX12_goesOn_89 g 76 (iI k) h = some (0, s') ∧ _) ∨ (∃ e s', bX12_goesOn_89 g 76 (iI k) h = some (e + 1, s') ∧ _)
    by_cases c : k < 8
    · have hw : wen tx s (min (k + 1) 8) = 32 * wen tx s (min k 8) + (tx (s + k) - 97 + 1) := by
        rw [Nat.min_eq_left (by omega), Nat.min_eq_left (by omega), wen]
      have hlg : (iI (tx (s + k) - 97 + 1)).toInt64 = jI (tx (s + k) - 97 + 1) := iI_long ⟨by omega, by omega⟩
      have hj32 : ((32 : Int64)) * jI (wen tx s (min k 8)) + jI (tx (s + k) - 97 + 1) = jI (wen tx s (min (k + 1) 8)) := by
        rw [show (32 : Int64) = jI 32 from rfl, jI_mul, jI_add, hw]
      refine Or.inl ⟨(iI ((k + 1 : Nat) : Int), zsI (zsJ h 76 15 (jI (wen tx s (min (k + 1) 8)))) 76 8 (iI ((s + (k + 1) : Nat) : Int))), ?_, _, rfl, (fm.tr (Fj_sJ _ _ _ (by simp))).tr (Fm_sI _ _ _ (by simp)).j, fun j hj => by rw [zI_sI, z2_k _ _ _ hj, zI_sJ]; exact k1 j hj, by rw [zI_sI, z2_at], by rw [zJ_sI, zJ_sJ, z2_at]⟩
      generalize wen tx s (min (k + 1) 8) = w2 at *
      generalize wen tx s (min k 8) = w at *
      generalize tx (s + k) = y at *
      unfold bX12_goesOn_89
      simp (maxSteps := 1000000) (disch := (first | assumption | exact ne_b rfl | omega)) only [↓reduceIte, ↓zlet_eq, ↓bdR_sI, ↓bdR_sJ, ↓bdR_aI, zc2_some, Option.bind_some, ↓si_m1, ↓si_m2, ↓si_m3, iI_lit, iI_add, iI_sub, iI_mul, leT, leF, ltT, ltF, eqT, eqF, zinT, clI, Int.toNat_natCast, Int.reduceToNat, tN1, tNa, tN0, tNm, if_pos, if_neg, zI_sI, zI_sJ, zI_sR, zJ_sI, zJ_sJ, zJ_sR, zR_sI, zR_sJ, zR_sR, zK_sI, zK_sJ, zK_sR, zL_sI, zL_sJ, zL_sR, zI_aI, zJ_aI, zR_aI, zK_aI, zL_aI, z2_at, z2_a, z2_k, z1_self, z1_ne, true_and, and_true, bIt, bIf, Bool.false_eq_true, Bool.true_eq_false, eq_self, not_true_eq_false, not_false_eq_true, k2, ↓zc_of e1, ↓zc_of e2', k3, hlg, hj32, ee]
      all_goals rfl
    · have hw : wen tx s (min (k + 1) 8) = wen tx s (min k 8) := by
        rw [Nat.min_eq_right (by omega), Nat.min_eq_right (by omega)]
      refine Or.inl ⟨(iI ((k + 1 : Nat) : Int), zsI h 76 8 (iI ((s + (k + 1) : Nat) : Int))), ?_, _, rfl, fm.tr (Fm_sI _ _ _ (by simp)).j, fun j hj => by rw [zI_sI, z2_k _ _ _ hj]; exact k1 j hj, by rw [zI_sI, z2_at], by rw [zJ_sI, hw]; exact k3⟩
      unfold bX12_goesOn_89
      simp (maxSteps := 1000000) (disch := (first | assumption | exact ne_b rfl | omega)) only [↓reduceIte, ↓zlet_eq, ↓bdR_sI, ↓bdR_sJ, ↓bdR_aI, zc2_some, Option.bind_some, ↓si_m1, ↓si_m2, ↓si_m3, iI_lit, iI_add, iI_sub, iI_mul, leT, leF, ltT, ltF, eqT, eqF, zinT, clI, Int.toNat_natCast, Int.reduceToNat, tN1, tNa, tN0, tNm, if_pos, if_neg, zI_sI, zI_sJ, zI_sR, zJ_sI, zJ_sJ, zJ_sR, zR_sI, zR_sJ, zR_sR, zK_sI, zK_sJ, zK_sR, zL_sI, zL_sJ, zL_sR, zI_aI, zJ_aI, zR_aI, zK_aI, zL_aI, z2_at, z2_a, z2_k, z1_self, z1_ne, true_and, and_true, bIt, bIf, Bool.false_eq_true, Bool.true_eq_false, eq_self, not_true_eq_false, not_false_eq_true, k2, ↓zc_of e1, ↓zc_of e2', ee]
      all_goals rfl
  · intro z ⟨h, ez, fm, k1, k2, k3⟩
    subst ez
    have s1 := s0.fj fm
    have tm1 := tm.fj fm (k1 7 (by decide)) (by simp)
    refine ⟨0, (iI (rnl 97 122 tx n s), h), ?_, rfl, rfl, fm, k1, k2, k3⟩
    show bX12_goesOn_89 g 76 (iI (rnl 97 122 tx n s)) h = _
    have e1 := byteAt_m (k := s + rnl 97 122 tx n s) s1 tm1 (by omega)
    have hbb := byt_b (k := s + rnl 97 122 tx n s) tm1
    have hl : ltr (byt tx n (s + rnl 97 122 tx n s)) = false := by
      unfold byt
      by_cases c : s + rnl 97 122 tx n s < n
      · rw [if_pos c, ltr_ub (tm.2.2 _ c).2.1 (tm.2.2 _ c).2.2]
        have := rnl_end c
        unfold ltr
        by_cases q : 97 ≤ tx (s + rnl 97 122 tx n s)
        · rw [decide_eq_false (fun z => this ⟨q, z⟩), Bool.and_false]
        · rw [decide_eq_false q, Bool.false_and]
      · rw [if_neg c]; rfl
    have e2 := isLetter_m (h := h) hbb
    rw [hl] at e2
    have e2' : fX12_isLetter (iI (byt tx n (s + rnl 97 122 tx n s))) h = some (iI 0, h) := e2
    generalize byt tx n (s + rnl 97 122 tx n s) = w at *
    unfold bX12_goesOn_89
    simp (maxSteps := 1000000) (disch := (first | assumption | exact ne_b rfl | omega)) only [↓reduceIte, ↓zlet_eq, ↓bdR_sI, ↓bdR_sJ, ↓bdR_aI, zc2_some, Option.bind_some, ↓si_m1, ↓si_m2, ↓si_m3, iI_lit, iI_add, iI_sub, iI_mul, leT, leF, ltT, ltF, eqT, eqF, zinT, clI, Int.toNat_natCast, Int.reduceToNat, tN1, tNa, tN0, tNm, if_pos, if_neg, zI_sI, zI_sJ, zI_sR, zJ_sI, zJ_sJ, zJ_sR, zR_sI, zR_sJ, zR_sR, zK_sI, zK_sJ, zK_sR, zL_sI, zL_sJ, zL_sR, zI_aI, zJ_aI, zR_aI, zK_aI, zL_aI, z2_at, z2_a, z2_k, z1_self, z1_ne, true_and, and_true, bIt, bIf, Bool.false_eq_true, Bool.true_eq_false, eq_self, not_true_eq_false, not_false_eq_true, k2, ↓zc_of e1, ↓zc_of e2']
