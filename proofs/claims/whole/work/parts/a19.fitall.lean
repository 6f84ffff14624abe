/-! how many rows fit any hand; how many are paired -/
theorem fitA_count {t : Tk} (tok : Tok t) : cnS (fitA t) (tR t) = rwsC t := by
  obtain ⟨bn4, bn12, bu1, bu4, bnu, bk2, bk5, bkn, bp1, bp2, bpk, bH, bsp, bs1, bs4, bT1, bT16, bR1, bR2, bH1, bff, bff1⟩ := tok.b
  cases e : thd t
  · rw [show rwsC t = tR t by unfold rwsC tR; rw [e]; rfl]
    refine cnS_full (fun r hr => ?_)
    have hq : r / tT t < ff (tn t) (tsh t) := Nat.div_lt_of_lt_mul (by rw [Nat.mul_comm]; exact hr)
    obtain ⟨u1, u2⟩ := unp_ok (n := tn t) (sh := tsh t) (q := r / tT t) (by omega)
    exact fitA_ex tok u1 u2 (fun h => by rw [e] at h; cases h) (row_unp _ (by omega) hq).symm
  · rw [show rwsC t = hnd (tn t) (tsh t) true * tT t by unfold rwsC; rw [e]; rfl]
    have hst := thd_st tok e
    have hao : (!anyO t) = true := by unfold anyO; rw [hst, e]; rfl
    have hph := pch_h (tn t) (by omega) (tsh t) (by omega) (by omega)
    have hT : 0 < tT t := by omega
    have hdv : ∀ v, v < hnd (tn t) (tsh t) true * tT t → v / tT t < hnd (tn t) (tsh t) true := fun v hv => Nat.div_lt_of_lt_mul (by rw [Nat.mul_comm]; exact hv)
    have hvl : ∀ i, i < hnd (tn t) (tsh t) true → vld (tn t) (tsh t) true (hcd (tn t) (tsh t) true i) := fun i hi => hcd_vld bn12 bs1 (by omega) (by omega) (by omega) hi
    have e0 : cnS (fun _ => true) (hnd (tn t) (tsh t) true * tT t) = hnd (tn t) (tsh t) true * tT t := cnS_full (fun _ _ => rfl)
    have key : ∀ r, fitA t r = true → ∃ v, v < hnd (tn t) (tsh t) true * tT t ∧ rowN (tn t) (hcd (tn t) (tsh t) true (v / tT t)) (tsh t) * tT t + v % tT t = r := by
      intro r hr
      obtain ⟨x, hx, hf⟩ := fitA_iff.mp hr
      obtain ⟨p, p1, p2⟩ := fitD_iff.mp hf
      have hri := hc_ris tok e hx p1
      obtain ⟨a1, a2⟩ := pos_ok tok hx p1
      obtain ⟨i, i1, i2⟩ := hcd_ex (n := tn t) (k := tsh t) (rs := true) bn12 bs1 (by omega) (by omega) (by omega) (w := fun i => hc t x (p i)) ⟨a2, fun j hj i hi => by rw [if_pos rfl]; exact hri j hj i hi⟩
      have hm := Nat.mod_lt r hT
      refine ⟨i * tT t + r % tT t, at_lt i1 hm, ?_⟩
      rw [row_div hT hm, rowN_congr _ i2, ← p2, Nat.mul_comm i, Nat.mul_add_mod, Nat.mod_mod]
      exact Nat.div_add_mod' r (tT t)
    refine Nat.le_antisymm ?_ ?_
    · rw [← e0]
      refine cnS_inj (f := fun r => if h : ∃ v, v < hnd (tn t) (tsh t) true * tT t ∧ rowN (tn t) (hcd (tn t) (tsh t) true (v / tT t)) (tsh t) * tT t + v % tT t = r then Classical.choose h else 0) (fun r hr hq => ⟨?_, rfl⟩) (fun r r' hrr hr' h1 h2 q => ?_)
      · show dite _ _ _ < _
        rw [dif_pos (key r hq)]
        exact (Classical.choose_spec (key r hq)).1
      · rw [dif_pos (key r h1), dif_pos (key r' h2)] at q
        have a := (Classical.choose_spec (key r h1)).2
        have b := (Classical.choose_spec (key r' h2)).2
        rw [q, b] at a
        omega
    · rw [← e0]
      refine cnS_inj (f := fun v => rowN (tn t) (hcd (tn t) (tsh t) true (v / tT t)) (tsh t) * tT t + v % tT t) (fun v hv _ => ?_) (fun v u hvu hu _ _ q => ?_)
      · have h1 := hvl _ (hdv v hv)
        have h2 := rowN_lt (tsh t) h1.dst h1.1
        have hm := Nat.mod_lt v hT
        refine ⟨at_lt h2 hm, fitA_ex tok h1.dst h1.1 (fun _ j hj i hi => ?_) (row_div hT hm)⟩
        have := h1.2 j hj i hi
        rw [if_pos rfl] at this
        exact this
      · have mv := Nat.mod_lt v hT
        have mu := Nat.mod_lt u hT
        have dv := hdv v (by omega)
        have du := hdv u hu
        have q' : rowN (tn t) (hcd (tn t) (tsh t) true (v / tT t)) (tsh t) * tT t + v % tT t = rowN (tn t) (hcd (tn t) (tsh t) true (u / tT t)) (tsh t) * tT t + u % tT t := q
        have q1 : rowN (tn t) (hcd (tn t) (tsh t) true (v / tT t)) (tsh t) = rowN (tn t) (hcd (tn t) (tsh t) true (u / tT t)) (tsh t) := by
          have a := row_div (a := rowN (tn t) (hcd (tn t) (tsh t) true (v / tT t)) (tsh t)) hT mv
          rw [q', row_div hT mu] at a
          exact a.symm
        have q2 : v % tT t = u % tT t := by rw [q1] at q'; omega
        have h1 := hvl _ dv
        have h2 := hvl _ du
        have q3 := rowN_inj h1.dst h1.1 h2.dst h2.1 q1
        have r1 := hcd_rnk (n := tn t) (k := tsh t) (rs := true) bn12 bs1 (by omega) (by omega) (by omega) dv
        have r2 := hcd_rnk (n := tn t) (k := tsh t) (rs := true) bn12 bs1 (by omega) (by omega) (by omega) du
        rw [rnk_congr q3, r2] at r1
        have q4 : v / tT t = u / tT t := by omega
        have d1 := Nat.div_add_mod' v (tT t)
        have d2 := Nat.div_add_mod' u (tT t)
        rw [q4, q2, d2] at d1
        omega
theorem PNx.min {h : Zh} {t : Tk} {k : Nat} (tok : Tok t) (p : PNx h t (tH t) k) : k = min (tH t) (rwsC t) := by
  obtain ⟨bn4, bn12, bu1, bu4, bnu, bk2, bk5, bkn, bp1, bp2, bpk, bH, bsp, bs1, bs4, bT1, bT16, bR1, bR2, bH1, bff, bff1⟩ := tok.b
  obtain ⟨pr, ow, f, c, D, a1, a2, a3, a4, a5, a6, a7, a8, a9, a10⟩ := p
  have hpc := pcn_b tok
  have h0 : 0 < pcn t * tT t := Nat.mul_pos (by omega) (by omega)
  have f0 : fitP t 0 (rwA t 0 0) := (crC_fit tok bH1 _).mp (rwA_fit tok h0)
  rw [a10, ← fitA_count tok]
  refine reg_min (e := fun x r => fitD t x r) (a := pcn t * tT t) (b := cnS (fun x => fitD t x (rwA t 0 0)) (tH t)) (D := D) h0 (fun x hx => deg_hand tok hx) (fun r hr hx => ?_) (fun x r hx hp => ?_) (fun x y r hx hy h1 h2 => ?_) (fun x r hx hDx hr he => ?_) a7 (fun r hr => fitA_iff)
  · obtain ⟨x, hx, hf⟩ := hx
    exact Nat.le_antisymm (deg_le tok hx bH1 (fitD_iff.mp hf) f0) (deg_le tok bH1 hx f0 (fitD_iff.mp hf))
  · have h1 := (crC_fit tok hx r).mp (a2.1 x r hx hp).1
    exact ⟨fitP_lt tok hx h1, fitD_iff.mpr h1⟩
  · have e1 := (a2.1 x r hx h1).2
    have e2 := (a2.1 y r hy h2).2
    rw [e1] at e2
    exact Option.some.inj e2
  · obtain ⟨y, y1, y2⟩ := (a4 x hDx).2.2 r ((crC_fit tok hx r).mpr (fitD_iff.mp he))
    have := a2.2 r y y1
    rcases y2 with c | c
    · omega
    · exact ⟨y, this.1, c, this.2⟩
