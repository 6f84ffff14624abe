/-! the model's pairing: one hand's search -/
def Dn (h : Zh) (t : Tk) (D : Nat → Bool) : Prop := ∀ y, y < tH t → zI h 91 y = iI (bI (D y))
theorem fX12_goesOnFrom_eq {t : Tk} {tr ex s st c : Nat} {bt : Int} {D : Nat → Bool} {pr ow : Nat → Option Nat} {f : Nat → Option Int} {h : Zh} (tok : Tok t) (hH : tH t ≤ 2000) (mx : MX h t tr) (hb1 : -1 ≤ bt) (hb2 : bt < 2147483648) (hbt : ∀ r : Nat, (r : Int) = bt → ow r = some st) (hs : s ≤ 2000) (cn : Cns (tH t) (fcr t (crC t)) pr ow) (pm : PM h t pr ow f c ex) (hD : Dn h t D) (cl : Cls (tH t) s (fcr t (crC t)) ow (fun y => D y = true)) (hst : st < tH t) (hst2 : s ≤ st) (hst3 : D st = false) (hst4 : st ≠ ex) (hex : pr ex = none) (hcc : c + 1 < 32768) : ∃ v h', fX12_goesOnFrom 76 (iI st) (iI s) (iI bt) h = some (iI (bI v), h') ∧ Fm [76, 80, 82, 86, 87, 88, 89, 90, 91] h h' ∧ (∀ j, j ≠ 22 → zI h' 76 j = zI h 76 j) ∧ (v = true → Dn h' t D ∧ ∃ pr' ow' f' c', PM h' t pr' ow' f' c' ex ∧ c' ≤ c + 1 ∧ (pr st = none → Cns (tH t) (fcr t (crC t)) pr' ow') ∧ (∀ z, pr st = some z → CnX (tH t) (fcr t (crC t)) pr' ow' z) ∧ (∀ y, y < s → pr' y = pr y) ∧ (∀ y, D y = true → pr' y = pr y) ∧ (∀ y, y ≠ st → (pr' y).isSome = (pr y).isSome) ∧ (pr' st).isSome = true) ∧ (v = false → PM h' t pr ow f c ex ∧ ∃ D' : Nat → Bool, Cls (tH t) s (fcr t (crC t)) ow (fun y => D' y = true) ∧ D' st = true ∧ (∀ y, D y = true → D' y = true) ∧ (∀ y, D' y = true → D y = true ∨ y = st ∨ (pr y).isSome = true) ∧ (s = 0 → Dn h' t D') ∧ (s ≠ 0 → Dn h' t D) ∧ zI h' 88 = zI h 88) := by
  obtain ⟨bn4, bn12, bu1, bu4, bnu, bk2, bk5, bkn, bp1, bp2, bpk, bH, bsp, bs1, bs4, bT1, bT16, bR1, bR2, bH1, bff, bff1⟩ := tok.b
  have hcr := crC_lt tok
  have m9a : ∀ x, x ∈ [89, 90] → x ∈ [76, 80, 82, 86, 87, 88, 89, 90, 91] := by simp
  have m9b : ∀ x, x ∈ [76, 80, 82, 89, 90] → x ∈ [76, 80, 82, 86, 87, 88, 89, 90, 91] := by simp
  have m9c : ∀ x, x ∈ [86, 87, 88] → x ∈ [76, 80, 82, 86, 87, 88, 89, 90, 91] := by simp
  have m9d : ∀ x, x ∈ [91] → x ∈ [76, 80, 82, 86, 87, 88, 89, 90, 91] := by simp
  have mx2 : ∀ x, x ∈ [89, 90] → x < 101 ∧ x ≠ 78 ∧ x ≠ 83 := by simp
  have s0 := mx.1
  have h17 : zI h 76 17 = iI (tH t) := mx.2.2.2.2.1.1
  have i0 := goes_init (D := D) s0 h17 hH hD
  -- the start
  have eb : ∃ B : Nat → Int32, B = afill (tH t) (fun j => iI (if D j = true then -1 else -2)) (zI h 90) := ⟨_, rfl⟩
  obtain ⟨B, eB⟩ := eb
  rw [← eB] at i0
  have fmB : Fm [89, 90] h (zaI h 90 B) := Fm_aI _ _ (by simp)
  have fm0 : Fm [89, 90] h (zsI (zsI (zaI h 90 B) 89 0 (iI st)) 90 st (iI (-1))) := (fmB.tr (Fm_sI _ _ _ (by simp))).tr (Fm_sI _ _ _ (by simp))
  have sm0 : SM_ (zsI (zsI (zaI h 90 B) 89 0 (iI st)) 90 st (iI (-1))) t (fcr t (crC t)) pr s st (fun y => D y = true) 1 (fun _ => st) (fun _ => 0) := by
    refine ⟨⟨Nat.le_refl _, rfl, fun a b h1 h2 => by omega, fun j h1 h2 => by omega⟩, fun j hj => ⟨hst, hst2, by show ¬ D st = true; rw [hst3]; decide⟩, fun j hj => ?_, by rw [zI_sI, z2_at], fun j h1 h2 => by omega, fun y hy hm => ?_, fun y hy hm => ?_⟩
    · have : j = 0 := by omega
      rw [this, zI_sI, z2_a _ _ _ _ (by decide), zI_sI, z2_at]
    · have c1 : y ≠ st := fun e => hm (Or.inr ⟨0, by omega, e.symm⟩)
      have c2 : ¬ D y = true := fun e => hm (Or.inl e)
      rw [zI_sI, z2_k _ _ _ c1, zI_sI, z2_a _ _ _ _ (by decide), zI_aI, z1_self, eB, afill_lt hy, if_neg c2]
    · have c1 : y ≠ st := fun e => by rw [e, hst3] at hm; cases hm
      rw [zI_sI, z2_k _ _ _ c1, zI_sI, z2_a _ _ _ _ (by decide), zI_aI, z1_self, eB, afill_lt hy, if_pos hm]
  have mx1 := mx.fm fm0 (fun j _ => by rw [fm0.I (by simp)]) mx2
  have pm1 := pm.fm fm0 (by simp) (by simp) (by simp)
  obtain ⟨e, n, h1, qu, cf, y1, y2, y3, y4, l1, l2, l3, l4, l5⟩ := goes_out (g := h) tok hH s0 mx1 hb1 hb2 hbt hs cn pm1 sm0
  have hrun : fX12_goesOnFrom 76 (iI st) (iI s) (iI bt) h = kX12_goesOnFrom_61 h 76 (iI s) (e + 1) y1 y2 y3 y4 h1 := by
    unfold fX12_goesOnFrom
    rw [zlet_eq]
    refine (lp_bd i0).trans ?_
    show kX12_goesOnFrom_3 h 76 (iI st) (iI s) (iI bt) 1 (iI (tH t)) (zaI h 90 B) = _
    unfold kX12_goesOnFrom_3
    have l1' : lp (fun q : Int32 × Int32 × Int32 × Int32 × Zh => bX12_goesOnFrom_61 h 76 (iI s) (iI bt) q.1 q.2.1 q.2.2.1 q.2.2.2.1 q.2.2.2.2) zB (iI 1, iI 0, iI 0, iI 0, zsI (zsI (zaI h 90 B) 89 0 (iI st)) 90 st (iI (-1))) = some (e + 1, y1, y2, y3, y4, h1) := l1
    have sB := s0.fm fmB
    clear l5 l4 pm1 pm cl cn sm0 mx1 mx hD hbt l1 i0
    simp (maxSteps := 1000000) (disch := (first | assumption | exact ne_b rfl | omega)) only [↓reduceIte, ↓zlet_eq, ↓bdR_sI, ↓bdR_sJ, ↓bdR_aI, zc2_some, Option.bind_some, ↓si_m1, ↓si_m2, ↓si_m3, iI_lit, iI_add, iI_sub, iI_mul, leT, leF, ltT, ltF, eqT, eqF, zinT, clI, Int.toNat_natCast, Int.reduceToNat, tN1, tNa, tN0, tNm, if_pos, if_neg, zI_sI, zI_sJ, zI_sR, zJ_sI, zJ_sJ, zJ_sR, zR_sI, zR_sJ, zR_sR, zK_sI, zK_sJ, zK_sR, zL_sI, zL_sJ, zL_sR, zI_aI, zJ_aI, zR_aI, zK_aI, zL_aI, z2_at, z2_a, z2_k, z1_self, z1_ne, true_and, and_true, bIt, bIf, Bool.false_eq_true, Bool.true_eq_false, eq_self, not_true_eq_false, not_false_eq_true, sK76, sK77, sK78, sK79, sK80, sK81, sK82, sK83, sK84, sK85, sK86, sK87, sK88, sK89, sK90, sK91, sK92, sK93, sK94, sK95, sK96, sK97, sK98, sK99, sK100, sL77, sL78, sL79, sL80, sL81, sL82, sL83, sL84, sL85, sL86, sL87, sL88, sL89, sL90, sL91, sL92, sL93, sL94, sL95, sL96, sL97, sL98, sL99, sL100, sR76_5, sR76_16, sR76_18, sR76_19, sR76_20, sR76_21, sR76_23, sR76_25, sR76_26, sR76_27, sR76_28, sR76_29, sR76_30, sR76_31, sR76_32, sR76_33, sR76_34, sR76_37, sR76_38, sR76_39, sR76_40, sR76_41, sR76_42, ↓sB76_5, ↓sB76_16, ↓sB76_18, ↓sB76_19, ↓sB76_20, ↓sB76_21, ↓sB76_23, ↓sB76_25, ↓sB76_26, ↓sB76_27, ↓sB76_28, ↓sB76_29, ↓sB76_30, ↓sB76_31, ↓sB76_32, ↓sB76_33, ↓sB76_34, ↓sB76_37, ↓sB76_38, ↓sB76_39, ↓sB76_40, ↓sB76_41, ↓sB76_42]
    exact lp_bd l1'
  have hnH : n ≤ tH t := holes (tH t) n qu (fun j hj => (l4.2.1 j hj).1) l4.1.2.2.1
  have k1 : ∀ j, j ≠ 22 → zI h1 76 j = zI h 76 j := fun j hj => by rw [l3 j hj, fm0.I (by simp)]
  have fm1 : Fm [76, 80, 82, 86, 87, 88, 89, 90, 91] h h1 := (fm0.mono m9a).tr (l2.mono m9b)
  have e88 : zI h1 88 = zI h 88 := by rw [l2.I (by simp), fm0.I (by simp)]
  have d1 : Dn h1 t D := by
    unfold Dn
    rw [l2.I (by simp), fm0.I (by simp)]
    exact hD
  have s1 : St h1 := s0.fm fm1
  have pm2 := pm1.fm l2 (by simp) (by simp) (by simp)
  rcases l5 with ⟨e0, q, r, q1, q2, q3, q4, q5⟩ | ⟨e1, l6, l7⟩
  · subst e0
    subst q2
    subst q3
    have hne : ∀ j, j < n → qu j < tH t ∧ qu j ≠ ex := fun j hj => ⟨(l4.2.1 j hj).1, fun z => by
      by_cases c : j = 0
      · rw [c, l4.1.2.1] at z; exact hst4 z
      · obtain ⟨k, -, -, r', k3, -⟩ := l4.1.2.2.2 j (by omega) hj
        rw [z, hex] at k3
        cases k3⟩
    have hFb : ∀ x r, x < tH t → fcr t (crC t) x r → r < 2147483648 := fun x r hx hf => by
      have := fcr_lt hcr tok hx hf
      omega
    obtain ⟨b, h2, pr', ow', f', c', r1, r2, r3, rc, r4, r5, r6, r7, r8⟩ := takes_run (g := h1) (ex := ex) (st := st) (n := n) (qu := qu) (cf := cf) s1 hH hFb l4.1.2.1 l4.1.2.2.1 hne q pr ow f r c zB h1 q1 (by show q + 1 < 2 ^ 62; omega) s1 (fun i hi1 hi2 => l4.1.2.2.2 i hi1 (by omega)) (cn.x q5) q4 pm2 (Or.inr hcc) l4.2.2.2.1 l4.2.2.2.2.1
    refine ⟨true, h2, ?_, fm1.tr (r2.mono m9c), fun j hj => by rw [r2.I (by simp), k1 j hj], fun _ => ⟨?_, pr', ow', f', c', r3, ?_, r4, r5, fun y hy => r6 y (fun i hi z => ?_), fun y hy => r6 y (fun i hi z => (l4.2.1 i (by omega)).2.2 (by rw [← z]; exact hy)), r7, r8⟩, fun z => by cases z⟩
    · rw [hrun]
      unfold kX12_goesOnFrom_61
      have hh : fX12_takes 76 (iI (qu q)) (iI r) h1 = some h2 := by
        unfold fX12_takes
        rw [zlet_eq]
        exact (lp_bd r1).trans rfl
      rw [if_pos rfl, bd_of hh]
      rfl
    · unfold Dn
      rw [r2.I (by simp)]
      exact d1
    · rw [rc]
      split <;> omega
    · have := (l4.2.1 i (by omega)).2.1
      omega
  · subst e1
    subst l6
    have hDm : ∃ D' : Nat → Bool, ∀ y, D' y = true ↔ mkd (fun y => D y = true) qu n y := ⟨fun y => @decide (mkd (fun y => D y = true) qu n y) (Classical.propDecidable _), fun y => @decide_eq_true_iff _ (Classical.propDecidable _)⟩
    obtain ⟨D', hD'⟩ := hDm
    have hcl : Cls (tH t) s (fcr t (crC t)) ow (fun y => D' y = true) := by
      intro x hx
      rcases (hD' x).mp hx with hx | ⟨j, j1, j2⟩
      · obtain ⟨c1, c2, c3⟩ := cl x hx
        exact ⟨c1, c2, fun r hr => by
          obtain ⟨y, y1, y2⟩ := c3 r hr
          exact ⟨y, y1, y2.imp id (fun z => (hD' y).mpr (Or.inl z))⟩⟩
      · have := l4.2.1 j j1
        rw [j2] at this
        exact ⟨this.1, this.2.1, fun r hr => by
          obtain ⟨y, y1, y2⟩ := l7 j j1 r (by rw [j2]; exact hr)
          exact ⟨y, y1, y2.imp id (fun z => (hD' y).mpr z)⟩⟩
    have hDst : D' st = true := (hD' st).mpr (Or.inr ⟨0, l4.1.1, l4.1.2.1⟩)
    have hDmon : ∀ y, D y = true → D' y = true := fun y hy => (hD' y).mpr (Or.inl hy)
    have hDin : ∀ y, D' y = true → D y = true ∨ y = st ∨ (pr y).isSome = true := fun y hy => by
      rcases (hD' y).mp hy with z | ⟨j, j1, j2⟩
      · exact Or.inl z
      · by_cases c0 : j = 0
        · exact Or.inr (Or.inl (by rw [← j2, c0]; exact l4.1.2.1))
        · obtain ⟨k, -, -, r', k3, -⟩ := l4.1.2.2.2 j (by omega) j1
          exact Or.inr (Or.inr (by rw [← j2, k3]; rfl))
    have hk : ∀ z h2, lp (fun q : Int32 × Zh => bX12_goesOnFrom_194 h 76 (iI s) (iI n) q.1 q.2) zB (iI 0, h1) = some (1, (z, h2)) → fX12_goesOnFrom 76 (iI st) (iI s) (iI bt) h = some (iI (bI false), h2) := fun z h2 hl => by
      rw [hrun]
      unfold kX12_goesOnFrom_61
      rw [if_neg (by decide)]
      exact (lp_bd hl).trans rfl
    by_cases cs : s = 0
    · have hend := goes_end0 (g := h) (H := tH t) s0 s1 (by omega) hH (fun j hj => ⟨l4.2.2.1 j hj, (l4.2.1 j hj).1⟩)
      have fm3 : Fm [91] h1 (zaI h1 91 (mk9 qu (zI h1 91) n)) := Fm_aI _ _ (by simp)
      refine ⟨false, zaI h1 91 (mk9 qu (zI h1 91) n), hk _ _ (by rw [cs]; exact hend), fm1.tr (fm3.mono m9d), fun j hj => by rw [fm3.I (by simp), k1 j hj], fun z => (by cases z), fun _ => ⟨pm2.fm fm3 (by simp) (by simp) (by simp), D', hcl, hDst, hDmon, hDin, fun _ y hy => ?_, fun z => absurd cs z, by rw [fm3.I (by simp)]; exact e88⟩⟩
      rw [zI_aI, z1_self]
      cases e : D' y
      · have hno : ¬ mkd (fun y => D y = true) qu n y := fun z => by rw [(hD' y).mpr z] at e; cases e
        rw [mk9_out (fun j hj z => hno (Or.inr ⟨j, hj, z⟩)), d1 y hy]
        cases e2 : D y
        · rfl
        · exact absurd (Or.inl e2) hno
      · rcases (hD' y).mp e with z | ⟨j, j1, j2⟩
        · by_cases ce : ∃ j, j < n ∧ qu j = y
          · obtain ⟨j, j1, j2⟩ := ce
            rw [← j2, mk9_in j1]; rfl
          · rw [mk9_out (fun j hj z => ce ⟨j, hj, z⟩), d1 y hy, z]
        · rw [← j2, mk9_in j1]; rfl
    · have hend := goes_end1 (g := h) (h := h1) (n := n) (s := s) (by omega) l4.1.1 hs cs
      exact ⟨false, h1, hk _ _ hend, fm1, k1, fun z => (by cases z), fun _ => ⟨pm2, D', hcl, hDst, hDmon, hDin, fun z => absurd z cs, fun _ => d1, e88⟩⟩
