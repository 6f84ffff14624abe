/-! the model's pairing: the queue -/
def MX (h : Zh) (t : Tk) (tr : Nat) : Prop := St h ∧ 101 ≤ tr ∧ zR h 76 3 = some tr ∧ Tr h tr t ∧ Cd h t ∧ Cdm h t
theorem MX.fm {S : List Nat} {h h' : Zh} {t : Tk} {tr : Nat} (p : MX h t tr) (f : Fm S h h') (h1 : ∀ j, j ≠ 22 → zI h' 76 j = zI h 76 j) (hS : ∀ x, x ∈ S → x < 101 ∧ x ≠ 78 ∧ x ≠ 83) : MX h' t tr := by
  obtain ⟨a1, a2, a3, a4, a5, a6⟩ := p
  refine ⟨a1.fm f, a2, by rw [f.R]; exact a3, a4.fm f (fun m => ?_), ⟨by rw [h1 17 (by decide)]; exact a5.1, ?_⟩, a6.fm f (h1 24 (by decide)) (fun m => (hS _ m).2.2 rfl)⟩
  · have := (hS _ m).1; omega
  · rw [f.I (fun m => (hS _ m).2.1 rfl)]; exact a5.2
theorem goes_init {t : Tk} {h : Zh} {D : Nat → Bool} (s : St h) (h17 : zI h 76 17 = iI (tH t)) (hH : tH t ≤ 2000) (hD : ∀ y, y < tH t → zI h 91 y = iI (bI (D y))) : lp (fun q : Int32 × Zh => bX12_goesOnFrom_3 h 76 q.1 q.2) zB (iI 0, h) = some (1, (iI (tH t), zaI h 90 (afill (tH t) (fun j => iI (if D j = true then -1 else -2)) (zI h 90)))) := by
  refine lp_for0 (st := fun j => ((iI (j : Int), zaI h 90 (afill j (fun j => iI (if D j = true then -1 else -2)) (zI h 90))) : Int32 × Zh)) (e := 0) (tH t) (by rw [zaI_f0]; rfl) (by omega) ?_ ?_
  · intro j hj
    show bX12_goesOnFrom_3 h 76 (iI j) (zaI h 90 _) = _
    have fm : Fm [90] h (zaI h 90 (afill j (fun j => iI (if D j = true then -1 else -2)) (zI h 90))) := Fm_aI _ _ (by simp)
    have s1 := s.fm fm
    have e91 := hD j hj
    have hst := afill_s (i := j) (A := fun j => iI (if D j = true then -1 else -2)) (B := zI h 90) (v := iI (if D j = true then -1 else -2)) rfl
    unfold bX12_goesOnFrom_3
    cases e : D j
    · rw [e] at e91 hst
      have e91' : zI h 91 j = iI 0 := e91
      have hst' : z1 (afill j (fun j => iI (if D j = true then -1 else -2)) (zI h 90)) j (iI (-2)) = _ := hst
      simp (maxSteps := 1000000) (disch := (first | assumption | exact ne_b rfl | omega)) only [↓reduceIte, ↓zlet_eq, ↓bdR_sI, ↓bdR_sJ, ↓bdR_aI, zc2_some, Option.bind_some, ↓si_m1, ↓si_m2, ↓si_m3, iI_lit, iI_add, iI_sub, iI_mul, leT, leF, ltT, ltF, eqT, eqF, zinT, clI, Int.toNat_natCast, Int.reduceToNat, tN1, tNa, tN0, tNm, if_pos, if_neg, zI_sI, zI_sJ, zI_sR, zJ_sI, zJ_sJ, zJ_sR, zR_sI, zR_sJ, zR_sR, zK_sI, zK_sJ, zK_sR, zL_sI, zL_sJ, zL_sR, zI_aI, zJ_aI, zR_aI, zK_aI, zL_aI, z2_at, z2_a, z2_k, z1_self, z1_ne, true_and, and_true, bIt, bIf, Bool.false_eq_true, Bool.true_eq_false, eq_self, not_true_eq_false, not_false_eq_true, sK76, sK77, sK78, sK79, sK80, sK81, sK82, sK83, sK84, sK85, sK86, sK87, sK88, sK89, sK90, sK91, sK92, sK93, sK94, sK95, sK96, sK97, sK98, sK99, sK100, sL77, sL78, sL79, sL80, sL81, sL82, sL83, sL84, sL85, sL86, sL87, sL88, sL89, sL90, sL91, sL92, sL93, sL94, sL95, sL96, sL97, sL98, sL99, sL100, sR76_5, sR76_16, sR76_18, sR76_19, sR76_20, sR76_21, sR76_23, sR76_25, sR76_26, sR76_27, sR76_28, sR76_29, sR76_30, sR76_31, sR76_32, sR76_33, sR76_34, sR76_37, sR76_38, sR76_39, sR76_40, sR76_41, sR76_42, ↓sB76_5, ↓sB76_16, ↓sB76_18, ↓sB76_19, ↓sB76_20, ↓sB76_21, ↓sB76_23, ↓sB76_25, ↓sB76_26, ↓sB76_27, ↓sB76_28, ↓sB76_29, ↓sB76_30, ↓sB76_31, ↓sB76_32, ↓sB76_33, ↓sB76_34, ↓sB76_37, ↓sB76_38, ↓sB76_39, ↓sB76_40, ↓sB76_41, ↓sB76_42, h17, e91', zsI_aI]
      rw [hst']
      rfl
    · rw [e] at e91 hst
      have e91' : zI h 91 j = iI 1 := e91
      have hst' : z1 (afill j (fun j => iI (if D j = true then -1 else -2)) (zI h 90)) j (iI (-1)) = _ := hst
      simp (maxSteps := 1000000) (disch := (first | assumption | exact ne_b rfl | omega)) only [↓reduceIte, ↓zlet_eq, ↓bdR_sI, ↓bdR_sJ, ↓bdR_aI, zc2_some, Option.bind_some, ↓si_m1, ↓si_m2, ↓si_m3, iI_lit, iI_add, iI_sub, iI_mul, leT, leF, ltT, ltF, eqT, eqF, zinT, clI, Int.toNat_natCast, Int.reduceToNat, tN1, tNa, tN0, tNm, if_pos, if_neg, zI_sI, zI_sJ, zI_sR, zJ_sI, zJ_sJ, zJ_sR, zR_sI, zR_sJ, zR_sR, zK_sI, zK_sJ, zK_sR, zL_sI, zL_sJ, zL_sR, zI_aI, zJ_aI, zR_aI, zK_aI, zL_aI, z2_at, z2_a, z2_k, z1_self, z1_ne, true_and, and_true, bIt, bIf, Bool.false_eq_true, Bool.true_eq_false, eq_self, not_true_eq_false, not_false_eq_true, sK76, sK77, sK78, sK79, sK80, sK81, sK82, sK83, sK84, sK85, sK86, sK87, sK88, sK89, sK90, sK91, sK92, sK93, sK94, sK95, sK96, sK97, sK98, sK99, sK100, sL77, sL78, sL79, sL80, sL81, sL82, sL83, sL84, sL85, sL86, sL87, sL88, sL89, sL90, sL91, sL92, sL93, sL94, sL95, sL96, sL97, sL98, sL99, sL100, sR76_5, sR76_16, sR76_18, sR76_19, sR76_20, sR76_21, sR76_23, sR76_25, sR76_26, sR76_27, sR76_28, sR76_29, sR76_30, sR76_31, sR76_32, sR76_33, sR76_34, sR76_37, sR76_38, sR76_39, sR76_40, sR76_41, sR76_42, ↓sB76_5, ↓sB76_16, ↓sB76_18, ↓sB76_19, ↓sB76_20, ↓sB76_21, ↓sB76_23, ↓sB76_25, ↓sB76_26, ↓sB76_27, ↓sB76_28, ↓sB76_29, ↓sB76_30, ↓sB76_31, ↓sB76_32, ↓sB76_33, ↓sB76_34, ↓sB76_37, ↓sB76_38, ↓sB76_39, ↓sB76_40, ↓sB76_41, ↓sB76_42, h17, e91', zsI_aI]
      rw [hst']
      rfl
  · show bX12_goesOnFrom_3 h 76 (iI (tH t)) (zaI h 90 _) = _
    unfold bX12_goesOnFrom_3
    simp (maxSteps := 1000000) (disch := (first | assumption | exact ne_b rfl | omega)) only [↓reduceIte, ↓zlet_eq, ↓bdR_sI, ↓bdR_sJ, ↓bdR_aI, zc2_some, Option.bind_some, ↓si_m1, ↓si_m2, ↓si_m3, iI_lit, iI_add, iI_sub, iI_mul, leT, leF, ltT, ltF, eqT, eqF, zinT, clI, Int.toNat_natCast, Int.reduceToNat, tN1, tNa, tN0, tNm, if_pos, if_neg, zI_sI, zI_sJ, zI_sR, zJ_sI, zJ_sJ, zJ_sR, zR_sI, zR_sJ, zR_sR, zK_sI, zK_sJ, zK_sR, zL_sI, zL_sJ, zL_sR, zI_aI, zJ_aI, zR_aI, zK_aI, zL_aI, z2_at, z2_a, z2_k, z1_self, z1_ne, true_and, and_true, bIt, bIf, Bool.false_eq_true, Bool.true_eq_false, eq_self, not_true_eq_false, not_false_eq_true, sK76, sK77, sK78, sK79, sK80, sK81, sK82, sK83, sK84, sK85, sK86, sK87, sK88, sK89, sK90, sK91, sK92, sK93, sK94, sK95, sK96, sK97, sK98, sK99, sK100, sL77, sL78, sL79, sL80, sL81, sL82, sL83, sL84, sL85, sL86, sL87, sL88, sL89, sL90, sL91, sL92, sL93, sL94, sL95, sL96, sL97, sL98, sL99, sL100, sR76_5, sR76_16, sR76_18, sR76_19, sR76_20, sR76_21, sR76_23, sR76_25, sR76_26, sR76_27, sR76_28, sR76_29, sR76_30, sR76_31, sR76_32, sR76_33, sR76_34, sR76_37, sR76_38, sR76_39, sR76_40, sR76_41, sR76_42, ↓sB76_5, ↓sB76_16, ↓sB76_18, ↓sB76_19, ↓sB76_20, ↓sB76_21, ↓sB76_23, ↓sB76_25, ↓sB76_26, ↓sB76_27, ↓sB76_28, ↓sB76_29, ↓sB76_30, ↓sB76_31, ↓sB76_32, ↓sB76_33, ↓sB76_34, ↓sB76_37, ↓sB76_38, ↓sB76_39, ↓sB76_40, ↓sB76_41, ↓sB76_42, h17]
theorem goes_out {t : Tk} {tr ex s st c : Nat} {bt : Int} {R0 : Nat → Prop} {pr ow : Nat → Option Nat} {f : Nat → Option Int} {g h : Zh} (tok : Tok t) (hH : tH t ≤ 2000) (sg : St g) (mx : MX h t tr) (hb1 : -1 ≤ bt) (hb2 : bt < 2147483648) (hbt : ∀ r : Nat, (r : Int) = bt → ow r = some st) (hs : s ≤ 2000) (cn : Cns (tH t) (fcr t (crC t)) pr ow) (pm : PM h t pr ow f c ex) {qu0 cf0 : Nat → Nat} (sm : SM_ h t (fcr t (crC t)) pr s st R0 1 qu0 cf0) : ∃ e n h1 qu cf y1 y2 y3 y4, lp (fun q : Int32 × Int32 × Int32 × Int32 × Zh => bX12_goesOnFrom_61 g 76 (iI s) (iI bt) q.1 q.2.1 q.2.2.1 q.2.2.2.1 q.2.2.2.2) zB (iI 1, iI 0, 0, 0, h) = some (e + 1, (y1, y2, y3, y4, h1)) ∧ Fm [76, 80, 82, 89, 90] h h1 ∧ (∀ j, j ≠ 22 → zI h1 76 j = zI h 76 j) ∧ SM_ h1 t (fcr t (crC t)) pr s st R0 n qu cf ∧ ((e = 0 ∧ ∃ q r : Nat, q < n ∧ y3 = iI (qu q) ∧ y4 = iI r ∧ fcr t (crC t) (qu q) r ∧ ow r = none) ∨ (e = 1 ∧ y1 = iI n ∧ ∀ j, j < n → ∀ r, fcr t (crC t) (qu j) r → okr ow s (mkd R0 qu n) r)) := by
  obtain ⟨bn4, bn12, bu1, bu4, bnu, bk2, bk5, bkn, bp1, bp2, bpk, bH, bsp, bs1, bs4, bT1, bT16, bR1, bR2, bH1, bff, bff1⟩ := tok.b
  have m5 : ∀ x, x ∈ [76, 80, 82, 89, 90] → x < 101 ∧ x ≠ 78 ∧ x ≠ 83 := by simp
  have m3 : ∀ x, x ∈ [76, 80, 82] → x ∈ [76, 80, 82, 89, 90] := by simp
  have m2 : ∀ x, x ∈ [89, 90] → x ∈ [76, 80, 82, 89, 90] := by simp
  have := lp_cnt (body := fun q : Int32 × Int32 × Int32 × Int32 × Zh => bX12_goesOnFrom_61 g 76 (iI s) (iI bt) q.1 q.2.1 q.2.2.1 q.2.2.2.1 q.2.2.2.2) 2000 (fun q z => ∃ n h1 qu cf, z = ((iI (n : Nat), iI (q : Int), 0, 0, h1) : Int32 × Int32 × Int32 × Int32 × Zh) ∧ Fm [76, 80, 82, 89, 90] h h1 ∧ (∀ j, j ≠ 22 → zI h1 76 j = zI h 76 j) ∧ SM_ h1 t (fcr t (crC t)) pr s st R0 n qu cf ∧ q ≤ n ∧ ∀ j, j < q → ∀ r, fcr t (crC t) (qu j) r → okr ow s (mkd R0 qu n) r) (fun e z => ∃ n h1 qu cf y1 y2 y3 y4, z = ((y1, y2, y3, y4, h1) : Int32 × Int32 × Int32 × Int32 × Zh) ∧ Fm [76, 80, 82, 89, 90] h h1 ∧ (∀ j, j ≠ 22 → zI h1 76 j = zI h 76 j) ∧ SM_ h1 t (fcr t (crC t)) pr s st R0 n qu cf ∧ ((e = 1 ∧ ∃ q r : Nat, q < n ∧ y3 = iI (qu q) ∧ y4 = iI r ∧ fcr t (crC t) (qu q) r ∧ ow r = none) ∨ (e = 2 ∧ y1 = iI n ∧ ∀ j, j < n → ∀ r, fcr t (crC t) (qu j) r → okr ow s (mkd R0 qu n) r))) ?_ ?_ (by omega) (s := (iI 1, iI 0, 0, 0, h)) ⟨1, h, qu0, cf0, rfl, Fm.rf, fun _ _ => rfl, sm, by omega, fun j hj => by omega⟩
  · obtain ⟨e, z, l1, n, h1, qu, cf, y1, y2, y3, y4, l2, l3, l4, l5, l6⟩ := this
    subst l2
    refine ⟨e, n, h1, qu, cf, y1, y2, y3, y4, l1, l3, l4, l5, ?_⟩
    rcases l6 with ⟨l7, l8⟩ | ⟨l7, l8⟩
    · exact Or.inl ⟨by omega, l8⟩
    · exact Or.inr ⟨by omega, l8⟩
  · intro q z hq ⟨n, h1, qu, cf, ez, fm, k1, si, hqn, hok⟩
    subst ez
    show (∃ s', bX12_goesOnFrom_61 g 76 (iI s) (iI bt) (iI n) (iI q) 0 0 h1 = some (0, s') ∧ _) ∨ (∃ e s', bX12_goesOnFrom_61 g 76 (iI s) (iI bt) (iI n) (iI q) 0 0 h1 = some (e + 1, s') ∧ _)
    have hnH : n ≤ tH t := holes (tH t) n qu (fun j hj => (si.2.1 j hj).1) si.1.2.2.1
    by_cases c0 : q < n
    · have mx1 := mx.fm fm k1 m5
      obtain ⟨a1, a2, a3, a4, a5, a6⟩ := mx1
      have hxq := si.2.1 q c0
      obtain ⟨h2, f1, f2, f3, f4⟩ := fX12_fitsOf_eq (x := qu q) a1 a2 a3 a4 a5 a6 tok hxq.1
      have s2 : St h2 := a1.fm f2
      have pm2 := (pm.fm fm (by simp) (by simp) (by simp)).fm f2 (by simp) (by simp) (by simp)
      have si2 := si.fm f2 (by simp) (by simp)
      obtain ⟨e, n2, y2, y3, h3, qu2, cf2, l1, l2, l4⟩ := goes_in (x := qu q) (q := q) tok hH sg s2 hb1 hb2 hbt hs cn pm2 f4 hxq.1 ⟨si2, c0, rfl, hok, fun j hj => by omega⟩
      have fm2 : Fm [76, 80, 82, 89, 90] h h3 := (fm.tr (f2.mono m3)).tr (l2.mono m2)
      have k2 : ∀ j, j ≠ 22 → zI h3 76 j = zI h 76 j := fun j hj => by rw [l2.I (by simp), f3 j hj, k1 j hj]
      have hb : bX12_goesOnFrom_61 g 76 (iI s) (iI bt) (iI n) (iI q) 0 0 h1 = kX12_goesOnFrom_86 g 76 (iI s) (iI bt) (iI q) (iI (qu q)) (e + 1) (iI n2) y2 y3 h3 := by
        unfold bX12_goesOnFrom_61
        have l1' : lp (fun z : Int32 × Int32 × Int32 × Zh => bX12_goesOnFrom_86 g 76 (iI s) (iI bt) (iI (qu q)) z.1 z.2.1 z.2.2.1 z.2.2.2) zB (iI n, iI 0, iI 0, h2) = some (e + 1, iI n2, y2, y3, h3) := l1
        have e89 := si.2.2.1 q c0
        clear pm2 pm l4 hok si2 f4 cn
        simp (maxSteps := 1000000) (disch := (first | assumption | exact ne_b rfl | omega)) only [↓reduceIte, ↓zlet_eq, ↓bdR_sI, ↓bdR_sJ, ↓bdR_aI, zc2_some, Option.bind_some, ↓si_m1, ↓si_m2, ↓si_m3, iI_lit, iI_add, iI_sub, iI_mul, leT, leF, ltT, ltF, eqT, eqF, zinT, clI, Int.toNat_natCast, Int.reduceToNat, tN1, tNa, tN0, tNm, if_pos, if_neg, zI_sI, zI_sJ, zI_sR, zJ_sI, zJ_sJ, zJ_sR, zR_sI, zR_sJ, zR_sR, zK_sI, zK_sJ, zK_sR, zL_sI, zL_sJ, zL_sR, zI_aI, zJ_aI, zR_aI, zK_aI, zL_aI, z2_at, z2_a, z2_k, z1_self, z1_ne, true_and, and_true, bIt, bIf, Bool.false_eq_true, Bool.true_eq_false, eq_self, not_true_eq_false, not_false_eq_true, sK76, sK77, sK78, sK79, sK80, sK81, sK82, sK83, sK84, sK85, sK86, sK87, sK88, sK89, sK90, sK91, sK92, sK93, sK94, sK95, sK96, sK97, sK98, sK99, sK100, sL77, sL78, sL79, sL80, sL81, sL82, sL83, sL84, sL85, sL86, sL87, sL88, sL89, sL90, sL91, sL92, sL93, sL94, sL95, sL96, sL97, sL98, sL99, sL100, sR76_5, sR76_16, sR76_18, sR76_19, sR76_20, sR76_21, sR76_23, sR76_25, sR76_26, sR76_27, sR76_28, sR76_29, sR76_30, sR76_31, sR76_32, sR76_33, sR76_34, sR76_37, sR76_38, sR76_39, sR76_40, sR76_41, sR76_42, ↓sB76_5, ↓sB76_16, ↓sB76_18, ↓sB76_19, ↓sB76_20, ↓sB76_21, ↓sB76_23, ↓sB76_25, ↓sB76_26, ↓sB76_27, ↓sB76_28, ↓sB76_29, ↓sB76_30, ↓sB76_31, ↓sB76_32, ↓sB76_33, ↓sB76_34, ↓sB76_37, ↓sB76_38, ↓sB76_39, ↓sB76_40, ↓sB76_41, ↓sB76_42, e89, ↓bd_of f1]
        exact lp_bd l1'
      rw [hb]
      unfold kX12_goesOnFrom_86
      rcases l4 with ⟨e0, r, l5, l6, l7, l8, l9, l10⟩ | ⟨e1, l6⟩
      · subst e0
        subst l5
        exact Or.inr ⟨0, (0, 0, iI (qu q), iI r, h3), rfl, n2, h3, qu2, cf2, 0, 0, iI (qu q), iI r, rfl, fm2, k2, l6, Or.inl ⟨rfl, q, r, l7, by rw [l8], rfl, by rw [l8]; exact l9, l10⟩⟩
      · subst e1
        obtain ⟨m1, m2', m3', m4, m5'⟩ := l6
        refine Or.inl ⟨(iI n2, iI ((q + 1 : Nat) : Int), 0, 0, h3), ?_, n2, h3, qu2, cf2, rfl, fm2, k2, m1, by omega, fun j hj r hr => ?_⟩
        · rw [if_neg (by decide), zlet_eq, show (1 : Int32) = iI 1 from rfl, iI_add]
          rfl
        · by_cases cj : j = q
          · rw [cj, m3'] at hr
            obtain ⟨i, i1, i2⟩ := hr
            have hmr := Nat.mod_lt r (show tT t > 0 by omega)
            have hw := m5' (i * tT t + r % tT t) (at_lt i1 hmr)
            rw [row_div (by omega) hmr, Nat.mul_comm i, Nat.mul_add_mod, Nat.mod_mod, i2, Nat.div_add_mod'] at hw
            exact hw
          · exact m4 j (by omega) r hr
    · refine Or.inr ⟨1, (iI n, iI q, 0, 0, h1), ?_, n, h1, qu, cf, _, _, _, _, rfl, fm, k1, si, Or.inr ⟨rfl, rfl, fun j hj r hr => hok j (by omega) r hr⟩⟩
      unfold bX12_goesOnFrom_61
      simp (maxSteps := 1000000) (disch := (first | assumption | exact ne_b rfl | omega)) only [↓reduceIte, ↓zlet_eq, ↓bdR_sI, ↓bdR_sJ, ↓bdR_aI, zc2_some, Option.bind_some, ↓si_m1, ↓si_m2, ↓si_m3, iI_lit, iI_add, iI_sub, iI_mul, leT, leF, ltT, ltF, eqT, eqF, zinT, clI, Int.toNat_natCast, Int.reduceToNat, tN1, tNa, tN0, tNm, if_pos, if_neg, zI_sI, zI_sJ, zI_sR, zJ_sI, zJ_sJ, zJ_sR, zR_sI, zR_sJ, zR_sR, zK_sI, zK_sJ, zK_sR, zL_sI, zL_sJ, zL_sR, zI_aI, zJ_aI, zR_aI, zK_aI, zL_aI, z2_at, z2_a, z2_k, z1_self, z1_ne, true_and, and_true, bIt, bIf, Bool.false_eq_true, Bool.true_eq_false, eq_self, not_true_eq_false, not_false_eq_true]
  · intro z ⟨n, h1, qu, cf, ez, fm, k1, si, hqn, hok⟩
    subst ez
    have hnH : n ≤ tH t := holes (tH t) n qu (fun j hj => (si.2.1 j hj).1) si.1.2.2.1
    refine ⟨1, (iI n, iI ((2000 : Nat) : Int), 0, 0, h1), ?_, n, h1, qu, cf, _, _, _, _, rfl, fm, k1, si, Or.inr ⟨rfl, rfl, fun j hj r hr => hok j (by omega) r hr⟩⟩
    show bX12_goesOnFrom_61 g 76 (iI s) (iI bt) (iI n) (iI ((2000 : Nat) : Int)) 0 0 h1 = _
    unfold bX12_goesOnFrom_61
    simp (maxSteps := 1000000) (disch := (first | assumption | exact ne_b rfl | omega)) only [↓reduceIte, ↓zlet_eq, ↓bdR_sI, ↓bdR_sJ, ↓bdR_aI, zc2_some, Option.bind_some, ↓si_m1, ↓si_m2, ↓si_m3, iI_lit, iI_add, iI_sub, iI_mul, leT, leF, ltT, ltF, eqT, eqF, zinT, clI, Int.toNat_natCast, Int.reduceToNat, tN1, tNa, tN0, tNm, if_pos, if_neg, zI_sI, zI_sJ, zI_sR, zJ_sI, zJ_sJ, zJ_sR, zR_sI, zR_sJ, zR_sR, zK_sI, zK_sJ, zK_sR, zL_sI, zL_sJ, zL_sR, zI_aI, zJ_aI, zR_aI, zK_aI, zL_aI, z2_at, z2_a, z2_k, z1_self, z1_ne, true_and, and_true, bIt, bIf, Bool.false_eq_true, Bool.true_eq_false, eq_self, not_true_eq_false, not_false_eq_true]
