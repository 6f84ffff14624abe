/-! the model: two of one suit -/
theorem msuit_in {tr x i : Nat} {t : Tk} {g h : Zh} (s : St h) (r3 : zR h 76 3 = some tr) (qg : zK g tr = 11) (q : Tr h tr t) (cd : Cd h t) (tok : Tok t) (hx : x < tH t) (hi : i < tk t) : lp (fun q : Int32 × Int32 × Int32 × Zh => bX12_laysSuit_55 g 76 (iI x) (iI (rkN t)) (iI i) q.1 q.2.1 q.2.2.1 q.2.2.2) zB (iI ((i + 1 : Nat) : Int), (0, (0, h))) = some (if sj t x i < tk t - (i + 1) then (1, (iI ((i + 1 + sj t x i : Nat) : Int), (iI (hc t x i), (iI (hc t x (i + 1 + sj t x i)), h)))) else (2, (iI (tk t), (0, (0, h))))) := by
  obtain ⟨bn4, bn12, bu1, bu4, bnu, bk2, bk5, bkn, bp1, bp2, bpk, bH, bsp, bs1, bs4, bT1, bT16, bR1, bR2, bH1, bff, bff1⟩ := tok.b
  obtain ⟨rk1, rk2⟩ := rkN_b tok
  have hv := hc_vld tok hx
  have hci := hv.1 i hi
  have hb := lp_sb (k := fun q => some q) (body := fun q : Int32 × Int32 × Int32 × Zh => bX12_laysSuit_55 g 76 (iI x) (iI (rkN t)) (iI i) q.1 q.2.1 q.2.2.1 q.2.2.2) (st := fun j => ((iI ((i + 1 + j : Nat) : Int), (if j = 0 then 0 else iI (hc t x i)), (if j = 0 then 0 else iI (hc t x (i + j))), h) : Int32 × Int32 × Int32 × Zh)) (fun j => decide (hc t x i / rkN t = hc t x (i + 1 + j) / rkN t)) 0 1 (fun j => ((iI ((i + 1 + j : Nat) : Int), iI (hc t x i), iI (hc t x (i + 1 + j)), h) : Int32 × Int32 × Int32 × Zh)) ((iI (tk t), 0, 0, h) : Int32 × Int32 × Int32 × Zh) (tk t - (i + 1)) rfl (by omega) ?_ ?_ ?_
  · have e : ∀ {α : Type} (o : Option α), (o.bind fun q => some q) = o := fun o => by cases o <;> rfl
    rw [e] at hb
    refine Eq.trans ?_ (hb.trans ?_)
    · rfl
    · unfold sj
      split <;> rfl
  · intro j hj hP
    show bX12_laysSuit_55 g 76 (iI x) (iI (rkN t)) (iI i) (iI ((i + 1 + j : Nat) : Int)) _ _ h = _
    unfold bX12_laysSuit_55
    have hP2 : ¬ (hc t x i / rkN t = hc t x (i + 1 + j) / rkN t) := of_decide_eq_false hP
    have hcj := hv.1 (i + 1 + j) (by omega)
    have l1 : hc t x i / rkN t ≤ hc t x i := Nat.div_le_self _ _
    have l2 : hc t x (i + 1 + j) / rkN t ≤ hc t x (i + 1 + j) := Nat.div_le_self _ _
    have g1 : iI (hc t x i) / iI (rkN t) = iI ((hc t x i / rkN t : Nat) : Int) := si_divN (by omega) (by omega) (by omega)
    have g2 : iI (hc t x (i + 1 + j)) / iI (rkN t) = iI ((hc t x (i + 1 + j) / rkN t : Nat) : Int) := si_divN (by omega) (by omega) (by omega)
    clear hP
    generalize hc t x i / rkN t = y1 at g1 hP2 l1
    generalize hc t x (i + 1 + j) / rkN t = y2 at g2 hP2 l2
    simp (maxSteps := 1000000) (disch := (first | assumption | exact ne_b rfl | omega)) only [↓reduceIte, ↓zlet_eq, ↓bdR_sI, ↓bdR_sJ, ↓bdR_aI, zc2_some, Option.bind_some, ↓si_m1, ↓si_m2, ↓si_m3, iI_lit, iI_add, iI_sub, iI_mul, leT, leF, ltT, ltF, eqT, eqF, zinT, clI, Int.toNat_natCast, Int.reduceToNat, tN1, tNa, tN0, tNm, if_pos, if_neg, zI_sI, zI_sJ, zI_sR, zJ_sI, zJ_sJ, zJ_sR, zR_sI, zR_sJ, zR_sR, zK_sI, zK_sJ, zK_sR, zL_sI, zL_sJ, zL_sR, zI_aI, zJ_aI, zR_aI, zK_aI, zL_aI, z2_at, z2_a, z2_k, z1_self, z1_ne, true_and, and_true, bIt, bIf, Bool.false_eq_true, Bool.true_eq_false, eq_self, not_true_eq_false, not_false_eq_true, sK76, sK77, sK78, sK79, sK80, sK81, sK82, sK83, sK84, sK85, sK86, sK87, sK88, sK89, sK90, sK91, sK92, sK93, sK94, sK95, sK96, sK97, sK98, sK99, sK100, sL77, sL78, sL79, sL80, sL81, sL82, sL83, sL84, sL85, sL86, sL87, sL88, sL89, sL90, sL91, sL92, sL93, sL94, sL95, sL96, sL97, sL98, sL99, sL100, sR76_5, sR76_16, sR76_18, sR76_19, sR76_20, sR76_21, sR76_23, sR76_25, sR76_26, sR76_27, sR76_28, sR76_29, sR76_30, sR76_31, sR76_32, sR76_33, sR76_34, sR76_37, sR76_38, sR76_39, sR76_40, sR76_41, sR76_42, ↓sB76_5, ↓sB76_16, ↓sB76_18, ↓sB76_19, ↓sB76_20, ↓sB76_21, ↓sB76_23, ↓sB76_25, ↓sB76_26, ↓sB76_27, ↓sB76_28, ↓sB76_29, ↓sB76_30, ↓sB76_31, ↓sB76_32, ↓sB76_33, ↓sB76_34, ↓sB76_37, ↓sB76_38, ↓sB76_39, ↓sB76_40, ↓sB76_41, ↓sB76_42, ↓bd_of r3, qg, q.fK, q.f0, q.f1, q.f2, q.f3, q.f4, q.f7, q.f8, q.f9, ↓zc_of (fX12_cardOf_eq s cd tok hx hi), ↓zc_of (fX12_cardOf_eq s cd tok hx (show i + 1 + j < tk t by omega)), g1, g2]
    rw [show i + (j + 1) = i + 1 + j by omega]
    rfl
  · intro j hj hP
    show bX12_laysSuit_55 g 76 (iI x) (iI (rkN t)) (iI i) (iI ((i + 1 + j : Nat) : Int)) _ _ h = _
    unfold bX12_laysSuit_55
    have hP2 : hc t x i / rkN t = hc t x (i + 1 + j) / rkN t := of_decide_eq_true hP
    have hcj := hv.1 (i + 1 + j) (by omega)
    have g1 : iI (hc t x i) / iI (rkN t) = iI ((hc t x i / rkN t : Nat) : Int) := si_divN (by omega) (by omega) (by omega)
    have g2 : iI (hc t x (i + 1 + j)) / iI (rkN t) = iI ((hc t x (i + 1 + j) / rkN t : Nat) : Int) := si_divN (by omega) (by omega) (by omega)
    rw [← hP2] at g2
    clear hP
    generalize hc t x i / rkN t = y1 at g1 g2
    simp (maxSteps := 1000000) (disch := (first | assumption | exact ne_b rfl | omega)) only [↓reduceIte, ↓zlet_eq, ↓bdR_sI, ↓bdR_sJ, ↓bdR_aI, zc2_some, Option.bind_some, ↓si_m1, ↓si_m2, ↓si_m3, iI_lit, iI_add, iI_sub, iI_mul, leT, leF, ltT, ltF, eqT, eqF, zinT, clI, Int.toNat_natCast, Int.reduceToNat, tN1, tNa, tN0, tNm, if_pos, if_neg, zI_sI, zI_sJ, zI_sR, zJ_sI, zJ_sJ, zJ_sR, zR_sI, zR_sJ, zR_sR, zK_sI, zK_sJ, zK_sR, zL_sI, zL_sJ, zL_sR, zI_aI, zJ_aI, zR_aI, zK_aI, zL_aI, z2_at, z2_a, z2_k, z1_self, z1_ne, true_and, and_true, bIt, bIf, Bool.false_eq_true, Bool.true_eq_false, eq_self, not_true_eq_false, not_false_eq_true, sK76, sK77, sK78, sK79, sK80, sK81, sK82, sK83, sK84, sK85, sK86, sK87, sK88, sK89, sK90, sK91, sK92, sK93, sK94, sK95, sK96, sK97, sK98, sK99, sK100, sL77, sL78, sL79, sL80, sL81, sL82, sL83, sL84, sL85, sL86, sL87, sL88, sL89, sL90, sL91, sL92, sL93, sL94, sL95, sL96, sL97, sL98, sL99, sL100, sR76_5, sR76_16, sR76_18, sR76_19, sR76_20, sR76_21, sR76_23, sR76_25, sR76_26, sR76_27, sR76_28, sR76_29, sR76_30, sR76_31, sR76_32, sR76_33, sR76_34, sR76_37, sR76_38, sR76_39, sR76_40, sR76_41, sR76_42, ↓sB76_5, ↓sB76_16, ↓sB76_18, ↓sB76_19, ↓sB76_20, ↓sB76_21, ↓sB76_23, ↓sB76_25, ↓sB76_26, ↓sB76_27, ↓sB76_28, ↓sB76_29, ↓sB76_30, ↓sB76_31, ↓sB76_32, ↓sB76_33, ↓sB76_34, ↓sB76_37, ↓sB76_38, ↓sB76_39, ↓sB76_40, ↓sB76_41, ↓sB76_42, ↓bd_of r3, qg, q.fK, q.f0, q.f1, q.f2, q.f3, q.f4, q.f7, q.f8, q.f9, ↓zc_of (fX12_cardOf_eq s cd tok hx hi), ↓zc_of (fX12_cardOf_eq s cd tok hx (show i + 1 + j < tk t by omega)), g1, g2]
  · show bX12_laysSuit_55 g 76 (iI x) (iI (rkN t)) (iI i) (iI ((i + 1 + (tk t - (i + 1)) : Nat) : Int)) _ _ h = _
    unfold bX12_laysSuit_55
    rw [show i + 1 + (tk t - (i + 1)) = tk t by omega]
    simp (maxSteps := 1000000) (disch := (first | assumption | exact ne_b rfl | omega)) only [↓reduceIte, ↓zlet_eq, ↓bdR_sI, ↓bdR_sJ, ↓bdR_aI, zc2_some, Option.bind_some, ↓si_m1, ↓si_m2, ↓si_m3, iI_lit, iI_add, iI_sub, iI_mul, leT, leF, ltT, ltF, eqT, eqF, zinT, clI, Int.toNat_natCast, Int.reduceToNat, tN1, tNa, tN0, tNm, if_pos, if_neg, zI_sI, zI_sJ, zI_sR, zJ_sI, zJ_sJ, zJ_sR, zR_sI, zR_sJ, zR_sR, zK_sI, zK_sJ, zK_sR, zL_sI, zL_sJ, zL_sR, zI_aI, zJ_aI, zR_aI, zK_aI, zL_aI, z2_at, z2_a, z2_k, z1_self, z1_ne, true_and, and_true, bIt, bIf, Bool.false_eq_true, Bool.true_eq_false, eq_self, not_true_eq_false, not_false_eq_true, sK76, sK77, sK78, sK79, sK80, sK81, sK82, sK83, sK84, sK85, sK86, sK87, sK88, sK89, sK90, sK91, sK92, sK93, sK94, sK95, sK96, sK97, sK98, sK99, sK100, sL77, sL78, sL79, sL80, sL81, sL82, sL83, sL84, sL85, sL86, sL87, sL88, sL89, sL90, sL91, sL92, sL93, sL94, sL95, sL96, sL97, sL98, sL99, sL100, sR76_5, sR76_16, sR76_18, sR76_19, sR76_20, sR76_21, sR76_23, sR76_25, sR76_26, sR76_27, sR76_28, sR76_29, sR76_30, sR76_31, sR76_32, sR76_33, sR76_34, sR76_37, sR76_38, sR76_39, sR76_40, sR76_41, sR76_42, ↓sB76_5, ↓sB76_16, ↓sB76_18, ↓sB76_19, ↓sB76_20, ↓sB76_21, ↓sB76_23, ↓sB76_25, ↓sB76_26, ↓sB76_27, ↓sB76_28, ↓sB76_29, ↓sB76_30, ↓sB76_31, ↓sB76_32, ↓sB76_33, ↓sB76_34, ↓sB76_37, ↓sB76_38, ↓sB76_39, ↓sB76_40, ↓sB76_41, ↓sB76_42, ↓bd_of r3, qg, q.fK, q.f0, q.f1, q.f2, q.f3, q.f4, q.f7, q.f8, q.f9]
theorem msuit_row {tr x i j base od : Nat} {t : Tk} {h : Zh} (s : St h) (htr : 101 ≤ tr) (r3 : zR h 76 3 = some tr) (q : Tr h tr t) (cd : Cd h t) (tok : Tok t) (hx : x < tH t) (hp : tp t = 1) (hi : i < tk t) (hj : j < tk t) (hij : i ≠ j) (hb1 : base = hc t x i ∨ base = hc t x j) (hb2 : base < tn t) (hod : od < 100) : ∃ h', jX12_laysSuit_148 h 76 (iI x) (iI i) (iI j) (iI base) (iI ((od + 1 : Nat) : Int)) h = some (iI (if od < ff (tsh t - 1) (tsh t - 1) then ((rowN (tn t) (arA (suq t x (hc t x i) (hc t x j) base (tk t)) 1 (tsh t - 1) od (tsh t - 1)) (tsh t) * tT t : Nat) : Int) else -2), h') ∧ Fm [80] h h' := by
  obtain ⟨bn4, bn12, bu1, bu4, bnu, bk2, bk5, bkn, bp1, bp2, bpk, bH, bsp, bs1, bs4, bT1, bT16, bR1, bR2, bH1, bff, bff1⟩ := tok.b
  have hv := hc_vld tok hx
  have hd := hv.dst
  have n80 : tr ≠ 80 := by omega
  have hne : ∀ a b, a < tk t → b < tk t → a ≠ b → hc t x a ≠ hc t x b := fun a b h1 h2 h3 => by
    rcases Nat.lt_or_ge a b with c | c
    · exact hd a b c h2
    · exact fun e => hd b a (by omega) h1 e.symm
  have hab := hne i j hi hj hij
  have hcn := sPs_cnt tok hx hab ⟨i, hi, rfl⟩ ⟨j, hj, rfl⟩
  have hf := ff_k (tsh t - 1) (by omega)
  have hf1 := hf.1
  have hf2 := hf.2.1
  have e2 : (tsh t : Int) - 1 = ((tsh t - 1 : Nat) : Int) := by omega
  have e3 := fX12_rowsOf_eq (n := ((tsh t - 1 : Nat) : Int)) (k := tsh t - 1) ⟨by omega, by omega⟩ (by omega) h
  rw [hf.2.2] at e3
  have hcm := si_cmp (a := (od : Int)) (b := ((ff (tsh t - 1) (tsh t - 1) : Nat) : Int)) ⟨by omega, by omega⟩ ⟨by omega, by omega⟩
  have e1 : ((od + 1 : Nat) : Int) - 1 = (od : Int) := by omega
  have hlo : (iI (od : Int)).toInt64 = jI od := iI_long ⟨by omega, by omega⟩
  unfold jX12_laysSuit_148
  by_cases c : od < ff (tsh t - 1) (tsh t - 1)
  · rw [if_pos c]
    have hcm2 : (lg_cmp (jI od) (jI ((ff (tsh t - 1) (tsh t - 1) : Nat) : Int)) < iI 0) = True := eq_true (hcm.mpr (by omega))
    obtain ⟨d1, d2⟩ := suq_ok tok hx hab ⟨i, hi, rfl⟩ ⟨j, hj, rfl⟩ hb1 hb2 hp
    have hd1 : dst (suq t x (hc t x i) (hc t x j) base (tk t)) (1 + (tsh t - 1)) := by rw [show 1 + (tsh t - 1) = tsh t by omega]; exact d1
    have hd2 : ∀ y, y < 1 + (tsh t - 1) → suq t x (hc t x i) (hc t x j) base (tk t) y < tn t := fun y hy => d2 y (by omega)
    obtain ⟨a1, a2⟩ := arA_ok (num := od) (show tsh t - 1 ≤ 5 by omega) c hd1 hd2 (tsh t - 1) (Nat.le_refl _)
    rw [show 1 + (tsh t - 1) = tsh t by omega] at a1 a2
    refine ⟨zaI h 80 (afill (tsh t) (fun j2 => iI (arA (suq t x (hc t x i) (hc t x j) base (tk t)) 1 (tsh t - 1) od (tsh t - 1) j2)) (zI h 80)), ?_, Fm_aI _ _ (by simp)⟩
    simp (maxSteps := 1000000) (disch := (first | assumption | exact ne_b rfl | omega)) only [↓reduceIte, ↓zlet_eq, ↓bdR_sI, ↓bdR_sJ, ↓bdR_aI, zc2_some, Option.bind_some, ↓si_m1, ↓si_m2, ↓si_m3, iI_lit, iI_add, iI_sub, iI_mul, leT, leF, ltT, ltF, eqT, eqF, zinT, clI, Int.toNat_natCast, Int.reduceToNat, tN1, tNa, tN0, tNm, if_pos, if_neg, zI_sI, zI_sJ, zI_sR, zJ_sI, zJ_sJ, zJ_sR, zR_sI, zR_sJ, zR_sR, zK_sI, zK_sJ, zK_sR, zL_sI, zL_sJ, zL_sR, zI_aI, zJ_aI, zR_aI, zK_aI, zL_aI, z2_at, z2_a, z2_k, z1_self, z1_ne, true_and, and_true, bIt, bIf, Bool.false_eq_true, Bool.true_eq_false, eq_self, not_true_eq_false, not_false_eq_true, sK76, sK77, sK78, sK79, sK80, sK81, sK82, sK83, sK84, sK85, sK86, sK87, sK88, sK89, sK90, sK91, sK92, sK93, sK94, sK95, sK96, sK97, sK98, sK99, sK100, sL77, sL78, sL79, sL80, sL81, sL82, sL83, sL84, sL85, sL86, sL87, sL88, sL89, sL90, sL91, sL92, sL93, sL94, sL95, sL96, sL97, sL98, sL99, sL100, sR76_5, sR76_16, sR76_18, sR76_19, sR76_20, sR76_21, sR76_23, sR76_25, sR76_26, sR76_27, sR76_28, sR76_29, sR76_30, sR76_31, sR76_32, sR76_33, sR76_34, sR76_37, sR76_38, sR76_39, sR76_40, sR76_41, sR76_42, ↓sB76_5, ↓sB76_16, ↓sB76_18, ↓sB76_19, ↓sB76_20, ↓sB76_21, ↓sB76_23, ↓sB76_25, ↓sB76_26, ↓sB76_27, ↓sB76_28, ↓sB76_29, ↓sB76_30, ↓sB76_31, ↓sB76_32, ↓sB76_33, ↓sB76_34, ↓sB76_37, ↓sB76_38, ↓sB76_39, ↓sB76_40, ↓sB76_41, ↓sB76_42, ↓bd_of r3, q.fK, q.f0, q.f1, q.f2, q.f3, q.f4, q.f7, q.f8, q.f9, e1, e2, e3, hlo, hcm2]
    rw [zsI_toA]
    have e0 : z1 (zI h 80) 0 (iI base) = afill (1 + fcn (sPs (hc t x i) (hc t x j)) (hc t x) 0) (fun y => iI (suq t x (hc t x i) (hc t x j) base 0 y)) (zI h 80) := by
      rw [fcn, ← afill_s (A := fun y => iI (suq t x (hc t x i) (hc t x j) base 0 y)) (v := iI base) rfl, afill_0]
    rw [e0]
    refine (lp_fb (st := fun y => ((iI ((1 + fcn (sPs (hc t x i) (hc t x j)) (hc t x) y : Nat) : Int), iI (y : Int), zaI h 80 (afill (1 + fcn (sPs (hc t x i) (hc t x j)) (hc t x) y) (fun z => iI (suq t x (hc t x i) (hc t x j) base y z)) (zI h 80))) : Int32 × Int32 × Zh)) (e := 0) (s' := (iI ((1 + fcn (sPs (hc t x i) (hc t x j)) (hc t x) (tk t) : Nat) : Int), iI (tk t), zaI h 80 (afill (1 + fcn (sPs (hc t x i) (hc t x j)) (hc t x) (tk t)) (fun z => iI (suq t x (hc t x i) (hc t x j) base (tk t) z)) (zI h 80)))) (tk t) rfl (by omega) ?_ ?_).trans ?_
    · intro y hy
      show bX12_laysSuit_197 h 76 (iI x) (iI i) (iI j) (iI ((1 + fcn (sPs (hc t x i) (hc t x j)) (hc t x) y : Nat) : Int)) (iI y) (zaI h 80 _) = _
      unfold bX12_laysSuit_197
      have hcl := hv.1 y hy
      have hfl := fcn_mono (P := sPs (hc t x i) (hc t x j)) (c := hc t x) (i := y) (tk t - y)
      rw [show y + (tk t - y) = tk t by omega] at hfl
      have fm2 : Fm [80] h (zaI h 80 (afill (1 + fcn (sPs (hc t x i) (hc t x j)) (hc t x) y) (fun z => iI (suq t x (hc t x i) (hc t x j) base y z)) (zI h 80))) := Fm_aI _ _ (by simp)
      have s2 := s.fm fm2
      have cd2 := cd.fm fm2 (by simp) (by simp)
      by_cases c1 : y = i
      · have hps : sPs (hc t x i) (hc t x j) (hc t x y) = false := by unfold sPs; simp [c1]
        have e5 : suq t x (hc t x i) (hc t x j) base (y + 1) = suq t x (hc t x i) (hc t x j) base y := by funext z; unfold suq; rw [(fls_skip hps).2]
        simp (maxSteps := 1000000) (disch := (first | assumption | exact ne_b rfl | omega)) only [↓reduceIte, ↓zlet_eq, ↓bdR_sI, ↓bdR_sJ, ↓bdR_aI, zc2_some, Option.bind_some, ↓si_m1, ↓si_m2, ↓si_m3, iI_lit, iI_add, iI_sub, iI_mul, leT, leF, ltT, ltF, eqT, eqF, zinT, clI, Int.toNat_natCast, Int.reduceToNat, tN1, tNa, tN0, tNm, if_pos, if_neg, zI_sI, zI_sJ, zI_sR, zJ_sI, zJ_sJ, zJ_sR, zR_sI, zR_sJ, zR_sR, zK_sI, zK_sJ, zK_sR, zL_sI, zL_sJ, zL_sR, zI_aI, zJ_aI, zR_aI, zK_aI, zL_aI, z2_at, z2_a, z2_k, z1_self, z1_ne, true_and, and_true, bIt, bIf, Bool.false_eq_true, Bool.true_eq_false, eq_self, not_true_eq_false, not_false_eq_true, sK76, sK77, sK78, sK79, sK80, sK81, sK82, sK83, sK84, sK85, sK86, sK87, sK88, sK89, sK90, sK91, sK92, sK93, sK94, sK95, sK96, sK97, sK98, sK99, sK100, sL77, sL78, sL79, sL80, sL81, sL82, sL83, sL84, sL85, sL86, sL87, sL88, sL89, sL90, sL91, sL92, sL93, sL94, sL95, sL96, sL97, sL98, sL99, sL100, sR76_5, sR76_16, sR76_18, sR76_19, sR76_20, sR76_21, sR76_23, sR76_25, sR76_26, sR76_27, sR76_28, sR76_29, sR76_30, sR76_31, sR76_32, sR76_33, sR76_34, sR76_37, sR76_38, sR76_39, sR76_40, sR76_41, sR76_42, ↓sB76_5, ↓sB76_16, ↓sB76_18, ↓sB76_19, ↓sB76_20, ↓sB76_21, ↓sB76_23, ↓sB76_25, ↓sB76_26, ↓sB76_27, ↓sB76_28, ↓sB76_29, ↓sB76_30, ↓sB76_31, ↓sB76_32, ↓sB76_33, ↓sB76_34, ↓sB76_37, ↓sB76_38, ↓sB76_39, ↓sB76_40, ↓sB76_41, ↓sB76_42, ↓bd_of r3, q.fK, q.f0, q.f1, q.f2, q.f3, q.f4, q.f7, q.f8, q.f9]
        rw [(fls_skip hps).1, e5]
        rfl
      · by_cases c2 : y = j
        · have hps : sPs (hc t x i) (hc t x j) (hc t x y) = false := by unfold sPs; simp [c2]
          have e5 : suq t x (hc t x i) (hc t x j) base (y + 1) = suq t x (hc t x i) (hc t x j) base y := by funext z; unfold suq; rw [(fls_skip hps).2]
          simp (maxSteps := 1000000) (disch := (first | assumption | exact ne_b rfl | omega)) only [↓reduceIte, ↓zlet_eq, ↓bdR_sI, ↓bdR_sJ, ↓bdR_aI, zc2_some, Option.bind_some, ↓si_m1, ↓si_m2, ↓si_m3, iI_lit, iI_add, iI_sub, iI_mul, leT, leF, ltT, ltF, eqT, eqF, zinT, clI, Int.toNat_natCast, Int.reduceToNat, tN1, tNa, tN0, tNm, if_pos, if_neg, zI_sI, zI_sJ, zI_sR, zJ_sI, zJ_sJ, zJ_sR, zR_sI, zR_sJ, zR_sR, zK_sI, zK_sJ, zK_sR, zL_sI, zL_sJ, zL_sR, zI_aI, zJ_aI, zR_aI, zK_aI, zL_aI, z2_at, z2_a, z2_k, z1_self, z1_ne, true_and, and_true, bIt, bIf, Bool.false_eq_true, Bool.true_eq_false, eq_self, not_true_eq_false, not_false_eq_true, sK76, sK77, sK78, sK79, sK80, sK81, sK82, sK83, sK84, sK85, sK86, sK87, sK88, sK89, sK90, sK91, sK92, sK93, sK94, sK95, sK96, sK97, sK98, sK99, sK100, sL77, sL78, sL79, sL80, sL81, sL82, sL83, sL84, sL85, sL86, sL87, sL88, sL89, sL90, sL91, sL92, sL93, sL94, sL95, sL96, sL97, sL98, sL99, sL100, sR76_5, sR76_16, sR76_18, sR76_19, sR76_20, sR76_21, sR76_23, sR76_25, sR76_26, sR76_27, sR76_28, sR76_29, sR76_30, sR76_31, sR76_32, sR76_33, sR76_34, sR76_37, sR76_38, sR76_39, sR76_40, sR76_41, sR76_42, ↓sB76_5, ↓sB76_16, ↓sB76_18, ↓sB76_19, ↓sB76_20, ↓sB76_21, ↓sB76_23, ↓sB76_25, ↓sB76_26, ↓sB76_27, ↓sB76_28, ↓sB76_29, ↓sB76_30, ↓sB76_31, ↓sB76_32, ↓sB76_33, ↓sB76_34, ↓sB76_37, ↓sB76_38, ↓sB76_39, ↓sB76_40, ↓sB76_41, ↓sB76_42, ↓bd_of r3, q.fK, q.f0, q.f1, q.f2, q.f3, q.f4, q.f7, q.f8, q.f9]
          rw [(fls_skip hps).1, e5]
          rfl
        · have hps : sPs (hc t x i) (hc t x j) (hc t x y) = true := by
            unfold sPs
            simp [hne i y hi hy (fun e => c1 e.symm), hne j y hj hy (fun e => c2 e.symm)]
          simp (maxSteps := 1000000) (disch := (first | assumption | exact ne_b rfl | omega)) only [↓reduceIte, ↓zlet_eq, ↓bdR_sI, ↓bdR_sJ, ↓bdR_aI, zc2_some, Option.bind_some, ↓si_m1, ↓si_m2, ↓si_m3, iI_lit, iI_add, iI_sub, iI_mul, leT, leF, ltT, ltF, eqT, eqF, zinT, clI, Int.toNat_natCast, Int.reduceToNat, tN1, tNa, tN0, tNm, if_pos, if_neg, zI_sI, zI_sJ, zI_sR, zJ_sI, zJ_sJ, zJ_sR, zR_sI, zR_sJ, zR_sR, zK_sI, zK_sJ, zK_sR, zL_sI, zL_sJ, zL_sR, zI_aI, zJ_aI, zR_aI, zK_aI, zL_aI, z2_at, z2_a, z2_k, z1_self, z1_ne, true_and, and_true, bIt, bIf, Bool.false_eq_true, Bool.true_eq_false, eq_self, not_true_eq_false, not_false_eq_true, sK76, sK77, sK78, sK79, sK80, sK81, sK82, sK83, sK84, sK85, sK86, sK87, sK88, sK89, sK90, sK91, sK92, sK93, sK94, sK95, sK96, sK97, sK98, sK99, sK100, sL77, sL78, sL79, sL80, sL81, sL82, sL83, sL84, sL85, sL86, sL87, sL88, sL89, sL90, sL91, sL92, sL93, sL94, sL95, sL96, sL97, sL98, sL99, sL100, sR76_5, sR76_16, sR76_18, sR76_19, sR76_20, sR76_21, sR76_23, sR76_25, sR76_26, sR76_27, sR76_28, sR76_29, sR76_30, sR76_31, sR76_32, sR76_33, sR76_34, sR76_37, sR76_38, sR76_39, sR76_40, sR76_41, sR76_42, ↓sB76_5, ↓sB76_16, ↓sB76_18, ↓sB76_19, ↓sB76_20, ↓sB76_21, ↓sB76_23, ↓sB76_25, ↓sB76_26, ↓sB76_27, ↓sB76_28, ↓sB76_29, ↓sB76_30, ↓sB76_31, ↓sB76_32, ↓sB76_33, ↓sB76_34, ↓sB76_37, ↓sB76_38, ↓sB76_39, ↓sB76_40, ↓sB76_41, ↓sB76_42, ↓bd_of r3, q.fK, q.f0, q.f1, q.f2, q.f3, q.f4, q.f7, q.f8, q.f9, ↓zc_of (fX12_cardOf_eq s2 cd2 tok hx hy), zsI_aI]
          rw [suq_fill hps, show fcn (sPs (hc t x i) (hc t x j)) (hc t x) (y + 1) = fcn (sPs (hc t x i) (hc t x j)) (hc t x) y + 1 by rw [fcn, if_pos hps]]
          rfl
    · show bX12_laysSuit_197 h 76 (iI x) (iI i) (iI j) _ (iI (tk t)) (zaI h 80 _) = _
      unfold bX12_laysSuit_197
      simp (maxSteps := 1000000) (disch := (first | assumption | exact ne_b rfl | omega)) only [↓reduceIte, ↓zlet_eq, ↓bdR_sI, ↓bdR_sJ, ↓bdR_aI, zc2_some, Option.bind_some, ↓si_m1, ↓si_m2, ↓si_m3, iI_lit, iI_add, iI_sub, iI_mul, leT, leF, ltT, ltF, eqT, eqF, zinT, clI, Int.toNat_natCast, Int.reduceToNat, tN1, tNa, tN0, tNm, if_pos, if_neg, zI_sI, zI_sJ, zI_sR, zJ_sI, zJ_sJ, zJ_sR, zR_sI, zR_sJ, zR_sR, zK_sI, zK_sJ, zK_sR, zL_sI, zL_sJ, zL_sR, zI_aI, zJ_aI, zR_aI, zK_aI, zL_aI, z2_at, z2_a, z2_k, z1_self, z1_ne, true_and, and_true, bIt, bIf, Bool.false_eq_true, Bool.true_eq_false, eq_self, not_true_eq_false, not_false_eq_true, sK76, sK77, sK78, sK79, sK80, sK81, sK82, sK83, sK84, sK85, sK86, sK87, sK88, sK89, sK90, sK91, sK92, sK93, sK94, sK95, sK96, sK97, sK98, sK99, sK100, sL77, sL78, sL79, sL80, sL81, sL82, sL83, sL84, sL85, sL86, sL87, sL88, sL89, sL90, sL91, sL92, sL93, sL94, sL95, sL96, sL97, sL98, sL99, sL100, sR76_5, sR76_16, sR76_18, sR76_19, sR76_20, sR76_21, sR76_23, sR76_25, sR76_26, sR76_27, sR76_28, sR76_29, sR76_30, sR76_31, sR76_32, sR76_33, sR76_34, sR76_37, sR76_38, sR76_39, sR76_40, sR76_41, sR76_42, ↓sB76_5, ↓sB76_16, ↓sB76_18, ↓sB76_19, ↓sB76_20, ↓sB76_21, ↓sB76_23, ↓sB76_25, ↓sB76_26, ↓sB76_27, ↓sB76_28, ↓sB76_29, ↓sB76_30, ↓sB76_31, ↓sB76_32, ↓sB76_33, ↓sB76_34, ↓sB76_37, ↓sB76_38, ↓sB76_39, ↓sB76_40, ↓sB76_41, ↓sB76_42, ↓bd_of r3, q.fK, q.f0, q.f1, q.f2, q.f3, q.f4, q.f7, q.f8, q.f9]
    · show kX12_laysSuit_197 h 76 (iI od) 1 _ _ (zaI h 80 _) = _
      unfold kX12_laysSuit_197
      rw [show 1 + fcn (sPs (hc t x i) (hc t x j)) (hc t x) (tk t) = tsh t by omega]
      have eo := fX12_orders_eq (fr := 1) (num := od) (u := suq t x (hc t x i) (hc t x j) base (tk t)) (B := zI h 80) s htr r3 q tok bs1 c
      have fm2 : Fm [80] h (zaI h 80 (afill (tsh t) (fun j2 => iI (arA (suq t x (hc t x i) (hc t x j) base (tk t)) 1 (tsh t - 1) od (tsh t - 1) j2)) (zI h 80))) := Fm_aI _ _ (by simp)
      have s2 := s.fm fm2
      have q2 := q.fm fm2 (by simp; omega)
      have h3 := rowN_lt (tsh t) a1 a2
      have er := fX12_rowNumber_eq (r1 := 80) (fr := 0) (L := 5) (w := arA (suq t x (hc t x i) (hc t x j) base (tk t)) 1 (tsh t - 1) od (tsh t - 1)) s2 r3 q2 tok (sK80 s2) (sL80 s2) (by decide) (by omega) (fun y hy => ⟨by rw [zI_aI, z1_self, Nat.zero_add, afill_lt hy], a2 y hy⟩) a1
      have er' : fX12_rowNumber 76 80 (iI 0) (zaI h 80 (afill (tsh t) (fun j2 => iI (arA (suq t x (hc t x i) (hc t x j) base (tk t)) 1 (tsh t - 1) od (tsh t - 1) j2)) (zI h 80))) = some (iI (rowN (tn t) (arA (suq t x (hc t x i) (hc t x j) base (tk t)) 1 (tsh t - 1) od (tsh t - 1)) (tsh t)), (zaI h 80 (afill (tsh t) (fun j2 => iI (arA (suq t x (hc t x i) (hc t x j) base (tk t)) 1 (tsh t - 1) od (tsh t - 1) j2)) (zI h 80)))) := er
      have eo' : fX12_orders 76 (iI od) (iI 1) (zaI h 80 (afill (tsh t) (fun z => iI (suq t x (hc t x i) (hc t x j) base (tk t) z)) (zI h 80))) = some (zaI h 80 (afill (tsh t) (fun j2 => iI (arA (suq t x (hc t x i) (hc t x j) base (tk t)) 1 (tsh t - 1) od (tsh t - 1) j2)) (zI h 80))) := eo
      simp (maxSteps := 1000000) (disch := (first | assumption | exact ne_b rfl | omega)) only [↓reduceIte, ↓zlet_eq, ↓bdR_sI, ↓bdR_sJ, ↓bdR_aI, zc2_some, Option.bind_some, ↓si_m1, ↓si_m2, ↓si_m3, iI_lit, iI_add, iI_sub, iI_mul, leT, leF, ltT, ltF, eqT, eqF, zinT, clI, Int.toNat_natCast, Int.reduceToNat, tN1, tNa, tN0, tNm, if_pos, if_neg, zI_sI, zI_sJ, zI_sR, zJ_sI, zJ_sJ, zJ_sR, zR_sI, zR_sJ, zR_sR, zK_sI, zK_sJ, zK_sR, zL_sI, zL_sJ, zL_sR, zI_aI, zJ_aI, zR_aI, zK_aI, zL_aI, z2_at, z2_a, z2_k, z1_self, z1_ne, true_and, and_true, bIt, bIf, Bool.false_eq_true, Bool.true_eq_false, eq_self, not_true_eq_false, not_false_eq_true, sK76, sK77, sK78, sK79, sK80, sK81, sK82, sK83, sK84, sK85, sK86, sK87, sK88, sK89, sK90, sK91, sK92, sK93, sK94, sK95, sK96, sK97, sK98, sK99, sK100, sL77, sL78, sL79, sL80, sL81, sL82, sL83, sL84, sL85, sL86, sL87, sL88, sL89, sL90, sL91, sL92, sL93, sL94, sL95, sL96, sL97, sL98, sL99, sL100, sR76_5, sR76_16, sR76_18, sR76_19, sR76_20, sR76_21, sR76_23, sR76_25, sR76_26, sR76_27, sR76_28, sR76_29, sR76_30, sR76_31, sR76_32, sR76_33, sR76_34, sR76_37, sR76_38, sR76_39, sR76_40, sR76_41, sR76_42, ↓sB76_5, ↓sB76_16, ↓sB76_18, ↓sB76_19, ↓sB76_20, ↓sB76_21, ↓sB76_23, ↓sB76_25, ↓sB76_26, ↓sB76_27, ↓sB76_28, ↓sB76_29, ↓sB76_30, ↓sB76_31, ↓sB76_32, ↓sB76_33, ↓sB76_34, ↓sB76_37, ↓sB76_38, ↓sB76_39, ↓sB76_40, ↓sB76_41, ↓sB76_42, ↓bd_of r3, q.fK, ↓bd_of eo', er', fX11_tilts_eq q2 tok]
      rw [← Int.natCast_mul]
  · have hcm2 : (lg_cmp (jI od) (jI ((ff (tsh t - 1) (tsh t - 1) : Nat) : Int)) < iI 0) = False := eq_false (fun z => c (by have := hcm.mp z; omega))
    rw [if_neg c]
    refine ⟨h, ?_, Fm.rf⟩
    simp (maxSteps := 1000000) (disch := (first | assumption | exact ne_b rfl | omega)) only [↓reduceIte, ↓zlet_eq, ↓bdR_sI, ↓bdR_sJ, ↓bdR_aI, zc2_some, Option.bind_some, ↓si_m1, ↓si_m2, ↓si_m3, iI_lit, iI_add, iI_sub, iI_mul, leT, leF, ltT, ltF, eqT, eqF, zinT, clI, Int.toNat_natCast, Int.reduceToNat, tN1, tNa, tN0, tNm, if_pos, if_neg, zI_sI, zI_sJ, zI_sR, zJ_sI, zJ_sJ, zJ_sR, zR_sI, zR_sJ, zR_sR, zK_sI, zK_sJ, zK_sR, zL_sI, zL_sJ, zL_sR, zI_aI, zJ_aI, zR_aI, zK_aI, zL_aI, z2_at, z2_a, z2_k, z1_self, z1_ne, true_and, and_true, bIt, bIf, Bool.false_eq_true, Bool.true_eq_false, eq_self, not_true_eq_false, not_false_eq_true, sK76, sK77, sK78, sK79, sK80, sK81, sK82, sK83, sK84, sK85, sK86, sK87, sK88, sK89, sK90, sK91, sK92, sK93, sK94, sK95, sK96, sK97, sK98, sK99, sK100, sL77, sL78, sL79, sL80, sL81, sL82, sL83, sL84, sL85, sL86, sL87, sL88, sL89, sL90, sL91, sL92, sL93, sL94, sL95, sL96, sL97, sL98, sL99, sL100, sR76_5, sR76_16, sR76_18, sR76_19, sR76_20, sR76_21, sR76_23, sR76_25, sR76_26, sR76_27, sR76_28, sR76_29, sR76_30, sR76_31, sR76_32, sR76_33, sR76_34, sR76_37, sR76_38, sR76_39, sR76_40, sR76_41, sR76_42, ↓sB76_5, ↓sB76_16, ↓sB76_18, ↓sB76_19, ↓sB76_20, ↓sB76_21, ↓sB76_23, ↓sB76_25, ↓sB76_26, ↓sB76_27, ↓sB76_28, ↓sB76_29, ↓sB76_30, ↓sB76_31, ↓sB76_32, ↓sB76_33, ↓sB76_34, ↓sB76_37, ↓sB76_38, ↓sB76_39, ↓sB76_40, ↓sB76_41, ↓sB76_42, ↓bd_of r3, q.fK, q.f0, q.f1, q.f2, q.f3, q.f4, q.f7, q.f8, q.f9, e1, e2, e3, hlo, hcm2]
theorem fX12_laysSuit_eq {tr x : Nat} {t : Tk} {h : Zh} (s : St h) (htr : 101 ≤ tr) (r3 : zR h 76 3 = some tr) (q : Tr h tr t) (cd : Cd h t) (tok : Tok t) (hx : x < tH t) : ∃ h', fX12_laysSuit 76 (iI x) h = some (iI (layS t x), h') ∧ Fm [80] h h' := by
  obtain ⟨bn4, bn12, bu1, bu4, bnu, bk2, bk5, bkn, bp1, bp2, bpk, bH, bsp, bs1, bs4, bT1, bT16, bR1, bR2, bH1, bff, bff1⟩ := tok.b
  obtain ⟨rk1, rk2⟩ := rkN_b tok
  have hv := hc_vld tok hx
  have h1o := fX12_isOneOrder_eq s r3 q
  have hrd : iI (tn t) / iI (tu t) = iI (rkN t) := si_divN (by omega) (by omega) (by omega)
  unfold fX12_laysSuit layS
  cases e : anyO t
  · rw [e] at h1o
    rw [if_neg (by simp)]
    refine ⟨h, ?_, Fm.rf⟩
    simp (maxSteps := 1000000) (disch := (first | assumption | exact ne_b rfl | omega)) only [↓reduceIte, ↓zlet_eq, ↓bdR_sI, ↓bdR_sJ, ↓bdR_aI, zc2_some, Option.bind_some, ↓si_m1, ↓si_m2, ↓si_m3, iI_lit, iI_add, iI_sub, iI_mul, leT, leF, ltT, ltF, eqT, eqF, zinT, clI, Int.toNat_natCast, Int.reduceToNat, tN1, tNa, tN0, tNm, if_pos, if_neg, zI_sI, zI_sJ, zI_sR, zJ_sI, zJ_sJ, zJ_sR, zR_sI, zR_sJ, zR_sR, zK_sI, zK_sJ, zK_sR, zL_sI, zL_sJ, zL_sR, zI_aI, zJ_aI, zR_aI, zK_aI, zL_aI, z2_at, z2_a, z2_k, z1_self, z1_ne, true_and, and_true, bIt, bIf, Bool.false_eq_true, Bool.true_eq_false, eq_self, not_true_eq_false, not_false_eq_true, sK76, sK77, sK78, sK79, sK80, sK81, sK82, sK83, sK84, sK85, sK86, sK87, sK88, sK89, sK90, sK91, sK92, sK93, sK94, sK95, sK96, sK97, sK98, sK99, sK100, sL77, sL78, sL79, sL80, sL81, sL82, sL83, sL84, sL85, sL86, sL87, sL88, sL89, sL90, sL91, sL92, sL93, sL94, sL95, sL96, sL97, sL98, sL99, sL100, sR76_5, sR76_16, sR76_18, sR76_19, sR76_20, sR76_21, sR76_23, sR76_25, sR76_26, sR76_27, sR76_28, sR76_29, sR76_30, sR76_31, sR76_32, sR76_33, sR76_34, sR76_37, sR76_38, sR76_39, sR76_40, sR76_41, sR76_42, ↓sB76_5, ↓sB76_16, ↓sB76_18, ↓sB76_19, ↓sB76_20, ↓sB76_21, ↓sB76_23, ↓sB76_25, ↓sB76_26, ↓sB76_27, ↓sB76_28, ↓sB76_29, ↓sB76_30, ↓sB76_31, ↓sB76_32, ↓sB76_33, ↓sB76_34, ↓sB76_37, ↓sB76_38, ↓sB76_39, ↓sB76_40, ↓sB76_41, ↓sB76_42, ↓zc_of h1o, Bool.not_false]
  · rw [e] at h1o
    by_cases c : tp t = 1
    · have hst : tst t = false := by unfold anyO at e; cases h1 : tst t <;> simp_all
      simp (maxSteps := 1000000) (disch := (first | assumption | exact ne_b rfl | omega)) only [↓reduceIte, ↓zlet_eq, ↓bdR_sI, ↓bdR_sJ, ↓bdR_aI, zc2_some, Option.bind_some, ↓si_m1, ↓si_m2, ↓si_m3, iI_lit, iI_add, iI_sub, iI_mul, leT, leF, ltT, ltF, eqT, eqF, zinT, clI, Int.toNat_natCast, Int.reduceToNat, tN1, tNa, tN0, tNm, if_pos, if_neg, zI_sI, zI_sJ, zI_sR, zJ_sI, zJ_sJ, zJ_sR, zR_sI, zR_sJ, zR_sR, zK_sI, zK_sJ, zK_sR, zL_sI, zL_sJ, zL_sR, zI_aI, zJ_aI, zR_aI, zK_aI, zL_aI, z2_at, z2_a, z2_k, z1_self, z1_ne, true_and, and_true, bIt, bIf, Bool.false_eq_true, Bool.true_eq_false, eq_self, not_true_eq_false, not_false_eq_true, sK76, sK77, sK78, sK79, sK80, sK81, sK82, sK83, sK84, sK85, sK86, sK87, sK88, sK89, sK90, sK91, sK92, sK93, sK94, sK95, sK96, sK97, sK98, sK99, sK100, sL77, sL78, sL79, sL80, sL81, sL82, sL83, sL84, sL85, sL86, sL87, sL88, sL89, sL90, sL91, sL92, sL93, sL94, sL95, sL96, sL97, sL98, sL99, sL100, sR76_5, sR76_16, sR76_18, sR76_19, sR76_20, sR76_21, sR76_23, sR76_25, sR76_26, sR76_27, sR76_28, sR76_29, sR76_30, sR76_31, sR76_32, sR76_33, sR76_34, sR76_37, sR76_38, sR76_39, sR76_40, sR76_41, sR76_42, ↓sB76_5, ↓sB76_16, ↓sB76_18, ↓sB76_19, ↓sB76_20, ↓sB76_21, ↓sB76_23, ↓sB76_25, ↓sB76_26, ↓sB76_27, ↓sB76_28, ↓sB76_29, ↓sB76_30, ↓sB76_31, ↓sB76_32, ↓sB76_33, ↓sB76_34, ↓sB76_37, ↓sB76_38, ↓sB76_39, ↓sB76_40, ↓sB76_41, ↓sB76_42, ↓zc_of h1o, Bool.not_true, ↓bd_of r3, q.fK, q.f0, q.f1, q.f2, q.f3, q.f4, q.f7, q.f8, q.f9, hrd]
      have hl := lp_sb (k := fun q : Nat × Int32 × Int32 × Int32 × Int32 × Zh => kX12_laysSuit_39 h 76 (iI x) (iI (rkN t)) q.1 q.2.1 q.2.2.1 q.2.2.2.1 q.2.2.2.2.1 q.2.2.2.2.2) (body := fun q : Int32 × Int32 × Int32 × Int32 × Zh => bX12_laysSuit_39 h 76 (iI x) (iI (rkN t)) q.1 q.2.1 q.2.2.1 q.2.2.2.1 q.2.2.2.2) (st := fun i => ((iI (i : Int), 0, 0, 0, h) : Int32 × Int32 × Int32 × Int32 × Zh)) (fun i => decide (sj t x i < tk t - (i + 1))) 0 1 (fun i => ((iI (i : Int), iI ((i + 1 + sj t x i : Nat) : Int), iI (hc t x i), iI (hc t x (i + 1 + sj t x i)), h) : Int32 × Int32 × Int32 × Int32 × Zh)) ((iI (tk t), 0, 0, 0, h) : Int32 × Int32 × Int32 × Int32 × Zh) (tk t) rfl (by omega) ?_ ?_ ?_
      · have hl2 : ((lp (fun q : Int32 × Int32 × Int32 × Int32 × Zh => bX12_laysSuit_39 h 76 (iI x) (iI (rkN t)) q.1 q.2.1 q.2.2.1 q.2.2.2.1 q.2.2.2.2) zB (iI 0, iI 0, iI 0, iI 0, h)).bind fun q => kX12_laysSuit_39 h 76 (iI x) (iI (rkN t)) q.1 q.2.1 q.2.2.1 q.2.2.2.1 q.2.2.2.2.1 q.2.2.2.2.2) = _ := hl
        rw [hl2]
        by_cases c2 : si t x < tk t
        · obtain ⟨o1, o2, o3, o4⟩ := suit_ok tok hx hst c2
          have hne := near_ok rk1 o2 o4
          have c3 : zfst (fun i => decide (sj t x i < tk t - (i + 1))) (tk t) < tk t := c2
          rw [if_pos c3, if_pos ⟨c, c2⟩]
          show ∃ h', kX12_laysSuit_39 h 76 (iI x) (iI (rkN t)) 1 (iI (si t x)) (iI ((si t x + 1 + sj t x (si t x) : Nat) : Int)) (iI (hc t x (si t x))) (iI (hc t x (si t x + 1 + sj t x (si t x)))) h = _ ∧ _
          have e1 : (hc t x (si t x + 1 + sj t x (si t x)) : Int) - (hc t x (si t x) : Int) = ((hc t x (si t x + 1 + sj t x (si t x)) - hc t x (si t x) : Nat) : Int) := by omega
          unfold kX12_laysSuit_39 layT
          by_cases c4 : 2 * (hc t x (si t x + 1 + sj t x (si t x)) - hc t x (si t x)) ≤ rkN t
          · obtain ⟨h', r1, r2⟩ := msuit_row (i := si t x) (j := si t x + 1 + sj t x (si t x)) (base := hc t x (si t x)) (od := hc t x (si t x + 1 + sj t x (si t x)) - hc t x (si t x) - 1) s htr r3 q cd tok hx c c2 o1 (by omega) (Or.inl rfl) (by omega) (by omega)
            refine ⟨h', ?_, r2⟩
            rw [show hc t x (si t x + 1 + sj t x (si t x)) - hc t x (si t x) - 1 + 1 = hc t x (si t x + 1 + sj t x (si t x)) - hc t x (si t x) by omega] at r1
            simp (maxSteps := 1000000) (disch := (first | assumption | exact ne_b rfl | omega)) only [↓reduceIte, ↓zlet_eq, ↓bdR_sI, ↓bdR_sJ, ↓bdR_aI, zc2_some, Option.bind_some, ↓si_m1, ↓si_m2, ↓si_m3, iI_lit, iI_add, iI_sub, iI_mul, leT, leF, ltT, ltF, eqT, eqF, zinT, clI, Int.toNat_natCast, Int.reduceToNat, tN1, tNa, tN0, tNm, if_pos, if_neg, zI_sI, zI_sJ, zI_sR, zJ_sI, zJ_sJ, zJ_sR, zR_sI, zR_sJ, zR_sR, zK_sI, zK_sJ, zK_sR, zL_sI, zL_sJ, zL_sR, zI_aI, zJ_aI, zR_aI, zK_aI, zL_aI, z2_at, z2_a, z2_k, z1_self, z1_ne, true_and, and_true, bIt, bIf, Bool.false_eq_true, Bool.true_eq_false, eq_self, not_true_eq_false, not_false_eq_true, e1, jX12_laysSuit_118, jX12_laysSuit_132, r1, c4]
          · obtain ⟨h', r1, r2⟩ := msuit_row (i := si t x) (j := si t x + 1 + sj t x (si t x)) (base := hc t x (si t x + 1 + sj t x (si t x))) (od := rkN t - (hc t x (si t x + 1 + sj t x (si t x)) - hc t x (si t x)) - 1) s htr r3 q cd tok hx c c2 o1 (by omega) (Or.inr rfl) (by omega) (by omega)
            refine ⟨h', ?_, r2⟩
            rw [show rkN t - (hc t x (si t x + 1 + sj t x (si t x)) - hc t x (si t x)) - 1 + 1 = rkN t - (hc t x (si t x + 1 + sj t x (si t x)) - hc t x (si t x)) by omega] at r1
            have e6 : (rkN t : Int) - ((hc t x (si t x + 1 + sj t x (si t x)) - hc t x (si t x) : Nat) : Int) = ((rkN t - (hc t x (si t x + 1 + sj t x (si t x)) - hc t x (si t x)) : Nat) : Int) := by omega
            simp (maxSteps := 1000000) (disch := (first | assumption | exact ne_b rfl | omega)) only [↓reduceIte, ↓zlet_eq, ↓bdR_sI, ↓bdR_sJ, ↓bdR_aI, zc2_some, Option.bind_some, ↓si_m1, ↓si_m2, ↓si_m3, iI_lit, iI_add, iI_sub, iI_mul, leT, leF, ltT, ltF, eqT, eqF, zinT, clI, Int.toNat_natCast, Int.reduceToNat, tN1, tNa, tN0, tNm, if_pos, if_neg, zI_sI, zI_sJ, zI_sR, zJ_sI, zJ_sJ, zJ_sR, zR_sI, zR_sJ, zR_sR, zK_sI, zK_sJ, zK_sR, zL_sI, zL_sJ, zL_sR, zI_aI, zJ_aI, zR_aI, zK_aI, zL_aI, z2_at, z2_a, z2_k, z1_self, z1_ne, true_and, and_true, bIt, bIf, Bool.false_eq_true, Bool.true_eq_false, eq_self, not_true_eq_false, not_false_eq_true, e1, e6, jX12_laysSuit_118, jX12_laysSuit_132, r1, c4]
        · have c3 : ¬ zfst (fun i => decide (sj t x i < tk t - (i + 1))) (tk t) < tk t := c2
          rw [if_neg c3, if_neg (fun z => c2 z.2)]
          exact ⟨h, rfl, Fm.rf⟩
      · intro i hi hP
        show bX12_laysSuit_39 h 76 (iI x) (iI (rkN t)) (iI i) 0 0 0 h = _
        unfold bX12_laysSuit_39
        have hP2 : ¬ (sj t x i < tk t - (i + 1)) := of_decide_eq_false hP
        have hin := msuit_in (g := h) (i := i) s r3 q.fK q cd tok hx hi
        rw [if_neg hP2] at hin
        rw [bd_of r3, if_pos q.fK, q.f2, if_neg (by rw [iI_le ⟨by omega, by omega⟩ ⟨by omega, by omega⟩]; omega), show (1 : Int32) = iI 1 from rfl, iI_add, zlet_eq]
        refine (lp_bd hin).trans ?_
        show kX12_laysSuit_55 h 76 (iI x) (iI (rkN t)) (iI i) 2 (iI (tk t)) 0 0 h = _
        unfold kX12_laysSuit_55
        simp (maxSteps := 1000000) (disch := (first | assumption | exact ne_b rfl | omega)) only [↓reduceIte, ↓zlet_eq, ↓bdR_sI, ↓bdR_sJ, ↓bdR_aI, zc2_some, Option.bind_some, ↓si_m1, ↓si_m2, ↓si_m3, iI_lit, iI_add, iI_sub, iI_mul, leT, leF, ltT, ltF, eqT, eqF, zinT, clI, Int.toNat_natCast, Int.reduceToNat, tN1, tNa, tN0, tNm, if_pos, if_neg, zI_sI, zI_sJ, zI_sR, zJ_sI, zJ_sJ, zJ_sR, zR_sI, zR_sJ, zR_sR, zK_sI, zK_sJ, zK_sR, zL_sI, zL_sJ, zL_sR, zI_aI, zJ_aI, zR_aI, zK_aI, zL_aI, z2_at, z2_a, z2_k, z1_self, z1_ne, true_and, and_true, bIt, bIf, Bool.false_eq_true, Bool.true_eq_false, eq_self, not_true_eq_false, not_false_eq_true]
        rfl
      · intro i hi hP
        show bX12_laysSuit_39 h 76 (iI x) (iI (rkN t)) (iI i) 0 0 0 h = _
        unfold bX12_laysSuit_39
        have hP2 : sj t x i < tk t - (i + 1) := of_decide_eq_true hP
        have hin := msuit_in (g := h) (i := i) s r3 q.fK q cd tok hx hi
        rw [if_pos hP2] at hin
        rw [bd_of r3, if_pos q.fK, q.f2, if_neg (by rw [iI_le ⟨by omega, by omega⟩ ⟨by omega, by omega⟩]; omega), show (1 : Int32) = iI 1 from rfl, iI_add, zlet_eq]
        refine (lp_bd hin).trans ?_
        rfl
      · show bX12_laysSuit_39 h 76 (iI x) (iI (rkN t)) (iI (tk t)) 0 0 0 h = _
        unfold bX12_laysSuit_39
        rw [bd_of r3, if_pos q.fK, q.f2, if_pos (by rw [iI_le ⟨by omega, by omega⟩ ⟨by omega, by omega⟩]; omega)]
    · rw [if_neg (fun z => c z.2.1)]
      refine ⟨h, ?_, Fm.rf⟩
      simp (maxSteps := 1000000) (disch := (first | assumption | exact ne_b rfl | omega)) only [↓reduceIte, ↓zlet_eq, ↓bdR_sI, ↓bdR_sJ, ↓bdR_aI, zc2_some, Option.bind_some, ↓si_m1, ↓si_m2, ↓si_m3, iI_lit, iI_add, iI_sub, iI_mul, leT, leF, ltT, ltF, eqT, eqF, zinT, clI, Int.toNat_natCast, Int.reduceToNat, tN1, tNa, tN0, tNm, if_pos, if_neg, zI_sI, zI_sJ, zI_sR, zJ_sI, zJ_sJ, zJ_sR, zR_sI, zR_sJ, zR_sR, zK_sI, zK_sJ, zK_sR, zL_sI, zL_sJ, zL_sR, zI_aI, zJ_aI, zR_aI, zK_aI, zL_aI, z2_at, z2_a, z2_k, z1_self, z1_ne, true_and, and_true, bIt, bIf, Bool.false_eq_true, Bool.true_eq_false, eq_self, not_true_eq_false, not_false_eq_true, sK76, sK77, sK78, sK79, sK80, sK81, sK82, sK83, sK84, sK85, sK86, sK87, sK88, sK89, sK90, sK91, sK92, sK93, sK94, sK95, sK96, sK97, sK98, sK99, sK100, sL77, sL78, sL79, sL80, sL81, sL82, sL83, sL84, sL85, sL86, sL87, sL88, sL89, sL90, sL91, sL92, sL93, sL94, sL95, sL96, sL97, sL98, sL99, sL100, sR76_5, sR76_16, sR76_18, sR76_19, sR76_20, sR76_21, sR76_23, sR76_25, sR76_26, sR76_27, sR76_28, sR76_29, sR76_30, sR76_31, sR76_32, sR76_33, sR76_34, sR76_37, sR76_38, sR76_39, sR76_40, sR76_41, sR76_42, ↓sB76_5, ↓sB76_16, ↓sB76_18, ↓sB76_19, ↓sB76_20, ↓sB76_21, ↓sB76_23, ↓sB76_25, ↓sB76_26, ↓sB76_27, ↓sB76_28, ↓sB76_29, ↓sB76_30, ↓sB76_31, ↓sB76_32, ↓sB76_33, ↓sB76_34, ↓sB76_37, ↓sB76_38, ↓sB76_39, ↓sB76_40, ↓sB76_41, ↓sB76_42, ↓zc_of h1o, Bool.not_true, ↓bd_of r3, q.fK, q.f0, q.f1, q.f2, q.f3, q.f4, q.f7, q.f8, q.f9]
