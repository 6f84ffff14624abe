/-! the model's table: all hands -/
theorem knows_35 {t : Tk} {tr c0 : Nat} {pr0 ow0 : Nat → Option Nat} {f0 : Nat → Option Int} {g h0 : Zh} (tok : Tok t) (hH : tH t ≤ 300) (sg : St g) (mx : MX h0 t tr) (h36 : zI h0 76 36 = iI 1) (cn : Cns (tH t) (fcr t (crC t)) pr0 ow0) (pf : Prf (tH t) pr0) (pm : PM h0 t pr0 ow0 f0 c0 (tH t)) (hc0 : c0 ≤ 2000) (hD : Dn h0 t (fun _ => false)) : ∃ x' h', lp (fun q : Int32 × Zh => bX12_knowsTable_35 g 76 q.1 q.2) zB (iI 0, h0) = some (1, (x', h')) ∧ Fm [76, 80, 82, 86, 87, 88, 89, 90, 91, 92, 93] h0 h' ∧ (∀ j, j ≠ 22 → zI h' 76 j = zI h0 76 j) ∧ ∃ M, Lst t M ∧ ∀ x, x < tH t → zI h' 92 x = iI (M x : Nat) := by
  obtain ⟨bn4, bn12, bu1, bu4, bnu, bk2, bk5, bkn, bp1, bp2, bpk, bH, bsp, bs1, bs4, bT1, bT16, bR1, bR2, bH1, bff, bff1⟩ := tok.b
  have hpT : pcn t * tT t ≤ 120 * 16 := Nat.mul_le_mul (pcn_b tok).2 bT16
  have mS : ∀ x, x ∈ [76, 80, 82, 86, 87, 88, 89, 90, 91, 92, 93] → x < 101 ∧ x ≠ 78 ∧ x ≠ 83 := by simp
  have mS3 : ∀ x, x ∈ [76, 80, 82] → x < 101 ∧ x ≠ 78 ∧ x ≠ 83 := by simp
  have mS1 : ∀ x, x ∈ [93] → x < 101 ∧ x ≠ 78 ∧ x ≠ 83 := by simp
  have m3 : ∀ x, x ∈ [76, 80, 82] → x ∈ [76, 80, 82, 86, 87, 88, 89, 90, 91, 92, 93] := by simp
  have m1 : ∀ x, x ∈ [93] → x ∈ [76, 80, 82, 86, 87, 88, 89, 90, 91, 92, 93] := by simp
  have m9 : ∀ x, x ∈ [76, 80, 82, 86, 87, 88, 89, 90, 91] → x ∈ [76, 80, 82, 86, 87, 88, 89, 90, 91, 92, 93] := by simp
  have := lp_cnt (body := fun q : Int32 × Zh => bX12_knowsTable_35 g 76 q.1 q.2) (tH t) (fun x z => ∃ h pr ow f c, z = ((iI (x : Int), h) : Int32 × Zh) ∧ Fm [76, 80, 82, 86, 87, 88, 89, 90, 91, 92, 93] h0 h ∧ (∀ j, j ≠ 22 → zI h 76 j = zI h0 76 j) ∧ PM h t pr ow f c (tH t) ∧ c ≤ c0 + 2 * x ∧ Cns (tH t) (fcr t (crC t)) pr ow ∧ Prf (tH t) pr ∧ Dn h t (fun _ => false) ∧ ∀ y, y < x → ∃ row : Nat, pr y = some row ∧ zI h 92 y = iI row ∧ ∀ r, r < row → fcr t (crC t) y r → Lq t (crC t) y pr r) (fun e z => e = 1 ∧ Fm [76, 80, 82, 86, 87, 88, 89, 90, 91, 92, 93] h0 z.2 ∧ (∀ j, j ≠ 22 → zI z.2 76 j = zI h0 76 j) ∧ ∃ pr ow, Cns (tH t) (fcr t (crC t)) pr ow ∧ ∀ y, y < tH t → ∃ row : Nat, pr y = some row ∧ zI z.2 92 y = iI row ∧ ∀ r, r < row → fcr t (crC t) y r → Lq t (crC t) y pr r) ?_ ?_ (by omega) (s := (iI 0, h0)) ⟨h0, pr0, ow0, f0, c0, rfl, Fm.rf, fun _ _ => rfl, pm, by omega, cn, pf, hD, fun y hy => by omega⟩
  · obtain ⟨e, z, l1, l2, l3, l4, pr, ow, l9, l11⟩ := this
    have e0 : e = 0 := by omega
    subst e0
    have hM : ∀ y, y < tH t → pr y = some ((pr y).getD 0) := fun y hy => by
      obtain ⟨row, h1, -⟩ := l11 y hy
      rw [h1]; rfl
    refine ⟨z.1, z.2, l1, l3, l4, fun y => (pr y).getD 0, ⟨⟨fun x hx => ?_, fun x y hxy hy e => ?_⟩, fun x r hx hr M2 t2 hag q => ?_⟩, fun x hx => ?_⟩
    · exact (crC_fit tok hx _).mp (l9.1 x _ hx (hM x hx)).1
    · have h1 := (l9.1 x _ (by omega) (hM x (by omega))).2
      have h2 := (l9.1 y _ hy (hM y hy)).2
      dsimp only at e
      rw [e, h2] at h1
      have := Option.some.inj h1
      omega
    · obtain ⟨row, h1, -, h2⟩ := l11 x hx
      have hrow : (pr x).getD 0 = row := by rw [h1]; rfl
      dsimp only at hr
      rw [hrow] at hr
      have hfit : fcr t (crC t) x r := by
        rw [← q]
        exact (crC_fit tok hx _).mpr (t2.1 x hx)
      refine h2 r hr hfit M2 (fun y hy => (crC_fit tok hy _).mpr (t2.1 y hy)) t2.2 (fun y hy => ?_) q
      rw [hM y (by omega), hag y hy]
    · obtain ⟨row, h1, h2, -⟩ := l11 x hx
      rw [h2]; show _ = iI (((pr x).getD 0 : Nat) : Int); rw [h1]; rfl
  · intro x z hx ⟨h, pr, ow, f, c, ez, fm, k1, w1, wc, w2, w3, wd, w4⟩
    subst ez
    have mx1 := mx.fm fm k1 mS
    have h17 : zI h 76 17 = iI (tH t) := mx1.2.2.2.2.1.1
    have h36' : zI h 76 36 = iI 1 := by rw [k1 36 (by decide)]; exact h36
    obtain ⟨a1, a2, a3, a4, a5, a6⟩ := id mx1
    obtain ⟨h2, f1, f2, f3, f4⟩ := fX12_fitsOf_eq (x := x) a1 a2 a3 a4 a5 a6 tok hx
    have s2 : St h2 := a1.fm f2
    have c62 := knows_62 (g := g) (h := h2) (P := pcn t * tT t) sg s2 (by omega)
    have fmA : Fm [93] h2 (zaI h2 93 (afill (pcn t * tT t) (zI h2 82) (zI h2 93))) := Fm_aI _ _ (by simp)
    have h93 : ∀ v, v < pcn t * tT t → zI (zaI h2 93 (afill (pcn t * tT t) (zI h2 82) (zI h2 93))) 93 v = iI (rwA t x v) := fun v hv => by
      have hdv : v / tT t < pcn t := Nat.div_lt_of_lt_mul (by rw [Nat.mul_comm]; exact hv)
      have hmv : v % tT t < tT t := Nat.mod_lt _ (by omega)
      have := f4.2 (v / tT t) (v % tT t) hdv hmv
      rw [Nat.div_add_mod' v (tT t)] at this
      rw [zI_aI, z1_self, afill_lt hv, this]
      rfl
    obtain ⟨h3, e3⟩ : ∃ h3, h3 = zaI h2 93 (afill (pcn t * tT t) (zI h2 82) (zI h2 93)) := ⟨_, rfl⟩
    rw [← e3] at c62 fmA h93
    have mx2 := mx1.fm f2 f3 mS3
    have mx3 := mx2.fm fmA (fun j _ => by rw [fmA.I (by simp)]) mS1
    have pm3 := (w1.fm f2 (by simp) (by simp) (by simp)).fm fmA (by simp) (by simp) (by simp)
    have hD3 : Dn h3 t (fun _ => false) := by unfold Dn; rw [fmA.I (by simp), f2.I (by simp)]; exact wd
    obtain ⟨v, h4, r1, r2, r3, r4, pr', ow', f', c', g1, g2, g3, g4, g5, g6, g7, g8⟩ := knows_87 (g := g) tok (by omega) sg mx3 w2 w3 pm3 hD3 hx (by omega) h93
    have s4 : St h4 := mx3.1.fm r2
    have e88 : zI h4 88 x = iI (rwA t x v) := by
      have := g1.1 x hx (by omega)
      rw [g6] at this
      exact this
    have fm4 : Fm [76, 80, 82, 86, 87, 88, 89, 90, 91, 92, 93] h0 h4 := ((fm.tr (f2.mono m3)).tr (fmA.mono m1)).tr (r2.mono m9)
    have fm5 : Fm [92] h4 (zsI h4 92 x (iI (rwA t x v))) := Fm_sI _ _ _ (by simp)
    have k4 : ∀ j, j ≠ 22 → zI h4 76 j = zI h0 76 j := fun j hj => by rw [r3 j hj, fmA.I (by simp), f3 j hj, k1 j hj]
    refine Or.inl ⟨(iI ((x + 1 : Nat) : Int), zsI h4 92 x (iI (rwA t x v))), ?_, _, pr', ow', f', c', rfl, fm4.tr (fm5.mono (by simp)), fun j hj => by rw [fm5.I (by simp), k4 j hj], g1.fm fm5 (by simp) (by simp) (by simp), by omega, g3, g4, by unfold Dn; rw [fm5.I (by simp)]; exact r4, fun y hy => ?_⟩
    · show bX12_knowsTable_35 g 76 (iI x) h = _
      have e22 : zI h2 76 22 = iI ((pcn t * tT t : Nat) : Int) := f4.1
      have hb : bX12_knowsTable_35 g 76 (iI x) h = kX12_knowsTable_62 g 76 (iI x) 1 (iI ((pcn t * tT t : Nat) : Int)) h3 := by
        clear w1 w2 w3 wd w4 pm3 g1 g3 g4 g8 h93 f4 r1 mx mx1 mx2 mx3 pm cn pf hpT
        unfold bX12_knowsTable_35
        simp (maxSteps := 1000000) (disch := (first | assumption | exact ne_b rfl | omega)) only [↓reduceIte, ↓zlet_eq, ↓bdR_sI, ↓bdR_sJ, ↓bdR_aI, zc2_some, Option.bind_some, ↓si_m1, ↓si_m2, ↓si_m3, iI_lit, iI_add, iI_sub, iI_mul, leT, leF, ltT, ltF, eqT, eqF, zinT, clI, Int.toNat_natCast, Int.reduceToNat, tN1, tNa, tN0, tNm, if_pos, if_neg, zI_sI, zI_sJ, zI_sR, zJ_sI, zJ_sJ, zJ_sR, zR_sI, zR_sJ, zR_sR, zK_sI, zK_sJ, zK_sR, zL_sI, zL_sJ, zL_sR, zI_aI, zJ_aI, zR_aI, zK_aI, zL_aI, z2_at, z2_a, z2_k, z1_self, z1_ne, true_and, and_true, bIt, bIf, Bool.false_eq_true, Bool.true_eq_false, eq_self, not_true_eq_false, not_false_eq_true, h17, h36', ↓bd_of f1, e22]
        exact lp_bd c62
      rw [hb]
      unfold kX12_knowsTable_62
      refine (lp_bd r1).trans ?_
      show kX12_knowsTable_87 g 76 (iI x) 1 (iI v) h4 = _
      clear w1 w2 w3 wd w4 pm3 g1 g3 g4 g8 h93 f4 r1 mx mx1 mx2 mx3 pm cn pf hpT
      unfold kX12_knowsTable_87
      simp (maxSteps := 1000000) (disch := (first | assumption | exact ne_b rfl | omega)) only [↓reduceIte, ↓zlet_eq, ↓bdR_sI, ↓bdR_sJ, ↓bdR_aI, zc2_some, Option.bind_some, ↓si_m1, ↓si_m2, ↓si_m3, iI_lit, iI_add, iI_sub, iI_mul, leT, leF, ltT, ltF, eqT, eqF, zinT, clI, Int.toNat_natCast, Int.reduceToNat, tN1, tNa, tN0, tNm, if_pos, if_neg, zI_sI, zI_sJ, zI_sR, zJ_sI, zJ_sJ, zJ_sR, zR_sI, zR_sJ, zR_sR, zK_sI, zK_sJ, zK_sR, zL_sI, zL_sJ, zL_sR, zI_aI, zJ_aI, zR_aI, zK_aI, zL_aI, z2_at, z2_a, z2_k, z1_self, z1_ne, true_and, and_true, bIt, bIf, Bool.false_eq_true, Bool.true_eq_false, eq_self, not_true_eq_false, not_false_eq_true, sK76, sK77, sK78, sK79, sK80, sK81, sK82, sK83, sK84, sK85, sK86, sK87, sK88, sK89, sK90, sK91, sK92, sK93, sK94, sK95, sK96, sK97, sK98, sK99, sK100, sL77, sL78, sL79, sL80, sL81, sL82, sL83, sL84, sL85, sL86, sL87, sL88, sL89, sL90, sL91, sL92, sL93, sL94, sL95, sL96, sL97, sL98, sL99, sL100, sR76_5, sR76_16, sR76_18, sR76_19, sR76_20, sR76_21, sR76_23, sR76_25, sR76_26, sR76_27, sR76_28, sR76_29, sR76_30, sR76_31, sR76_32, sR76_33, sR76_34, sR76_37, sR76_38, sR76_39, sR76_40, sR76_41, sR76_42, ↓sB76_5, ↓sB76_16, ↓sB76_18, ↓sB76_19, ↓sB76_20, ↓sB76_21, ↓sB76_23, ↓sB76_25, ↓sB76_26, ↓sB76_27, ↓sB76_28, ↓sB76_29, ↓sB76_30, ↓sB76_31, ↓sB76_32, ↓sB76_33, ↓sB76_34, ↓sB76_37, ↓sB76_38, ↓sB76_39, ↓sB76_40, ↓sB76_41, ↓sB76_42, e88]
      all_goals rfl
    · have hL : ∀ (y r : Nat), y ≤ x → Lq t (crC t) y pr r → Lq t (crC t) y pr' r := fun y r hy hq M m1 m2 m3 => hq M m1 m2 (fun z hz => by rw [← g7 z (by omega)]; exact m3 z hz)
      by_cases c2 : y = x
      · rw [c2]
        refine ⟨_, g6, by rw [zI_sI, z2_at], fun r hr hf => ?_⟩
        obtain ⟨w, w5, w6⟩ := rwA_low tok hx hf hr
        rw [← w6]
        exact hL x _ (Nat.le_refl _) (g8 w w5)
      · obtain ⟨row2, v1, v2, v3⟩ := w4 y (by omega)
        refine ⟨row2, by rw [g7 y (by omega)]; exact v1, ?_, fun r hr hf => hL y r (by omega) (v3 r hr hf)⟩
        rw [zI_sI, z2_k _ _ _ c2, r2.I (by simp), fmA.I (by simp), f2.I (by simp)]
        exact v2
  · intro z ⟨h, pr, ow, f, c, ez, fm, k1, w1, wc, w2, w3, wd, w4⟩
    subst ez
    have mx1 := mx.fm fm k1 mS
    have h17 : zI h 76 17 = iI (tH t) := mx1.2.2.2.2.1.1
    refine ⟨0, (iI (tH t), h), ?_, rfl, fm, k1, pr, ow, w2, w4⟩
    show bX12_knowsTable_35 g 76 (iI (tH t)) h = _
    clear mx1 mx pm cn
    unfold bX12_knowsTable_35
    simp (maxSteps := 1000000) (disch := (first | assumption | exact ne_b rfl | omega)) only [↓reduceIte, ↓zlet_eq, ↓bdR_sI, ↓bdR_sJ, ↓bdR_aI, zc2_some, Option.bind_some, ↓si_m1, ↓si_m2, ↓si_m3, iI_lit, iI_add, iI_sub, iI_mul, leT, leF, ltT, ltF, eqT, eqF, zinT, clI, Int.toNat_natCast, Int.reduceToNat, tN1, tNa, tN0, tNm, if_pos, if_neg, zI_sI, zI_sJ, zI_sR, zJ_sI, zJ_sJ, zJ_sR, zR_sI, zR_sJ, zR_sR, zK_sI, zK_sJ, zK_sR, zL_sI, zL_sJ, zL_sR, zI_aI, zJ_aI, zR_aI, zK_aI, zL_aI, z2_at, z2_a, z2_k, z1_self, z1_ne, true_and, and_true, bIt, bIf, Bool.false_eq_true, Bool.true_eq_false, eq_self, not_true_eq_false, not_false_eq_true, h17]
