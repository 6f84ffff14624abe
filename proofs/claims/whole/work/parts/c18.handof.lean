/-! calls on both: handOf -/
def xs5 (a b c d e : Int) (i : Nat) : Int := if i = 0 then a else if i = 1 then b else if i = 2 then c else if i = 3 then d else e
def w5 (h : Zh) (r : Nat) (a b c d e : Int) : Zh := zsI (zsI (zsI (zsI (zsI h r 0 (iI a)) r 1 (iI b)) r 2 (iI c)) r 3 (iI d)) r 4 (iI e)
theorem w5_fm (h : Zh) (r : Nat) (a b c d e : Int) : Fm [r] h (w5 h r a b c d e) := ((((Fm_sI _ _ _ (by simp)).tr (Fm_sI _ _ _ (by simp))).tr (Fm_sI _ _ _ (by simp))).tr (Fm_sI _ _ _ (by simp))).tr (Fm_sI _ _ _ (by simp))
theorem w5_at (h : Zh) (r : Nat) (a b c d e : Int) : ∀ i, i < 5 → zI (w5 h r a b c d e) r i = iI (xs5 a b c d e i) := by
  intro i hi
  have : i = 0 ∨ i = 1 ∨ i = 2 ∨ i = 3 ∨ i = 4 := by omega
  unfold w5
  rcases this with rfl | rfl | rfl | rfl | rfl
  · rw [zI_sI, z2_k _ _ _ (by decide), zI_sI, z2_k _ _ _ (by decide), zI_sI, z2_k _ _ _ (by decide), zI_sI, z2_k _ _ _ (by decide), zI_sI, z2_at]; rfl
  · rw [zI_sI, z2_k _ _ _ (by decide), zI_sI, z2_k _ _ _ (by decide), zI_sI, z2_k _ _ _ (by decide), zI_sI, z2_at]; rfl
  · rw [zI_sI, z2_k _ _ _ (by decide), zI_sI, z2_k _ _ _ (by decide), zI_sI, z2_at]; rfl
  · rw [zI_sI, z2_k _ _ _ (by decide), zI_sI, z2_at]; rfl
  · rw [zI_sI, z2_at]; rfl
theorem xs5_r {a b c d e : Int} (ha : iR a) (hb : iR b) (hc : iR c) (hd : iR d) (he : iR e) (i : Nat) : iR (xs5 a b c d e i) := by
  unfold xs5
  split
  · exact ha
  · split
    · exact hb
    · split
      · exact hc
      · split
        · exact hd
        · exact he
theorem hof_114 {g h : Zh} {t : Tk} {tr i : Nat} {x : Nat → Int} (tok : Tok t) (sg : St g) (kg : zK g tr = 11) (s : St h) (r3 : zR h 76 3 = some tr) (qt : Tr h tr t) (hi : i < 5) (hx : ∀ j, j < 5 → zI h 79 j = iI (x j) ∧ iR (x j)) : ∃ e y, lp (fun q : Int32 × Zh => bX12_handOf_114 g 76 79 (iI i) q.1 q.2) zB (iI 0, h) = some (e, (y, h)) ∧ ((e = 1 ∧ i < tk t ∧ ∃ j, j < i ∧ x j = x i) ∨ (e = 2 ∧ ¬ (i < tk t ∧ ∃ j, j < i ∧ x j = x i))) := by
  obtain ⟨bn4, bn12, bu1, bu4, bnu, bk2, bk5, bkn, bp1, bp2, bpk, bH, bsp, bs1, bs4, bT1, bT16, bR1, bR2, bH1, bff, bff1⟩ := tok.b
  have f2 := qt.f2
  by_cases p : i < tk t
  · have := lp_cnt (body := fun q : Int32 × Zh => bX12_handOf_114 g 76 79 (iI i) q.1 q.2) i (fun j z => z = ((iI (j : Int), h) : Int32 × Zh) ∧ ∀ k, k < j → x k ≠ x i) (fun e z => z.2 = h ∧ ((e = 1 ∧ i < tk t ∧ ∃ j, j < i ∧ x j = x i) ∨ (e = 2 ∧ ¬ (i < tk t ∧ ∃ j, j < i ∧ x j = x i)))) ?_ ?_ (by omega) (s := (iI 0, h)) ⟨rfl, fun k hk => by omega⟩
    · obtain ⟨e, z, l1, l2, l3⟩ := this
      obtain ⟨z1, z2⟩ := z
      have l2' : z2 = h := l2
      subst l2'
      exact ⟨e + 1, z1, l1, l3⟩
    · intro j z hj ⟨ez, k1⟩
      subst ez
      obtain ⟨x1, xr⟩ := hx j (by omega)
      obtain ⟨x2, xr2⟩ := hx i hi
      have a1 := xr.1
      have a2 := xr.2
      have a3 := xr2.1
      have a4 := xr2.2
      show (∃ s', bX12_handOf_114 g 76 79 (iI i) (iI j) h = some (0, s') ∧ _) ∨ (∃ e s', bX12_handOf_114 g 76 79 (iI i) (iI j) h = some (e + 1, s') ∧ _)
      by_cases q : x j = x i
      · refine Or.inr ⟨0, (iI j, h), ?_, rfl, Or.inl ⟨rfl, p, j, hj, q⟩⟩
        unfold bX12_handOf_114
        simp (maxSteps := 1000000) (disch := (first | assumption | exact ne_b rfl | omega)) only [↓reduceIte, ↓zlet_eq, ↓bdR_sI, ↓bdR_sJ, ↓bdR_aI, zc2_some, Option.bind_some, ↓si_m1, ↓si_m2, ↓si_m3, iI_lit, iI_add, iI_sub, iI_mul, leT, leF, ltT, ltF, eqT, eqF, zinT, clI, Int.toNat_natCast, Int.reduceToNat, tN1, tNa, tN0, tNm, if_pos, if_neg, zI_sI, zI_sJ, zI_sR, zJ_sI, zJ_sJ, zJ_sR, zR_sI, zR_sJ, zR_sR, zK_sI, zK_sJ, zK_sR, zL_sI, zL_sJ, zL_sR, zI_aI, zJ_aI, zR_aI, zK_aI, zL_aI, z2_at, z2_a, z2_k, z1_self, z1_ne, true_and, and_true, bIt, bIf, Bool.false_eq_true, Bool.true_eq_false, eq_self, not_true_eq_false, not_false_eq_true, sK76, sK77, sK78, sK79, sK80, sK81, sK82, sK83, sK84, sK85, sK86, sK87, sK88, sK89, sK90, sK91, sK92, sK93, sK94, sK95, sK96, sK97, sK98, sK99, sK100, sL77, sL78, sL79, sL80, sL81, sL82, sL83, sL84, sL85, sL86, sL87, sL88, sL89, sL90, sL91, sL92, sL93, sL94, sL95, sL96, sL97, sL98, sL99, sL100, sR76_5, sR76_16, sR76_18, sR76_19, sR76_20, sR76_21, sR76_23, sR76_25, sR76_26, sR76_27, sR76_28, sR76_29, sR76_30, sR76_31, sR76_32, sR76_33, sR76_34, sR76_37, sR76_38, sR76_39, sR76_40, sR76_41, sR76_42, ↓sB76_5, ↓sB76_16, ↓sB76_18, ↓sB76_19, ↓sB76_20, ↓sB76_21, ↓sB76_23, ↓sB76_25, ↓sB76_26, ↓sB76_27, ↓sB76_28, ↓sB76_29, ↓sB76_30, ↓sB76_31, ↓sB76_32, ↓sB76_33, ↓sB76_34, ↓sB76_37, ↓sB76_38, ↓sB76_39, ↓sB76_40, ↓sB76_41, ↓sB76_42, ↓bd_of r3, kg, f2, x1, x2]
      · refine Or.inl ⟨(iI ((j + 1 : Nat) : Int), h), ?_, rfl, fun k hk => ?_⟩
        · unfold bX12_handOf_114
          simp (maxSteps := 1000000) (disch := (first | assumption | exact ne_b rfl | omega)) only [↓reduceIte, ↓zlet_eq, ↓bdR_sI, ↓bdR_sJ, ↓bdR_aI, zc2_some, Option.bind_some, ↓si_m1, ↓si_m2, ↓si_m3, iI_lit, iI_add, iI_sub, iI_mul, leT, leF, ltT, ltF, eqT, eqF, zinT, clI, Int.toNat_natCast, Int.reduceToNat, tN1, tNa, tN0, tNm, if_pos, if_neg, zI_sI, zI_sJ, zI_sR, zJ_sI, zJ_sJ, zJ_sR, zR_sI, zR_sJ, zR_sR, zK_sI, zK_sJ, zK_sR, zL_sI, zL_sJ, zL_sR, zI_aI, zJ_aI, zR_aI, zK_aI, zL_aI, z2_at, z2_a, z2_k, z1_self, z1_ne, true_and, and_true, bIt, bIf, Bool.false_eq_true, Bool.true_eq_false, eq_self, not_true_eq_false, not_false_eq_true, sK76, sK77, sK78, sK79, sK80, sK81, sK82, sK83, sK84, sK85, sK86, sK87, sK88, sK89, sK90, sK91, sK92, sK93, sK94, sK95, sK96, sK97, sK98, sK99, sK100, sL77, sL78, sL79, sL80, sL81, sL82, sL83, sL84, sL85, sL86, sL87, sL88, sL89, sL90, sL91, sL92, sL93, sL94, sL95, sL96, sL97, sL98, sL99, sL100, sR76_5, sR76_16, sR76_18, sR76_19, sR76_20, sR76_21, sR76_23, sR76_25, sR76_26, sR76_27, sR76_28, sR76_29, sR76_30, sR76_31, sR76_32, sR76_33, sR76_34, sR76_37, sR76_38, sR76_39, sR76_40, sR76_41, sR76_42, ↓sB76_5, ↓sB76_16, ↓sB76_18, ↓sB76_19, ↓sB76_20, ↓sB76_21, ↓sB76_23, ↓sB76_25, ↓sB76_26, ↓sB76_27, ↓sB76_28, ↓sB76_29, ↓sB76_30, ↓sB76_31, ↓sB76_32, ↓sB76_33, ↓sB76_34, ↓sB76_37, ↓sB76_38, ↓sB76_39, ↓sB76_40, ↓sB76_41, ↓sB76_42, ↓bd_of r3, kg, f2, x1, x2]
          all_goals rfl
        · by_cases c : k = j
          · rw [c]; exact q
          · exact k1 k (by omega)
    · intro z ⟨ez, k1⟩
      subst ez
      refine ⟨1, (iI i, h), ?_, rfl, Or.inr ⟨rfl, fun ⟨_, k, hk, e⟩ => k1 k hk e⟩⟩
      show bX12_handOf_114 g 76 79 (iI i) (iI i) h = _
      unfold bX12_handOf_114
      simp (maxSteps := 1000000) (disch := (first | assumption | exact ne_b rfl | omega)) only [↓reduceIte, ↓zlet_eq, ↓bdR_sI, ↓bdR_sJ, ↓bdR_aI, zc2_some, Option.bind_some, ↓si_m1, ↓si_m2, ↓si_m3, iI_lit, iI_add, iI_sub, iI_mul, leT, leF, ltT, ltF, eqT, eqF, zinT, clI, Int.toNat_natCast, Int.reduceToNat, tN1, tNa, tN0, tNm, if_pos, if_neg, zI_sI, zI_sJ, zI_sR, zJ_sI, zJ_sJ, zJ_sR, zR_sI, zR_sJ, zR_sR, zK_sI, zK_sJ, zK_sR, zL_sI, zL_sJ, zL_sR, zI_aI, zJ_aI, zR_aI, zK_aI, zL_aI, z2_at, z2_a, z2_k, z1_self, z1_ne, true_and, and_true, bIt, bIf, Bool.false_eq_true, Bool.true_eq_false, eq_self, not_true_eq_false, not_false_eq_true]
  · refine ⟨2, iI 0, ?_, Or.inr ⟨rfl, fun z => p z.1⟩⟩
    refine lp_e (N := zB - 1) (e := 1) (body := fun q : Int32 × Zh => bX12_handOf_114 g 76 79 (iI i) q.1 q.2) (s := (iI 0, h)) ?_
    show bX12_handOf_114 g 76 79 (iI i) (iI 0) h = _
    unfold bX12_handOf_114
    simp (maxSteps := 1000000) (disch := (first | assumption | exact ne_b rfl | omega)) only [↓reduceIte, ↓zlet_eq, ↓bdR_sI, ↓bdR_sJ, ↓bdR_aI, zc2_some, Option.bind_some, ↓si_m1, ↓si_m2, ↓si_m3, iI_lit, iI_add, iI_sub, iI_mul, leT, leF, ltT, ltF, eqT, eqF, zinT, clI, Int.toNat_natCast, Int.reduceToNat, tN1, tNa, tN0, tNm, if_pos, if_neg, zI_sI, zI_sJ, zI_sR, zJ_sI, zJ_sJ, zJ_sR, zR_sI, zR_sJ, zR_sR, zK_sI, zK_sJ, zK_sR, zL_sI, zL_sJ, zL_sR, zI_aI, zJ_aI, zR_aI, zK_aI, zL_aI, z2_at, z2_a, z2_k, z1_self, z1_ne, true_and, and_true, bIt, bIf, Bool.false_eq_true, Bool.true_eq_false, eq_self, not_true_eq_false, not_false_eq_true, sK76, sK77, sK78, sK79, sK80, sK81, sK82, sK83, sK84, sK85, sK86, sK87, sK88, sK89, sK90, sK91, sK92, sK93, sK94, sK95, sK96, sK97, sK98, sK99, sK100, sL77, sL78, sL79, sL80, sL81, sL82, sL83, sL84, sL85, sL86, sL87, sL88, sL89, sL90, sL91, sL92, sL93, sL94, sL95, sL96, sL97, sL98, sL99, sL100, sR76_5, sR76_16, sR76_18, sR76_19, sR76_20, sR76_21, sR76_23, sR76_25, sR76_26, sR76_27, sR76_28, sR76_29, sR76_30, sR76_31, sR76_32, sR76_33, sR76_34, sR76_37, sR76_38, sR76_39, sR76_40, sR76_41, sR76_42, ↓sB76_5, ↓sB76_16, ↓sB76_18, ↓sB76_19, ↓sB76_20, ↓sB76_21, ↓sB76_23, ↓sB76_25, ↓sB76_26, ↓sB76_27, ↓sB76_28, ↓sB76_29, ↓sB76_30, ↓sB76_31, ↓sB76_32, ↓sB76_33, ↓sB76_34, ↓sB76_37, ↓sB76_38, ↓sB76_39, ↓sB76_40, ↓sB76_41, ↓sB76_42, ↓bd_of r3, kg, f2]
theorem hof_54 {g h : Zh} {t : Tk} {tr : Nat} {x : Nat → Int} (tok : Tok t) (sg : St g) (kg : zK g tr = 11) (s : St h) (r3 : zR h 76 3 = some tr) (qt : Tr h tr t) (hx : ∀ j, j < 5 → zI h 79 j = iI (x j) ∧ iR (x j)) : ∃ e y, lp (fun q : Int32 × Zh => bX12_handOf_54 g 76 79 q.1 q.2) zB (iI 0, h) = some (e, (y, h)) ∧ (((e = 1 ∨ e = 2 ∨ e = 3) ∧ zfst (nohd (tn t) (tk t) x) 5 < 5) ∨ (e = 4 ∧ ¬ zfst (nohd (tn t) (tk t) x) 5 < 5)) := by
  obtain ⟨bn4, bn12, bu1, bu4, bnu, bk2, bk5, bkn, bp1, bp2, bpk, bH, bsp, bs1, bs4, bT1, bT16, bR1, bR2, bH1, bff, bff1⟩ := tok.b
  have f2 := qt.f2
  have f0 := qt.f0
  have := lp_cnt (body := fun q : Int32 × Zh => bX12_handOf_54 g 76 79 q.1 q.2) 5 (fun i z => z = ((iI (i : Int), h) : Int32 × Zh) ∧ ∀ k, k < i → nohd (tn t) (tk t) x k = false) (fun e z => z.2 = h ∧ (((e = 1 ∨ e = 2 ∨ e = 3) ∧ zfst (nohd (tn t) (tk t) x) 5 < 5) ∨ (e = 4 ∧ ¬ zfst (nohd (tn t) (tk t) x) 5 < 5))) ?_ ?_ (by omega) (s := (iI 0, h)) ⟨rfl, fun k hk => by omega⟩
  · obtain ⟨e, z, l1, l2, l3⟩ := this
    obtain ⟨z1, z2⟩ := z
    have l2' : z2 = h := l2
    subst l2'
    exact ⟨e + 1, z1, l1, l3⟩
  · intro i z hi ⟨ez, k1⟩
    subst ez
    obtain ⟨x2, xr2⟩ := hx i hi
    have a3 := xr2.1
    have a4 := xr2.2
    obtain ⟨e, y, l1, l2⟩ := hof_114 (i := i) tok sg kg s r3 qt hi hx
    have bad : nohd (tn t) (tk t) x i = true → zfst (nohd (tn t) (tk t) x) 5 < 5 := fun q => by
      have : zfst (nohd (tn t) (tk t) x) 5 = i := zfst_eq (by omega) k1 (fun _ => q)
      omega
    have next : nohd (tn t) (tk t) x i = false → ∀ k, k < i + 1 → nohd (tn t) (tk t) x k = false := fun q k hk => by
      by_cases c : k = i
      · rw [c]; exact q
      · exact k1 k (by omega)
    show (∃ s', bX12_handOf_54 g 76 79 (iI i) h = some (0, s') ∧ _) ∨ (∃ e s', bX12_handOf_54 g 76 79 (iI i) h = some (e + 1, s') ∧ _)
    by_cases p : i < tk t
    · have nf := nohd_f (n := tn t) (x := x) p
      by_cases p2 : 0 ≤ x i ∧ x i ≤ (tn t : Int) - 1
      · have e0 := in_1 (h := h) xr2 (a := 0) (b := (tn t : Int) - 1) ⟨by decide, by decide⟩ ⟨by omega, by omega⟩ p2
        rcases l2 with ⟨l2, l3, l4⟩ | ⟨l2, l3⟩
        · subst l2
          have hb : nohd (tn t) (tk t) x i = true := by
            cases q : nohd (tn t) (tk t) x i
            · obtain ⟨j, j1, j2⟩ := l4
              exact absurd j2 ((nf.mp q).2.2 j j1)
            · rfl
          refine Or.inr ⟨2, (0, h), ?_, rfl, Or.inl ⟨Or.inr (Or.inr rfl), bad hb⟩⟩
          unfold bX12_handOf_54 jX12_handOf_111 kX12_handOf_114
          simp (maxSteps := 1000000) (disch := (first | assumption | exact ne_b rfl | omega)) only [↓reduceIte, ↓zlet_eq, ↓bdR_sI, ↓bdR_sJ, ↓bdR_aI, zc2_some, Option.bind_some, ↓si_m1, ↓si_m2, ↓si_m3, iI_lit, iI_add, iI_sub, iI_mul, leT, leF, ltT, ltF, eqT, eqF, zinT, clI, Int.toNat_natCast, Int.reduceToNat, tN1, tNa, tN0, tNm, if_pos, if_neg, zI_sI, zI_sJ, zI_sR, zJ_sI, zJ_sJ, zJ_sR, zR_sI, zR_sJ, zR_sR, zK_sI, zK_sJ, zK_sR, zL_sI, zL_sJ, zL_sR, zI_aI, zJ_aI, zR_aI, zK_aI, zL_aI, z2_at, z2_a, z2_k, z1_self, z1_ne, true_and, and_true, bIt, bIf, Bool.false_eq_true, Bool.true_eq_false, eq_self, not_true_eq_false, not_false_eq_true, sK76, sK77, sK78, sK79, sK80, sK81, sK82, sK83, sK84, sK85, sK86, sK87, sK88, sK89, sK90, sK91, sK92, sK93, sK94, sK95, sK96, sK97, sK98, sK99, sK100, sL77, sL78, sL79, sL80, sL81, sL82, sL83, sL84, sL85, sL86, sL87, sL88, sL89, sL90, sL91, sL92, sL93, sL94, sL95, sL96, sL97, sL98, sL99, sL100, sR76_5, sR76_16, sR76_18, sR76_19, sR76_20, sR76_21, sR76_23, sR76_25, sR76_26, sR76_27, sR76_28, sR76_29, sR76_30, sR76_31, sR76_32, sR76_33, sR76_34, sR76_37, sR76_38, sR76_39, sR76_40, sR76_41, sR76_42, ↓sB76_5, ↓sB76_16, ↓sB76_18, ↓sB76_19, ↓sB76_20, ↓sB76_21, ↓sB76_23, ↓sB76_25, ↓sB76_26, ↓sB76_27, ↓sB76_28, ↓sB76_29, ↓sB76_30, ↓sB76_31, ↓sB76_32, ↓sB76_33, ↓sB76_34, ↓sB76_37, ↓sB76_38, ↓sB76_39, ↓sB76_40, ↓sB76_41, ↓sB76_42, ↓bd_of r3, kg, f2, f0, x2, ↓zc_of e0, ↓bd_of l1]
        · subst l2
          have hb : nohd (tn t) (tk t) x i = false := nf.mpr ⟨p2.1, by omega, fun j hj e => l3 ⟨p, j, hj, e⟩⟩
          refine Or.inl ⟨(iI ((i + 1 : Nat) : Int), h), ?_, rfl, next hb⟩
          unfold bX12_handOf_54 jX12_handOf_111 kX12_handOf_114
          simp (maxSteps := 1000000) (disch := (first | assumption | exact ne_b rfl | omega)) only [↓reduceIte, ↓zlet_eq, ↓bdR_sI, ↓bdR_sJ, ↓bdR_aI, zc2_some, Option.bind_some, ↓si_m1, ↓si_m2, ↓si_m3, iI_lit, iI_add, iI_sub, iI_mul, leT, leF, ltT, ltF, eqT, eqF, zinT, clI, Int.toNat_natCast, Int.reduceToNat, tN1, tNa, tN0, tNm, if_pos, if_neg, zI_sI, zI_sJ, zI_sR, zJ_sI, zJ_sJ, zJ_sR, zR_sI, zR_sJ, zR_sR, zK_sI, zK_sJ, zK_sR, zL_sI, zL_sJ, zL_sR, zI_aI, zJ_aI, zR_aI, zK_aI, zL_aI, z2_at, z2_a, z2_k, z1_self, z1_ne, true_and, and_true, bIt, bIf, Bool.false_eq_true, Bool.true_eq_false, eq_self, not_true_eq_false, not_false_eq_true, sK76, sK77, sK78, sK79, sK80, sK81, sK82, sK83, sK84, sK85, sK86, sK87, sK88, sK89, sK90, sK91, sK92, sK93, sK94, sK95, sK96, sK97, sK98, sK99, sK100, sL77, sL78, sL79, sL80, sL81, sL82, sL83, sL84, sL85, sL86, sL87, sL88, sL89, sL90, sL91, sL92, sL93, sL94, sL95, sL96, sL97, sL98, sL99, sL100, sR76_5, sR76_16, sR76_18, sR76_19, sR76_20, sR76_21, sR76_23, sR76_25, sR76_26, sR76_27, sR76_28, sR76_29, sR76_30, sR76_31, sR76_32, sR76_33, sR76_34, sR76_37, sR76_38, sR76_39, sR76_40, sR76_41, sR76_42, ↓sB76_5, ↓sB76_16, ↓sB76_18, ↓sB76_19, ↓sB76_20, ↓sB76_21, ↓sB76_23, ↓sB76_25, ↓sB76_26, ↓sB76_27, ↓sB76_28, ↓sB76_29, ↓sB76_30, ↓sB76_31, ↓sB76_32, ↓sB76_33, ↓sB76_34, ↓sB76_37, ↓sB76_38, ↓sB76_39, ↓sB76_40, ↓sB76_41, ↓sB76_42, ↓bd_of r3, kg, f2, f0, x2, ↓zc_of e0, ↓bd_of l1]
          all_goals rfl
      · have e0 := in_0 (h := h) xr2 (a := 0) (b := (tn t : Int) - 1) ⟨by decide, by decide⟩ ⟨by omega, by omega⟩ p2
        have hb : nohd (tn t) (tk t) x i = true := by
          cases q : nohd (tn t) (tk t) x i
          · have := nf.mp q; exact absurd ⟨this.1, by omega⟩ p2
          · rfl
        refine Or.inr ⟨0, (iI i, h), ?_, rfl, Or.inl ⟨Or.inl rfl, bad hb⟩⟩
        unfold bX12_handOf_54
        simp (maxSteps := 1000000) (disch := (first | assumption | exact ne_b rfl | omega)) only [↓reduceIte, ↓zlet_eq, ↓bdR_sI, ↓bdR_sJ, ↓bdR_aI, zc2_some, Option.bind_some, ↓si_m1, ↓si_m2, ↓si_m3, iI_lit, iI_add, iI_sub, iI_mul, leT, leF, ltT, ltF, eqT, eqF, zinT, clI, Int.toNat_natCast, Int.reduceToNat, tN1, tNa, tN0, tNm, if_pos, if_neg, zI_sI, zI_sJ, zI_sR, zJ_sI, zJ_sJ, zJ_sR, zR_sI, zR_sJ, zR_sR, zK_sI, zK_sJ, zK_sR, zL_sI, zL_sJ, zL_sR, zI_aI, zJ_aI, zR_aI, zK_aI, zL_aI, z2_at, z2_a, z2_k, z1_self, z1_ne, true_and, and_true, bIt, bIf, Bool.false_eq_true, Bool.true_eq_false, eq_self, not_true_eq_false, not_false_eq_true, sK76, sK77, sK78, sK79, sK80, sK81, sK82, sK83, sK84, sK85, sK86, sK87, sK88, sK89, sK90, sK91, sK92, sK93, sK94, sK95, sK96, sK97, sK98, sK99, sK100, sL77, sL78, sL79, sL80, sL81, sL82, sL83, sL84, sL85, sL86, sL87, sL88, sL89, sL90, sL91, sL92, sL93, sL94, sL95, sL96, sL97, sL98, sL99, sL100, sR76_5, sR76_16, sR76_18, sR76_19, sR76_20, sR76_21, sR76_23, sR76_25, sR76_26, sR76_27, sR76_28, sR76_29, sR76_30, sR76_31, sR76_32, sR76_33, sR76_34, sR76_37, sR76_38, sR76_39, sR76_40, sR76_41, sR76_42, ↓sB76_5, ↓sB76_16, ↓sB76_18, ↓sB76_19, ↓sB76_20, ↓sB76_21, ↓sB76_23, ↓sB76_25, ↓sB76_26, ↓sB76_27, ↓sB76_28, ↓sB76_29, ↓sB76_30, ↓sB76_31, ↓sB76_32, ↓sB76_33, ↓sB76_34, ↓sB76_37, ↓sB76_38, ↓sB76_39, ↓sB76_40, ↓sB76_41, ↓sB76_42, ↓bd_of r3, kg, f2, f0, x2, ↓zc_of e0]
    · have nb := nohd_b (n := tn t) (x := x) p
      by_cases p2 : x i = -1
      · have l2' : e = 2 := by
          rcases l2 with ⟨l2, l3, l4⟩ | ⟨l2, l3⟩
          · exact absurd l3 p
          · exact l2
        subst l2'
        refine Or.inl ⟨(iI ((i + 1 : Nat) : Int), h), ?_, rfl, next (nb.mpr p2)⟩
        unfold bX12_handOf_54 jX12_handOf_111 kX12_handOf_114
        simp (maxSteps := 1000000) (disch := (first | assumption | exact ne_b rfl | omega)) only [↓reduceIte, ↓zlet_eq, ↓bdR_sI, ↓bdR_sJ, ↓bdR_aI, zc2_some, Option.bind_some, ↓si_m1, ↓si_m2, ↓si_m3, iI_lit, iI_add, iI_sub, iI_mul, leT, leF, ltT, ltF, eqT, eqF, zinT, clI, Int.toNat_natCast, Int.reduceToNat, tN1, tNa, tN0, tNm, if_pos, if_neg, zI_sI, zI_sJ, zI_sR, zJ_sI, zJ_sJ, zJ_sR, zR_sI, zR_sJ, zR_sR, zK_sI, zK_sJ, zK_sR, zL_sI, zL_sJ, zL_sR, zI_aI, zJ_aI, zR_aI, zK_aI, zL_aI, z2_at, z2_a, z2_k, z1_self, z1_ne, true_and, and_true, bIt, bIf, Bool.false_eq_true, Bool.true_eq_false, eq_self, not_true_eq_false, not_false_eq_true, sK76, sK77, sK78, sK79, sK80, sK81, sK82, sK83, sK84, sK85, sK86, sK87, sK88, sK89, sK90, sK91, sK92, sK93, sK94, sK95, sK96, sK97, sK98, sK99, sK100, sL77, sL78, sL79, sL80, sL81, sL82, sL83, sL84, sL85, sL86, sL87, sL88, sL89, sL90, sL91, sL92, sL93, sL94, sL95, sL96, sL97, sL98, sL99, sL100, sR76_5, sR76_16, sR76_18, sR76_19, sR76_20, sR76_21, sR76_23, sR76_25, sR76_26, sR76_27, sR76_28, sR76_29, sR76_30, sR76_31, sR76_32, sR76_33, sR76_34, sR76_37, sR76_38, sR76_39, sR76_40, sR76_41, sR76_42, ↓sB76_5, ↓sB76_16, ↓sB76_18, ↓sB76_19, ↓sB76_20, ↓sB76_21, ↓sB76_23, ↓sB76_25, ↓sB76_26, ↓sB76_27, ↓sB76_28, ↓sB76_29, ↓sB76_30, ↓sB76_31, ↓sB76_32, ↓sB76_33, ↓sB76_34, ↓sB76_37, ↓sB76_38, ↓sB76_39, ↓sB76_40, ↓sB76_41, ↓sB76_42, ↓bd_of r3, kg, f2, x2, ↓bd_of l1]
        all_goals rfl
      · have hb : nohd (tn t) (tk t) x i = true := by
          cases q : nohd (tn t) (tk t) x i
          · exact absurd (nb.mp q) p2
          · rfl
        refine Or.inr ⟨1, (iI i, h), ?_, rfl, Or.inl ⟨Or.inr (Or.inl rfl), bad hb⟩⟩
        unfold bX12_handOf_54
        simp (maxSteps := 1000000) (disch := (first | assumption | exact ne_b rfl | omega)) only [↓reduceIte, ↓zlet_eq, ↓bdR_sI, ↓bdR_sJ, ↓bdR_aI, zc2_some, Option.bind_some, ↓si_m1, ↓si_m2, ↓si_m3, iI_lit, iI_add, iI_sub, iI_mul, leT, leF, ltT, ltF, eqT, eqF, zinT, clI, Int.toNat_natCast, Int.reduceToNat, tN1, tNa, tN0, tNm, if_pos, if_neg, zI_sI, zI_sJ, zI_sR, zJ_sI, zJ_sJ, zJ_sR, zR_sI, zR_sJ, zR_sR, zK_sI, zK_sJ, zK_sR, zL_sI, zL_sJ, zL_sR, zI_aI, zJ_aI, zR_aI, zK_aI, zL_aI, z2_at, z2_a, z2_k, z1_self, z1_ne, true_and, and_true, bIt, bIf, Bool.false_eq_true, Bool.true_eq_false, eq_self, not_true_eq_false, not_false_eq_true, sK76, sK77, sK78, sK79, sK80, sK81, sK82, sK83, sK84, sK85, sK86, sK87, sK88, sK89, sK90, sK91, sK92, sK93, sK94, sK95, sK96, sK97, sK98, sK99, sK100, sL77, sL78, sL79, sL80, sL81, sL82, sL83, sL84, sL85, sL86, sL87, sL88, sL89, sL90, sL91, sL92, sL93, sL94, sL95, sL96, sL97, sL98, sL99, sL100, sR76_5, sR76_16, sR76_18, sR76_19, sR76_20, sR76_21, sR76_23, sR76_25, sR76_26, sR76_27, sR76_28, sR76_29, sR76_30, sR76_31, sR76_32, sR76_33, sR76_34, sR76_37, sR76_38, sR76_39, sR76_40, sR76_41, sR76_42, ↓sB76_5, ↓sB76_16, ↓sB76_18, ↓sB76_19, ↓sB76_20, ↓sB76_21, ↓sB76_23, ↓sB76_25, ↓sB76_26, ↓sB76_27, ↓sB76_28, ↓sB76_29, ↓sB76_30, ↓sB76_31, ↓sB76_32, ↓sB76_33, ↓sB76_34, ↓sB76_37, ↓sB76_38, ↓sB76_39, ↓sB76_40, ↓sB76_41, ↓sB76_42, ↓bd_of r3, kg, f2, x2]
  · intro z ⟨ez, k1⟩
    subst ez
    refine ⟨3, (iI ((5 : Nat) : Int), h), ?_, rfl, Or.inr ⟨rfl, by rw [zfst_none k1]; omega⟩⟩
    show bX12_handOf_54 g 76 79 (iI ((5 : Nat) : Int)) h = _
    unfold bX12_handOf_54
    simp (maxSteps := 1000000) (disch := (first | assumption | exact ne_b rfl | omega)) only [↓reduceIte, ↓zlet_eq, ↓bdR_sI, ↓bdR_sJ, ↓bdR_aI, zc2_some, Option.bind_some, ↓si_m1, ↓si_m2, ↓si_m3, iI_lit, iI_add, iI_sub, iI_mul, leT, leF, ltT, ltF, eqT, eqF, zinT, clI, Int.toNat_natCast, Int.reduceToNat, tN1, tNa, tN0, tNm, if_pos, if_neg, zI_sI, zI_sJ, zI_sR, zJ_sI, zJ_sJ, zJ_sR, zR_sI, zR_sJ, zR_sR, zK_sI, zK_sJ, zK_sR, zL_sI, zL_sJ, zL_sR, zI_aI, zJ_aI, zR_aI, zK_aI, zL_aI, z2_at, z2_a, z2_k, z1_self, z1_ne, true_and, and_true, bIt, bIf, Bool.false_eq_true, Bool.true_eq_false, eq_self, not_true_eq_false, not_false_eq_true]
/-- a hand's number, as the class finds it -/
theorem handNumber_c {h : Zh} {t : Tk} {d : Nat} {w : Nat → Nat} (tok : Tok t) (s : St h) (dk : Dk h d t) (hd : d ≠ 75) (hw : ∀ i, i < tk t → zI h 75 i = iI (w i) ∧ w i < tn t) (hdst : dst w (tk t)) : ∃ h', fX0_handNumber d 75 h = some (iI (hix t w), h') ∧ Fm [75] h h' := by
  obtain ⟨bn4, bn12, bu1, bu4, bnu, bk2, bk5, bkn, bp1, bp2, bpk, bH, bsp, bs1, bs4, bT1, bT16, bR1, bR2, bH1, bff, bff1⟩ := tok.b
  obtain ⟨-, hr, -⟩ := hix_ok tok (fun i hi => (hw i hi).2) hdst
  have f6 := dk.f6
  cases e : tst t
  · rw [e] at f6
    have e1 := fX0_handNumber_she (d := d) (r := 75) (n := tn t) (k := tk t) (L := 5) (w := w) (h := h) dk.fK (sK75 s) (sL75 s) (by decide) (fun q => hd q.symm) dk.f0 dk.f3 f6 bn12 (by omega) bk5 bk5 hw hdst
    have e2 : pch (tn t) (tk t) - 1 - bhd (tn t) (tk t) (srt w (tk t)) (tk t) = (hix t w : Int) := by
      rw [← hr]
      unfold rnk
      rw [e, if_pos (by rfl), bhd_congr (s := trg t w) (v := srt w (tk t)) (tk t) (fun i _ => by unfold trg; rw [e]; rfl)]
    rw [e2] at e1
    exact ⟨_, e1, Fm_aI _ _ (by simp)⟩
  · rw [e] at f6
    have e1 := fX0_handNumber_str (d := d) (r := 75) (n := tn t) (k := tk t) (L := 5) (w := w) (h := h) dk.fK (sK75 s) (sL75 s) (by decide) dk.f0 dk.f3 f6 bn12 bk5 bk5 hw hdst
    have e2 : ((rowN (tn t) w (tk t) : Nat) : Int) = (hix t w : Int) := by
      rw [← hr]
      unfold rnk
      rw [e, if_neg (by decide), rowN_congr (w := trg t w) (v := w) (tk t) (fun i _ => by unfold trg; rw [e]; rfl)]
    rw [e2] at e1
    exact ⟨h, e1, Fm.rf⟩
theorem op_handOf {h : Zh} {u : Nat} {a b d e f : Int} (inv : Inv h u) (hu : u ≤ 59000) (ha : iR a) (hb : iR b) (hd : iR d) (he : iR e) (hf : iR f) : OpR (fX10_handOf 0 (iI a) (iI b) (iI d) (iI e) (iI f)) (fX12_handOf 76 (iI a) (iI b) (iI d) (iI e) (iI f)) h u := by
  obtain ⟨v, tb, tr, ra, ok, c, m, -⟩ := inv
  have s := c.1
  by_cases on : v.on = true
  · obtain ⟨g1, -, -, -⟩ := c.g
    obtain ⟨t1, t2, t3, t4, t5, t6, t7, -⟩ := tdS s ok.2.1
    have r3 := c.2.2.2.2.2.1
    have g1' : zI h v.td 0 = iI 1 := by rw [g1, on]; rfl
    have tok := (ok.2.2.2.2.2.2 on).1
    obtain ⟨CR, OW, se, sp, rdy, lg, b1, b2, b3, b4, b5⟩ := c.lg on
    have dk := lg.2.2.1.2.2.1
    obtain ⟨bn4, bn12, bu1, bu4, bnu, bk2, bk5, bkn, bp1, bp2, bpk, bH, bsp, bs1, bs4, bT1, bT16, bR1, bR2, bH1, bff, bff1⟩ := tok.b
    have fw := w5_fm h 75 a b d e f
    have wat := w5_at h 75 a b d e f
    have hwd : w5 h 75 a b d e f = zsI (zsI (zsI (zsI (zsI h 75 0 (iI a)) 75 1 (iI b)) 75 2 (iI d)) 75 3 (iI e)) 75 4 (iI f) := rfl
    obtain ⟨c1, f1⟩ := c.c75 ok on fw
    have s1 := c1.1
    obtain ⟨CR1, OW1, se1, sp1, rdy1, lg1, -⟩ := c1.lg on
    have dk1 := lg1.2.2.1.2.2.1
    have r31 := c1.2.2.2.2.2.1
    obtain ⟨u1, u2, u3, u4, u5, -⟩ := tdS s1 ok.2.1
    have htd := ok.2.1
    have xr := xs5_r ha hb hd he hf
    have eh := fX0_isHand_eq (d := v.td + 1) (r := 75) (n := tn v.t) (k := tk v.t) (x := xs5 a b d e f) (h := w5 h 75 a b d e f) dk1.fK (sK75 s1) (sL75 s1) dk1.f0 dk1.f3 bn12 bk5 (fun i hi => ⟨wat i hi, xr i⟩)
    have mk : ∀ hm, KM hm v tr ra → ∃ e', ∃ y : Int32, St (w5 (zsI hm 76 0 (iI 0)) 79 a b d e f) ∧ KM (w5 (zsI hm 76 0 (iI 0)) 79 a b d e f) v tr ra ∧ MFz hm (w5 (zsI hm 76 0 (iI 0)) 79 a b d e f) ∧ (zR hm 76 3).isSome = true ∧ lp (fun q : Int32 × Zh => bX12_handOf_54 hm 76 79 q.1 q.2) zB (iI 0, w5 (zsI hm 76 0 (iI 0)) 79 a b d e f) = some (e', (y, w5 (zsI hm 76 0 (iI 0)) 79 a b d e f)) ∧ (((e' = 1 ∨ e' = 2 ∨ e' = 3) ∧ zfst (nohd (tn v.t) (tk v.t) (xs5 a b d e f)) 5 < 5) ∨ (e' = 4 ∧ ¬ zfst (nohd (tn v.t) (tk v.t) (xs5 a b d e f)) 5 < 5)) := fun hm mm => by
      have m0 := mm.s76 (j := 0) (x := iI 0) (by decide)
      have md0 := (m0.2.2.2.2.2 on).1
      have fz := w5_fm (zsI hm 76 0 (iI 0)) 79 a b d e f
      have md1 := md0.fm fz (by simp)
      have fr : MFr (zsI hm 76 0 (iI 0)) (w5 (zsI hm 76 0 (iI 0)) 79 a b d e f) := MFr.of fz (by simp)
      have m1 := m0.mr on fr md1
      have q3 := mm.tr3
      rw [on, if_pos rfl] at q3
      obtain ⟨e', y, l1, l2⟩ := hof_54 (g := hm) (x := xs5 a b d e f) tok mm.1 (((mm.2.2.2.2.2 on).1).1.2.2.2.1.fK) m1.1 md1.1.2.2.1 md1.1.2.2.2.1 (fun j hj => ⟨w5_at _ _ _ _ _ _ _ j hj, xr j⟩)
      exact ⟨e', y, m1.1, m1, (MFz.sI _ _).tr fr.z, by rw [q3]; rfl, l1, l2⟩
    have e1' : ∀ X Y : Int32 × Zh, fX0_isHand (v.td + 1) 75 (w5 h 75 a b d e f) = some X → fX0_isHand (v.td + 1) 75 (zsI (zsI (zsI (zsI (zsI h 75 0 (iI a)) 75 1 (iI b)) 75 2 (iI d)) 75 3 (iI e)) 75 4 (iI f)) = some X := fun X Y q => q
    by_cases p : zfst (nohd (tn v.t) (tk v.t) (xs5 a b d e f)) 5 < 5
    · rw [if_pos p] at eh
      have r1 := refuse_c s1 2
      refine OpR.mk (r := iI (-1)) (k := 2) ok ok c m (by decide) ⟨w5 h 75 a b d e f, ?_, c1.mono (by omega), f1⟩ (fun hm mm => ?_)
      · rw [hwd] at eh r1 ⊢
        unfold fX10_handOf
        simp (maxSteps := 1000000) (disch := (first | assumption | exact ne_b rfl | omega)) only [↓reduceIte, ↓zlet_eq, ↓bdR_sI, ↓bdR_sJ, ↓bdR_aI, zc2_some, Option.bind_some, ↓si_m1, ↓si_m2, ↓si_m3, iI_lit, iI_add, iI_sub, iI_mul, leT, leF, ltT, ltF, eqT, eqF, zinT, clI, Int.toNat_natCast, Int.reduceToNat, tN1, tNa, tN0, tNm, if_pos, if_neg, zI_sI, zI_sJ, zI_sR, zJ_sI, zJ_sJ, zJ_sR, zR_sI, zR_sJ, zR_sR, zK_sI, zK_sJ, zK_sR, zL_sI, zL_sJ, zL_sR, zI_aI, zJ_aI, zR_aI, zK_aI, zL_aI, z2_at, z2_a, z2_k, z1_self, z1_ne, true_and, and_true, bIt, bIf, Bool.false_eq_true, Bool.true_eq_false, eq_self, not_true_eq_false, not_false_eq_true, sK0, sK1, sK2, sK3, sK4, sK5, sK6, sK7, sK8, sK9, sK10, sK11, sK12, sK13, sK14, sK15, sK16, sK17, sK18, sK19, sK20, sK21, sK22, sK23, sK24, sK25, sK26, sK27, sK28, sK29, sK30, sK31, sK32, sK33, sK34, sK35, sK36, sK37, sK38, sK39, sK40, sK41, sK42, sK43, sK44, sK45, sK46, sK47, sK48, sK49, sK50, sK51, sK52, sK53, sK54, sK55, sK56, sK57, sK58, sK59, sK60, sK61, sK62, sK63, sK64, sK65, sK66, sK67, sK68, sK69, sK70, sK71, sK72, sK73, sK74, sK75, sL1, sL3, sL6, sL8, sL9, sL10, sL11, sL12, sL15, sL17, sL18, sL21, sL23, sL24, sL26, sL29, sL31, sL32, sL34, sL36, sL37, sL39, sL40, sL41, sL43, sL45, sL46, sL47, sL48, sL49, sL50, sL51, sL52, sL53, sL55, sL57, sL59, sL61, sL62, sL63, sL64, sL65, sL67, sL68, sL70, sL71, sL73, sL74, sL75, sR0_0, sR0_2, sR0_5, sR0_6, sR0_11, sR2_5, sR2_6, sR2_7, sR4_1, sR4_2, sR4_4, sR7_0, sR7_1, sR13_1, sR13_2, sR13_4, sR16_0, sR16_1, sR19_1, sR19_2, sR19_4, sR22_0, sR22_1, sR25_0, sR25_2, sR25_3, sR25_4, sR25_5, sR25_6, sR25_7, sR25_8, sR25_10, sR27_1, sR27_2, sR27_4, sR30_0, sR30_1, sR33_0, sR35_0, sR35_1, sR38_0, sR38_1, sR38_2, sR42_0, sR42_5, sR42_7, sR42_11, sR42_12, sR42_13, sR53_0, sR53_1, sR53_2, sR53_3, sR54_1, sR56_1, sR58_1, sR60_1, sR65_0, sR65_1, sR65_2, sR66_0, sR66_1, sR69_0, sR69_1, sR72_0, sR72_1, ↓sB0_0, ↓sB0_2, ↓sB0_5, ↓sB0_6, ↓sB0_11, ↓sB2_5, ↓sB2_6, ↓sB2_7, ↓sB4_1, ↓sB4_2, ↓sB4_4, ↓sB7_0, ↓sB7_1, ↓sB13_1, ↓sB13_2, ↓sB13_4, ↓sB16_0, ↓sB16_1, ↓sB19_1, ↓sB19_2, ↓sB19_4, ↓sB22_0, ↓sB22_1, ↓sB25_0, ↓sB25_2, ↓sB25_3, ↓sB25_4, ↓sB25_5, ↓sB25_6, ↓sB25_7, ↓sB25_8, ↓sB25_10, ↓sB27_1, ↓sB27_2, ↓sB27_4, ↓sB30_0, ↓sB30_1, ↓sB33_0, ↓sB35_0, ↓sB35_1, ↓sB38_0, ↓sB38_1, ↓sB38_2, ↓sB42_0, ↓sB42_5, ↓sB42_7, ↓sB42_11, ↓sB42_12, ↓sB42_13, ↓sB53_0, ↓sB53_1, ↓sB53_2, ↓sB53_3, ↓sB54_1, ↓sB56_1, ↓sB58_1, ↓sB60_1, ↓sB65_0, ↓sB65_1, ↓sB65_2, ↓sB66_0, ↓sB66_1, ↓sB69_0, ↓sB69_1, ↓sB72_0, ↓sB72_1, ↓bd_of r3, t1, g1', ↓bd_of t2, t5, ↓zc_of eh, ↓zc_of r1]
        all_goals rfl
      · obtain ⟨e', y, sw, mw, mz, ris, l1, l2⟩ := mk hm mm
        have sm := mm.1
        have g2 := refused_m sw 2
        have l3 : e' = 1 ∨ e' = 2 ∨ e' = 3 := by
          rcases l2 with ⟨l2, -⟩ | ⟨-, l2⟩
          · exact l2
          · exact absurd p l2
        refine ⟨_, ?_, mw, mz⟩
        have hk : kX12_handOf_54 hm 76 79 e' y (w5 (zsI hm 76 0 (iI 0)) 79 a b d e f) = some (iI (-1), zsI (zsI (w5 (zsI hm 76 0 (iI 0)) 79 a b d e f) 76 1 (iI 2)) 76 2 (iI (-1))) := by
          unfold kX12_handOf_54
          have g2' : fX12_refused 76 2 (w5 (zsI hm 76 0 (iI 0)) 79 a b d e f) = _ := g2
          rcases l3 with rfl | rfl | rfl
          · rw [if_pos rfl, zc_of g2']
          · rw [if_neg (by decide), if_pos rfl, zc_of g2']
          · rw [if_neg (by decide), if_neg (by decide), if_pos rfl, zc_of g2']
        have hwd2 : w5 (zsI hm 76 0 (iI 0)) 79 a b d e f = zsI (zsI (zsI (zsI (zsI (zsI hm 76 0 (iI 0)) 79 0 (iI a)) 79 1 (iI b)) 79 2 (iI d)) 79 3 (iI e)) 79 4 (iI f) := rfl
        rw [hwd2] at l1 hk ⊢
        unfold fX12_handOf
        simp (maxSteps := 1000000) (disch := (first | assumption | exact ne_b rfl | omega)) only [↓reduceIte, ↓zlet_eq, ↓bdR_sI, ↓bdR_sJ, ↓bdR_aI, zc2_some, Option.bind_some, ↓si_m1, ↓si_m2, ↓si_m3, iI_lit, iI_add, iI_sub, iI_mul, leT, leF, ltT, ltF, eqT, eqF, zinT, clI, Int.toNat_natCast, Int.reduceToNat, tN1, tNa, tN0, tNm, if_pos, if_neg, zI_sI, zI_sJ, zI_sR, zJ_sI, zJ_sJ, zJ_sR, zR_sI, zR_sJ, zR_sR, zK_sI, zK_sJ, zK_sR, zL_sI, zL_sJ, zL_sR, zI_aI, zJ_aI, zR_aI, zK_aI, zL_aI, z2_at, z2_a, z2_k, z1_self, z1_ne, true_and, and_true, bIt, bIf, Bool.false_eq_true, Bool.true_eq_false, eq_self, not_true_eq_false, not_false_eq_true, sK76, sK77, sK78, sK79, sK80, sK81, sK82, sK83, sK84, sK85, sK86, sK87, sK88, sK89, sK90, sK91, sK92, sK93, sK94, sK95, sK96, sK97, sK98, sK99, sK100, sL77, sL78, sL79, sL80, sL81, sL82, sL83, sL84, sL85, sL86, sL87, sL88, sL89, sL90, sL91, sL92, sL93, sL94, sL95, sL96, sL97, sL98, sL99, sL100, sR76_5, sR76_16, sR76_18, sR76_19, sR76_20, sR76_21, sR76_23, sR76_25, sR76_26, sR76_27, sR76_28, sR76_29, sR76_30, sR76_31, sR76_32, sR76_33, sR76_34, sR76_37, sR76_38, sR76_39, sR76_40, sR76_41, sR76_42, ↓sB76_5, ↓sB76_16, ↓sB76_18, ↓sB76_19, ↓sB76_20, ↓sB76_21, ↓sB76_23, ↓sB76_25, ↓sB76_26, ↓sB76_27, ↓sB76_28, ↓sB76_29, ↓sB76_30, ↓sB76_31, ↓sB76_32, ↓sB76_33, ↓sB76_34, ↓sB76_37, ↓sB76_38, ↓sB76_39, ↓sB76_40, ↓sB76_41, ↓sB76_42, ris, ↓bd_of l1, hk]
        all_goals rfl
    · rw [if_neg p] at eh
      have hz : zfst (nohd (tn v.t) (tk v.t) (xs5 a b d e f)) 5 = 5 := by have := zfst_le (nohd (tn v.t) (tk v.t) (xs5 a b d e f)) 5; omega
      have good : ∀ i, i < tk v.t → 0 ≤ xs5 a b d e f i ∧ xs5 a b d e f i < tn v.t ∧ ∀ j, j < i → xs5 a b d e f j ≠ xs5 a b d e f i := fun i hi => (nohd_f hi).mp (zfst_before (by rw [hz]; omega))
      obtain ⟨w, hw⟩ : ∃ w : Nat → Nat, w = fun i => (xs5 a b d e f i).toNat := ⟨_, rfl⟩
      have hwi : ∀ i, i < tk v.t → ((w i : Nat) : Int) = xs5 a b d e f i ∧ w i < tn v.t := fun i hi => by
        have := good i hi
        rw [hw]
        show (((xs5 a b d e f i).toNat : Nat) : Int) = _ ∧ (xs5 a b d e f i).toNat < _
        omega
      have hdst : dst w (tk v.t) := fun i j hij hj q => by
        have h1 := (hwi i (by omega)).1
        have h2 := (hwi j hj).1
        exact (good j hj).2.2 i hij (by rw [← h1, ← h2, q])
      obtain ⟨h2, e2, f2⟩ := handNumber_c (d := v.td + 1) (w := w) tok s1 dk1 (by omega) (fun i hi => ⟨by rw [wat i (by omega), (hwi i hi).1], (hwi i hi).2⟩) hdst
      obtain ⟨c2, ff2⟩ := c1.c75 ok on f2
      have s2 := c2.1
      have a1 := answer_c s2 (iI (hix v.t w))
      refine OpR.mk (r := iI (hix v.t w)) (k := 0) ok ok c m (by decide) ⟨h2, ?_, c2.mono (by omega), f1.tr ff2 (fun _ _ q => q)⟩ (fun hm mm => ?_)
      · rw [hwd] at eh e2
        unfold fX10_handOf
        simp (maxSteps := 1000000) (disch := (first | assumption | exact ne_b rfl | omega)) only [↓reduceIte, ↓zlet_eq, ↓bdR_sI, ↓bdR_sJ, ↓bdR_aI, zc2_some, Option.bind_some, ↓si_m1, ↓si_m2, ↓si_m3, iI_lit, iI_add, iI_sub, iI_mul, leT, leF, ltT, ltF, eqT, eqF, zinT, clI, Int.toNat_natCast, Int.reduceToNat, tN1, tNa, tN0, tNm, if_pos, if_neg, zI_sI, zI_sJ, zI_sR, zJ_sI, zJ_sJ, zJ_sR, zR_sI, zR_sJ, zR_sR, zK_sI, zK_sJ, zK_sR, zL_sI, zL_sJ, zL_sR, zI_aI, zJ_aI, zR_aI, zK_aI, zL_aI, z2_at, z2_a, z2_k, z1_self, z1_ne, true_and, and_true, bIt, bIf, Bool.false_eq_true, Bool.true_eq_false, eq_self, not_true_eq_false, not_false_eq_true, sK0, sK1, sK2, sK3, sK4, sK5, sK6, sK7, sK8, sK9, sK10, sK11, sK12, sK13, sK14, sK15, sK16, sK17, sK18, sK19, sK20, sK21, sK22, sK23, sK24, sK25, sK26, sK27, sK28, sK29, sK30, sK31, sK32, sK33, sK34, sK35, sK36, sK37, sK38, sK39, sK40, sK41, sK42, sK43, sK44, sK45, sK46, sK47, sK48, sK49, sK50, sK51, sK52, sK53, sK54, sK55, sK56, sK57, sK58, sK59, sK60, sK61, sK62, sK63, sK64, sK65, sK66, sK67, sK68, sK69, sK70, sK71, sK72, sK73, sK74, sK75, sL1, sL3, sL6, sL8, sL9, sL10, sL11, sL12, sL15, sL17, sL18, sL21, sL23, sL24, sL26, sL29, sL31, sL32, sL34, sL36, sL37, sL39, sL40, sL41, sL43, sL45, sL46, sL47, sL48, sL49, sL50, sL51, sL52, sL53, sL55, sL57, sL59, sL61, sL62, sL63, sL64, sL65, sL67, sL68, sL70, sL71, sL73, sL74, sL75, sR0_0, sR0_2, sR0_5, sR0_6, sR0_11, sR2_5, sR2_6, sR2_7, sR4_1, sR4_2, sR4_4, sR7_0, sR7_1, sR13_1, sR13_2, sR13_4, sR16_0, sR16_1, sR19_1, sR19_2, sR19_4, sR22_0, sR22_1, sR25_0, sR25_2, sR25_3, sR25_4, sR25_5, sR25_6, sR25_7, sR25_8, sR25_10, sR27_1, sR27_2, sR27_4, sR30_0, sR30_1, sR33_0, sR35_0, sR35_1, sR38_0, sR38_1, sR38_2, sR42_0, sR42_5, sR42_7, sR42_11, sR42_12, sR42_13, sR53_0, sR53_1, sR53_2, sR53_3, sR54_1, sR56_1, sR58_1, sR60_1, sR65_0, sR65_1, sR65_2, sR66_0, sR66_1, sR69_0, sR69_1, sR72_0, sR72_1, ↓sB0_0, ↓sB0_2, ↓sB0_5, ↓sB0_6, ↓sB0_11, ↓sB2_5, ↓sB2_6, ↓sB2_7, ↓sB4_1, ↓sB4_2, ↓sB4_4, ↓sB7_0, ↓sB7_1, ↓sB13_1, ↓sB13_2, ↓sB13_4, ↓sB16_0, ↓sB16_1, ↓sB19_1, ↓sB19_2, ↓sB19_4, ↓sB22_0, ↓sB22_1, ↓sB25_0, ↓sB25_2, ↓sB25_3, ↓sB25_4, ↓sB25_5, ↓sB25_6, ↓sB25_7, ↓sB25_8, ↓sB25_10, ↓sB27_1, ↓sB27_2, ↓sB27_4, ↓sB30_0, ↓sB30_1, ↓sB33_0, ↓sB35_0, ↓sB35_1, ↓sB38_0, ↓sB38_1, ↓sB38_2, ↓sB42_0, ↓sB42_5, ↓sB42_7, ↓sB42_11, ↓sB42_12, ↓sB42_13, ↓sB53_0, ↓sB53_1, ↓sB53_2, ↓sB53_3, ↓sB54_1, ↓sB56_1, ↓sB58_1, ↓sB60_1, ↓sB65_0, ↓sB65_1, ↓sB65_2, ↓sB66_0, ↓sB66_1, ↓sB69_0, ↓sB69_1, ↓sB72_0, ↓sB72_1, ↓bd_of r3, t1, g1', ↓bd_of t2, t5, ↓zc_of eh, ↓zc_of e2, ↓zc_of a1]
        all_goals rfl
      · obtain ⟨e', y, sw, mw, mz, ris, l1, l2⟩ := mk hm mm
        have sm := mm.1
        have l3 : e' = 4 := by
          rcases l2 with ⟨-, l2⟩ | ⟨l2, -⟩
          · exact absurd l2 p
          · exact l2
        subst l3
        have mxw := ((mw.2.2.2.2.2 on).1).1
        have en := fX12_handNumber_eq (r1 := 79) (fr := 0) (L := 5) (w := w) sw mxw.2.2.1 mxw.2.2.2.1 mxw.2.2.2.2.1 tok (sK79 sw) (sL79 sw) (by decide) (by omega) (fun i hi => ⟨by rw [Nat.zero_add, w5_at _ _ _ _ _ _ _ i (by omega), (hwi i hi).1], (hwi i hi).2⟩) hdst
        have g2 := good_m sw (iI (hix v.t w))
        have hk : kX12_handOf_54 hm 76 79 4 y (w5 (zsI hm 76 0 (iI 0)) 79 a b d e f) = some (iI (hix v.t w), zsI (zsI (w5 (zsI hm 76 0 (iI 0)) 79 a b d e f) 76 1 (iI 0)) 76 2 (iI (-1))) := by
          unfold kX12_handOf_54
          have en' : fX12_handNumber 76 79 0 (w5 (zsI hm 76 0 (iI 0)) 79 a b d e f) = _ := en
          rw [if_neg (by decide), if_neg (by decide), if_neg (by decide), zc_of en', zc_of g2]
        refine ⟨_, ?_, mw, mz⟩
        have hwd2 : w5 (zsI hm 76 0 (iI 0)) 79 a b d e f = zsI (zsI (zsI (zsI (zsI (zsI hm 76 0 (iI 0)) 79 0 (iI a)) 79 1 (iI b)) 79 2 (iI d)) 79 3 (iI e)) 79 4 (iI f) := rfl
        rw [hwd2] at l1 hk ⊢
        unfold fX12_handOf
        simp (maxSteps := 1000000) (disch := (first | assumption | exact ne_b rfl | omega)) only [↓reduceIte, ↓zlet_eq, ↓bdR_sI, ↓bdR_sJ, ↓bdR_aI, zc2_some, Option.bind_some, ↓si_m1, ↓si_m2, ↓si_m3, iI_lit, iI_add, iI_sub, iI_mul, leT, leF, ltT, ltF, eqT, eqF, zinT, clI, Int.toNat_natCast, Int.reduceToNat, tN1, tNa, tN0, tNm, if_pos, if_neg, zI_sI, zI_sJ, zI_sR, zJ_sI, zJ_sJ, zJ_sR, zR_sI, zR_sJ, zR_sR, zK_sI, zK_sJ, zK_sR, zL_sI, zL_sJ, zL_sR, zI_aI, zJ_aI, zR_aI, zK_aI, zL_aI, z2_at, z2_a, z2_k, z1_self, z1_ne, true_and, and_true, bIt, bIf, Bool.false_eq_true, Bool.true_eq_false, eq_self, not_true_eq_false, not_false_eq_true, sK76, sK77, sK78, sK79, sK80, sK81, sK82, sK83, sK84, sK85, sK86, sK87, sK88, sK89, sK90, sK91, sK92, sK93, sK94, sK95, sK96, sK97, sK98, sK99, sK100, sL77, sL78, sL79, sL80, sL81, sL82, sL83, sL84, sL85, sL86, sL87, sL88, sL89, sL90, sL91, sL92, sL93, sL94, sL95, sL96, sL97, sL98, sL99, sL100, sR76_5, sR76_16, sR76_18, sR76_19, sR76_20, sR76_21, sR76_23, sR76_25, sR76_26, sR76_27, sR76_28, sR76_29, sR76_30, sR76_31, sR76_32, sR76_33, sR76_34, sR76_37, sR76_38, sR76_39, sR76_40, sR76_41, sR76_42, ↓sB76_5, ↓sB76_16, ↓sB76_18, ↓sB76_19, ↓sB76_20, ↓sB76_21, ↓sB76_23, ↓sB76_25, ↓sB76_26, ↓sB76_27, ↓sB76_28, ↓sB76_29, ↓sB76_30, ↓sB76_31, ↓sB76_32, ↓sB76_33, ↓sB76_34, ↓sB76_37, ↓sB76_38, ↓sB76_39, ↓sB76_40, ↓sB76_41, ↓sB76_42, ris, ↓bd_of l1, hk]
        all_goals rfl
  · obtain ⟨g1, -, -, -⟩ := c.g
    obtain ⟨t1, t2, t3, t4, t5, t6, t7, -⟩ := tdS s ok.2.1
    have r3 := c.2.2.2.2.2.1
    have on' : v.on = false := Bool.eq_false_iff.mpr on
    rw [on'] at g1
    have g1' : zI h v.td 0 = iI 0 := g1
    have r1 := refuse_c s 1
    refine OpR.mk (r := iI (-1)) (k := 1) ok ok c m (by decide) (COp.ref c ?_) (MOp.ref (fun hm mm => ?_))
    · unfold fX10_handOf
      simp (maxSteps := 1000000) (disch := (first | assumption | exact ne_b rfl | omega)) only [↓reduceIte, ↓zlet_eq, ↓bdR_sI, ↓bdR_sJ, ↓bdR_aI, zc2_some, Option.bind_some, ↓si_m1, ↓si_m2, ↓si_m3, iI_lit, iI_add, iI_sub, iI_mul, leT, leF, ltT, ltF, eqT, eqF, zinT, clI, Int.toNat_natCast, Int.reduceToNat, tN1, tNa, tN0, tNm, if_pos, if_neg, zI_sI, zI_sJ, zI_sR, zJ_sI, zJ_sJ, zJ_sR, zR_sI, zR_sJ, zR_sR, zK_sI, zK_sJ, zK_sR, zL_sI, zL_sJ, zL_sR, zI_aI, zJ_aI, zR_aI, zK_aI, zL_aI, z2_at, z2_a, z2_k, z1_self, z1_ne, true_and, and_true, bIt, bIf, Bool.false_eq_true, Bool.true_eq_false, eq_self, not_true_eq_false, not_false_eq_true, sK0, sK1, sK2, sK3, sK4, sK5, sK6, sK7, sK8, sK9, sK10, sK11, sK12, sK13, sK14, sK15, sK16, sK17, sK18, sK19, sK20, sK21, sK22, sK23, sK24, sK25, sK26, sK27, sK28, sK29, sK30, sK31, sK32, sK33, sK34, sK35, sK36, sK37, sK38, sK39, sK40, sK41, sK42, sK43, sK44, sK45, sK46, sK47, sK48, sK49, sK50, sK51, sK52, sK53, sK54, sK55, sK56, sK57, sK58, sK59, sK60, sK61, sK62, sK63, sK64, sK65, sK66, sK67, sK68, sK69, sK70, sK71, sK72, sK73, sK74, sK75, sL1, sL3, sL6, sL8, sL9, sL10, sL11, sL12, sL15, sL17, sL18, sL21, sL23, sL24, sL26, sL29, sL31, sL32, sL34, sL36, sL37, sL39, sL40, sL41, sL43, sL45, sL46, sL47, sL48, sL49, sL50, sL51, sL52, sL53, sL55, sL57, sL59, sL61, sL62, sL63, sL64, sL65, sL67, sL68, sL70, sL71, sL73, sL74, sL75, sR0_0, sR0_2, sR0_5, sR0_6, sR0_11, sR2_5, sR2_6, sR2_7, sR4_1, sR4_2, sR4_4, sR7_0, sR7_1, sR13_1, sR13_2, sR13_4, sR16_0, sR16_1, sR19_1, sR19_2, sR19_4, sR22_0, sR22_1, sR25_0, sR25_2, sR25_3, sR25_4, sR25_5, sR25_6, sR25_7, sR25_8, sR25_10, sR27_1, sR27_2, sR27_4, sR30_0, sR30_1, sR33_0, sR35_0, sR35_1, sR38_0, sR38_1, sR38_2, sR42_0, sR42_5, sR42_7, sR42_11, sR42_12, sR42_13, sR53_0, sR53_1, sR53_2, sR53_3, sR54_1, sR56_1, sR58_1, sR60_1, sR65_0, sR65_1, sR65_2, sR66_0, sR66_1, sR69_0, sR69_1, sR72_0, sR72_1, ↓sB0_0, ↓sB0_2, ↓sB0_5, ↓sB0_6, ↓sB0_11, ↓sB2_5, ↓sB2_6, ↓sB2_7, ↓sB4_1, ↓sB4_2, ↓sB4_4, ↓sB7_0, ↓sB7_1, ↓sB13_1, ↓sB13_2, ↓sB13_4, ↓sB16_0, ↓sB16_1, ↓sB19_1, ↓sB19_2, ↓sB19_4, ↓sB22_0, ↓sB22_1, ↓sB25_0, ↓sB25_2, ↓sB25_3, ↓sB25_4, ↓sB25_5, ↓sB25_6, ↓sB25_7, ↓sB25_8, ↓sB25_10, ↓sB27_1, ↓sB27_2, ↓sB27_4, ↓sB30_0, ↓sB30_1, ↓sB33_0, ↓sB35_0, ↓sB35_1, ↓sB38_0, ↓sB38_1, ↓sB38_2, ↓sB42_0, ↓sB42_5, ↓sB42_7, ↓sB42_11, ↓sB42_12, ↓sB42_13, ↓sB53_0, ↓sB53_1, ↓sB53_2, ↓sB53_3, ↓sB54_1, ↓sB56_1, ↓sB58_1, ↓sB60_1, ↓sB65_0, ↓sB65_1, ↓sB65_2, ↓sB66_0, ↓sB66_1, ↓sB69_0, ↓sB69_1, ↓sB72_0, ↓sB72_1, ↓bd_of r3, t1, g1', ↓zc_of r1]
      all_goals rfl
    · have m0 := mm.s76 (j := 0) (x := iI 0) (by decide)
      have sm := mm.1
      have q3 := mm.tr3
      rw [on', if_neg (by decide)] at q3
      have ris : (zR hm 76 3).isSome = false := by rw [q3]; rfl
      have g2 := refused_m m0.1 1
      unfold fX12_handOf
      simp (maxSteps := 1000000) (disch := (first | assumption | exact ne_b rfl | omega)) only [↓reduceIte, ↓zlet_eq, ↓bdR_sI, ↓bdR_sJ, ↓bdR_aI, zc2_some, Option.bind_some, ↓si_m1, ↓si_m2, ↓si_m3, iI_lit, iI_add, iI_sub, iI_mul, leT, leF, ltT, ltF, eqT, eqF, zinT, clI, Int.toNat_natCast, Int.reduceToNat, tN1, tNa, tN0, tNm, if_pos, if_neg, zI_sI, zI_sJ, zI_sR, zJ_sI, zJ_sJ, zJ_sR, zR_sI, zR_sJ, zR_sR, zK_sI, zK_sJ, zK_sR, zL_sI, zL_sJ, zL_sR, zI_aI, zJ_aI, zR_aI, zK_aI, zL_aI, z2_at, z2_a, z2_k, z1_self, z1_ne, true_and, and_true, bIt, bIf, Bool.false_eq_true, Bool.true_eq_false, eq_self, not_true_eq_false, not_false_eq_true, sK76, sK77, sK78, sK79, sK80, sK81, sK82, sK83, sK84, sK85, sK86, sK87, sK88, sK89, sK90, sK91, sK92, sK93, sK94, sK95, sK96, sK97, sK98, sK99, sK100, sL77, sL78, sL79, sL80, sL81, sL82, sL83, sL84, sL85, sL86, sL87, sL88, sL89, sL90, sL91, sL92, sL93, sL94, sL95, sL96, sL97, sL98, sL99, sL100, sR76_5, sR76_16, sR76_18, sR76_19, sR76_20, sR76_21, sR76_23, sR76_25, sR76_26, sR76_27, sR76_28, sR76_29, sR76_30, sR76_31, sR76_32, sR76_33, sR76_34, sR76_37, sR76_38, sR76_39, sR76_40, sR76_41, sR76_42, ↓sB76_5, ↓sB76_16, ↓sB76_18, ↓sB76_19, ↓sB76_20, ↓sB76_21, ↓sB76_23, ↓sB76_25, ↓sB76_26, ↓sB76_27, ↓sB76_28, ↓sB76_29, ↓sB76_30, ↓sB76_31, ↓sB76_32, ↓sB76_33, ↓sB76_34, ↓sB76_37, ↓sB76_38, ↓sB76_39, ↓sB76_40, ↓sB76_41, ↓sB76_42, ris, ↓zc_of g2]
      all_goals rfl
