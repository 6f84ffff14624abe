/-! calls on both: shows -/
theorem op_shows {h : Zh} {u : Nat} {x y : Int} (inv : Inv h u) (hu : u ≤ 59000) (hx : iR x) (hy : iR y) : OpR (fX10_shows 0 (iI x) (iI y)) (fX12_shows 76 (iI x) (iI y)) h u := by
  obtain ⟨v, tb, tr, ra, ok, c, m, -⟩ := inv
  have s := c.1
  by_cases p0 : 0 ≤ x ∧ x < RCv v
  · by_cases p1 : 0 ≤ y ∧ y < HNv v
    · have n0 := noRule_0 ok c p0
      have n1 := noHand_0 ok c p1
      obtain ⟨on, i, ei, hi⟩ := RCv_on p0
      have tok := (ok.2.2.2.2.2.2 on).1
      have hrc := (ok.2.2.2.2.2.2 on).2.1
      have hH := tok.b.2.2.2.2.2.2.2.2.2.2.2.1
      obtain ⟨h1, e1, c1, f1, l1, -⟩ := laid_c ok on c hi (by omega)
      have s1 := c1.1
      have hfc := fcl_le (lay v.t (v.ru i)) (tH v.t)
      have huc := ucl_le (lay v.t (v.ru i)) (tH v.t)
      have hcb := chd_b (lay v.t (v.ru i)) (tH v.t)
      have hlb : ∀ x, x < tH v.t → lay v.t (v.ru i) x = -2 ∨ (0 ≤ lay v.t (v.ru i) x ∧ lay v.t (v.ru i) x < 2147483648) := fun x hx => by
        have hR := tok.b.2.2.2.2.2.2.2.2.2.2.2.2.2.2.2.2.2.2.1
        rcases lay_b tok (kind := v.ru i) hx with q | q
        · exact Or.inl q
        · exact Or.inr (by omega)
      obtain ⟨-, j, ej, hj⟩ := HNv_on p1
      have hR := tok.b.2.2.2.2.2.2.2.2.2.2.2.2.2.2.2.2.2.2.1
      have hel := ok.2.2.1
      have htd := ok.2.1
      have r3 := c1.2.2.2.2.2.1
      have dd := c1.2.2.2.2.2.2.2.2.1
      have d0 := dd.1
      have hi4 : i < 4 := by omega
      have hj2 : j < 2000 := by omega
      have g1 := l1.2.1.1 j hj
      have hm1 : ∀ hm, KM hm v tr ra → ∃ h2, fX12_laysNow 76 (iI i) (iI j) (zsI hm 76 0 (iI 0)) = some (iI (lay v.t (v.ru i) j), h2) ∧ KM h2 v tr ra ∧ MFz (zsI hm 76 0 (iI 0)) h2 := fun hm mm => by
        have m0 := mm.s76 (j := 0) (x := iI 0) (by decide)
        obtain ⟨h2, q1, q2, q3⟩ := fX12_laysNow_eq tok (m0.2.2.2.2.2 on).1 hi hj
        exact ⟨h2, q1, m0.mr on q2.r q3, q2.z⟩
      rcases lay_b tok (kind := v.ru i) hj with hl | hl
      · rw [hl] at g1
        refine OpR.mk (r := iI (-1)) (k := 6) ok ok c m (by decide) ⟨h1, ?_, c1.mono (by omega), f1⟩ ?_
        · rw [ei] at n0 ⊢
          rw [ej] at n1 ⊢
          exact shows_c6 s s1 hi4 hj2 n0 n1 e1 g1
        · intro hm mm
          have m0 := mm.s76 (j := 0) (x := iI 0) (by decide)
          have sm := mm.1
          have k0 := isRule_1 ok m0 p0
          have k1 := isHand_1 ok m0 p1
          obtain ⟨h2, q1, q2, q3⟩ := hm1 hm mm
          rw [hl] at q1
          refine ⟨h2, ?_, q2, (MFz.sI _ _).tr q3⟩
          rw [ei] at k0 ⊢
          rw [ej] at k1 ⊢
          exact shows_m6 sm q2.1 k0 k1 q1
      · have hl1 := hl.1
        have hl2 := hl.2
        have hne : ¬ lay v.t (v.ru i) j = -2 := by omega
        obtain ⟨r, hr⟩ : ∃ r : Nat, lay v.t (v.ru i) j = r := ⟨(lay v.t (v.ru i) j).toNat, by omega⟩
        by_cases p2 : v.el = 20
        · rw [p2] at d0
          rw [hr] at g1
          refine OpR.mk (r := iI (-1)) (k := 3) ok ok c m (by decide) ⟨h1, ?_, c1.mono (by omega), f1⟩ ?_
          · rw [ei] at n0 ⊢
            rw [ej] at n1 ⊢
            exact shows_c3 s s1 htd r3 hi4 hj2 (by omega) n0 n1 e1 g1 d0
          · intro hm mm
            have m0 := mm.s76 (j := 0) (x := iI 0) (by decide)
            have sm := mm.1
            have k0 := isRule_1 ok m0 p0
            have k1 := isHand_1 ok m0 p1
            obtain ⟨h2, q1, q2, q3⟩ := hm1 hm mm
            have s2 := q2.1
            have h43 := (q2.2.2.2.2.2 on).2.1
            rw [p2] at h43
            rw [hr] at q1
            refine ⟨h2, ?_, q2, (MFz.sI _ _).tr q3⟩
            rw [ei] at k0 ⊢
            rw [ej] at k1 ⊢
            exact shows_m3 sm s2 (by omega) k0 k1 q1 h43
        · have ok' : VOK (v.dia (v.el + 1) v.sd (fun e => if e = v.el then j else v.eh e) (fun e => if e = v.el then r else v.er e)) := ok.dia on (by omega) ok.2.2.2.1 (fun e he => by
            by_cases q : e = v.el
            · show (if e = v.el then j else v.eh e) < _ ∧ (if e = v.el then r else v.er e) < _
              rw [if_pos q, if_pos q]; omega
            · show (if e = v.el then j else v.eh e) < _ ∧ (if e = v.el then r else v.er e) < _
              rw [if_neg q, if_neg q]; exact (ok.2.2.2.2.2.2 on).2.2.2.1 e (by omega))
          have f : Fm [v.td + 3, v.td + 4, v.td + 5] h1 (zsI (zsI (zsI h1 (v.td + 4) v.el (iI j)) (v.td + 5) v.el (iI r)) (v.td + 3) 2 (iI ((v.el + 1 : Nat) : Int))) := ((Fm_sI _ _ _ (by simp)).tr (Fm_sI _ _ _ (by simp))).tr (Fm_sI _ _ _ (by simp))
          have n34 : v.td + 3 ≠ v.td + 4 := by omega
          have n35 : v.td + 3 ≠ v.td + 5 := by omega
          have n45 : v.td + 4 ≠ v.td + 5 := by omega
          have n43 : v.td + 4 ≠ v.td + 3 := by omega
          have n53 : v.td + 5 ≠ v.td + 3 := by omega
          have n54 : v.td + 5 ≠ v.td + 4 := by omega
          obtain ⟨c2, f2⟩ := c1.dia ok on f (el := v.el + 1) (sd := v.sd) (eh := fun e => if e = v.el then j else v.eh e) (er := fun e => if e = v.el then r else v.er e) ⟨by rw [zI_sI, z2_at], by rw [zI_sI, z2_k _ _ _ (by decide), zI_sI, z2_row _ _ _ n35, zI_sI, z2_row _ _ _ n34]; exact dd.2.1, fun e he => by
            show zI _ (v.td + 4) e = iI ((if e = v.el then j else v.eh e : Nat) : Int) ∧ zI _ (v.td + 5) e = iI ((if e = v.el then r else v.er e : Nat) : Int)
            rw [zI_sI, z2_row _ _ _ n43, z2_row _ _ _ n53, zI_sI, z2_row _ _ _ n45, zI_sI]
            by_cases q : e = v.el
            · rw [if_pos q, if_pos q, q, z2_at, z2_at]
              exact ⟨rfl, rfl⟩
            · rw [if_neg q, if_neg q, z2_k _ _ _ q, z2_k _ _ _ q, z2_row _ _ _ n54]
              exact dd.2.2 e (by omega)⟩
          have s2 := c2.1
          rw [hr] at g1
          have d22 : zI (zsI (zsI (zsI h1 (v.td + 4) v.el (iI j)) (v.td + 5) v.el (iI r)) (v.td + 3) 2 (iI ((v.el + 1 : Nat) : Int))) (v.td + 3) 2 = iI ((v.el + 1 : Nat) : Int) := by rw [zI_sI, z2_at]
          refine OpR.mk (r := iI (v.el : Int)) (k := 0) ok ok' c m (by decide) ⟨_, ?_, c2.mono (by omega), f1.tr f2 (fun k _ hk => hk)⟩ ?_
          · rw [ei] at n0 ⊢
            rw [ej] at n1 ⊢
            exact shows_c0 s s1 s2 htd r3 r3 hi4 hj2 (by omega) (by omega) n0 n1 e1 g1 d0 (add_c s1 htd (by omega) d0) d22
          · intro hm mm
            have m0 := mm.s76 (j := 0) (x := iI 0) (by decide)
            have sm := mm.1
            have k0 := isRule_1 ok m0 p0
            have k1 := isHand_1 ok m0 p1
            obtain ⟨h2, q1, q2, q3⟩ := hm1 hm mm
            have s2' := q2.1
            have h43 := (q2.2.2.2.2.2 on).2.1
            have h45 := (q2.2.2.2.2.2 on).2.2.1
            have he := (q2.2.2.2.2.2 on).2.2.2.2.1
            have hne2 : ¬ (v.el : Int) = 20 := by omega
            have fz : Fm [76, 94, 95] h2 (zsI (zsI (zsI h2 94 v.el (iI j)) 95 v.el (iI r)) 76 43 (iI ((v.el + 1 : Nat) : Int))) := ((Fm_sI _ _ _ (by simp)).tr (Fm_sI _ _ _ (by simp))).tr (Fm_sI _ _ _ (by simp))
            have m3 := q2.dia on fz (el := v.el + 1) (sd := v.sd) (eh := fun e => if e = v.el then j else v.eh e) (er := fun e => if e = v.el then r else v.er e) (fun k _ k43 _ => by rw [zI_sI, z2_k _ _ _ k43, zI_sI, z2_row _ _ _ (by decide), zI_sI, z2_row _ _ _ (by decide)]) (by rw [zI_sI, z2_at]) (by rw [zI_sI, z2_k _ _ _ (by decide), zI_sI, z2_row _ _ _ (by decide), zI_sI, z2_row _ _ _ (by decide)]; exact h45) (fun e h => by
              show zI _ 94 e = iI ((if e = v.el then j else v.eh e : Nat) : Int) ∧ zI _ 95 e = iI ((if e = v.el then r else v.er e : Nat) : Int)
              rw [zI_sI, z2_row _ _ _ (by decide), z2_row _ _ _ (by decide), zI_sI, z2_row _ _ _ (by decide), zI_sI]
              by_cases q : e = v.el
              · rw [if_pos q, if_pos q, q, z2_at, z2_at]
                exact ⟨rfl, rfl⟩
              · rw [if_neg q, if_neg q, z2_k _ _ _ q, z2_k _ _ _ q, z2_row _ _ _ (by decide)]
                exact he e (by omega))
            rw [hr] at q1
            refine ⟨_, ?_, m3, ((MFz.sI _ _).tr q3).tr (MFz.of fz (by simp))⟩
            rw [ei] at k0 ⊢
            rw [ej] at k1 ⊢
            exact shows_m0 sm s2' (by omega) (by omega) k0 k1 q1 h43
    · have n0 := noRule_0 ok c p0
      have n1 := noHand_1 ok c hy p1
      have r1 := refuse_c s 1
      refine OpR.mk (r := iI (-1)) (k := 1) ok ok c m (by decide) (COp.ref c ?_) (MOp.ref (fun hm mm => ?_))
      · unfold fX10_shows
        simp (maxSteps := 1000000) (disch := (first | assumption | exact ne_b rfl | omega)) only [↓reduceIte, ↓zlet_eq, ↓bdR_sI, ↓bdR_sJ, ↓bdR_aI, zc2_some, Option.bind_some, ↓si_m1, ↓si_m2, ↓si_m3, iI_lit, iI_add, iI_sub, iI_mul, leT, leF, ltT, ltF, eqT, eqF, zinT, clI, Int.toNat_natCast, Int.reduceToNat, tN1, tNa, tN0, tNm, if_pos, if_neg, zI_sI, zI_sJ, zI_sR, zJ_sI, zJ_sJ, zJ_sR, zR_sI, zR_sJ, zR_sR, zK_sI, zK_sJ, zK_sR, zL_sI, zL_sJ, zL_sR, zI_aI, zJ_aI, zR_aI, zK_aI, zL_aI, z2_at, z2_a, z2_k, z1_self, z1_ne, true_and, and_true, bIt, bIf, Bool.false_eq_true, Bool.true_eq_false, eq_self, not_true_eq_false, not_false_eq_true, sK0, sK1, sK2, sK3, sK4, sK5, sK6, sK7, sK8, sK9, sK10, sK11, sK12, sK13, sK14, sK15, sK16, sK17, sK18, sK19, sK20, sK21, sK22, sK23, sK24, sK25, sK26, sK27, sK28, sK29, sK30, sK31, sK32, sK33, sK34, sK35, sK36, sK37, sK38, sK39, sK40, sK41, sK42, sK43, sK44, sK45, sK46, sK47, sK48, sK49, sK50, sK51, sK52, sK53, sK54, sK55, sK56, sK57, sK58, sK59, sK60, sK61, sK62, sK63, sK64, sK65, sK66, sK67, sK68, sK69, sK70, sK71, sK72, sK73, sK74, sK75, sL1, sL3, sL6, sL8, sL9, sL10, sL11, sL12, sL15, sL17, sL18, sL21, sL23, sL24, sL26, sL29, sL31, sL32, sL34, sL36, sL37, sL39, sL40, sL41, sL43, sL45, sL46, sL47, sL48, sL49, sL50, sL51, sL52, sL53, sL55, sL57, sL59, sL61, sL62, sL63, sL64, sL65, sL67, sL68, sL70, sL71, sL73, sL74, sL75, sR0_0, sR0_2, sR0_5, sR0_6, sR0_11, sR2_5, sR2_6, sR2_7, sR4_1, sR4_2, sR4_4, sR7_0, sR7_1, sR13_1, sR13_2, sR13_4, sR16_0, sR16_1, sR19_1, sR19_2, sR19_4, sR22_0, sR22_1, sR25_0, sR25_2, sR25_3, sR25_4, sR25_5, sR25_6, sR25_7, sR25_8, sR25_10, sR27_1, sR27_2, sR27_4, sR30_0, sR30_1, sR33_0, sR35_0, sR35_1, sR38_0, sR38_1, sR38_2, sR42_0, sR42_5, sR42_7, sR42_11, sR42_12, sR42_13, sR53_0, sR53_1, sR53_2, sR53_3, sR54_1, sR56_1, sR58_1, sR60_1, sR65_0, sR65_1, sR65_2, sR66_0, sR66_1, sR69_0, sR69_1, sR72_0, sR72_1, ↓sB0_0, ↓sB0_2, ↓sB0_5, ↓sB0_6, ↓sB0_11, ↓sB2_5, ↓sB2_6, ↓sB2_7, ↓sB4_1, ↓sB4_2, ↓sB4_4, ↓sB7_0, ↓sB7_1, ↓sB13_1, ↓sB13_2, ↓sB13_4, ↓sB16_0, ↓sB16_1, ↓sB19_1, ↓sB19_2, ↓sB19_4, ↓sB22_0, ↓sB22_1, ↓sB25_0, ↓sB25_2, ↓sB25_3, ↓sB25_4, ↓sB25_5, ↓sB25_6, ↓sB25_7, ↓sB25_8, ↓sB25_10, ↓sB27_1, ↓sB27_2, ↓sB27_4, ↓sB30_0, ↓sB30_1, ↓sB33_0, ↓sB35_0, ↓sB35_1, ↓sB38_0, ↓sB38_1, ↓sB38_2, ↓sB42_0, ↓sB42_5, ↓sB42_7, ↓sB42_11, ↓sB42_12, ↓sB42_13, ↓sB53_0, ↓sB53_1, ↓sB53_2, ↓sB53_3, ↓sB54_1, ↓sB56_1, ↓sB58_1, ↓sB60_1, ↓sB65_0, ↓sB65_1, ↓sB65_2, ↓sB66_0, ↓sB66_1, ↓sB69_0, ↓sB69_1, ↓sB72_0, ↓sB72_1, ↓zc_of n0, ↓zc_of n1, ↓zc_of r1]
        all_goals rfl
      · have m0 := mm.s76 (j := 0) (x := iI 0) (by decide)
        have sm := mm.1
        have k0 := isRule_1 ok m0 p0
        have k1 := isHand_0 ok m0 hy p1
        have g2 := refused_m m0.1 1
        unfold fX12_shows
        simp (maxSteps := 1000000) (disch := (first | assumption | exact ne_b rfl | omega)) only [↓reduceIte, ↓zlet_eq, ↓bdR_sI, ↓bdR_sJ, ↓bdR_aI, zc2_some, Option.bind_some, ↓si_m1, ↓si_m2, ↓si_m3, iI_lit, iI_add, iI_sub, iI_mul, leT, leF, ltT, ltF, eqT, eqF, zinT, clI, Int.toNat_natCast, Int.reduceToNat, tN1, tNa, tN0, tNm, if_pos, if_neg, zI_sI, zI_sJ, zI_sR, zJ_sI, zJ_sJ, zJ_sR, zR_sI, zR_sJ, zR_sR, zK_sI, zK_sJ, zK_sR, zL_sI, zL_sJ, zL_sR, zI_aI, zJ_aI, zR_aI, zK_aI, zL_aI, z2_at, z2_a, z2_k, z1_self, z1_ne, true_and, and_true, bIt, bIf, Bool.false_eq_true, Bool.true_eq_false, eq_self, not_true_eq_false, not_false_eq_true, sK76, sK77, sK78, sK79, sK80, sK81, sK82, sK83, sK84, sK85, sK86, sK87, sK88, sK89, sK90, sK91, sK92, sK93, sK94, sK95, sK96, sK97, sK98, sK99, sK100, sL77, sL78, sL79, sL80, sL81, sL82, sL83, sL84, sL85, sL86, sL87, sL88, sL89, sL90, sL91, sL92, sL93, sL94, sL95, sL96, sL97, sL98, sL99, sL100, sR76_5, sR76_16, sR76_18, sR76_19, sR76_20, sR76_21, sR76_23, sR76_25, sR76_26, sR76_27, sR76_28, sR76_29, sR76_30, sR76_31, sR76_32, sR76_33, sR76_34, sR76_37, sR76_38, sR76_39, sR76_40, sR76_41, sR76_42, ↓sB76_5, ↓sB76_16, ↓sB76_18, ↓sB76_19, ↓sB76_20, ↓sB76_21, ↓sB76_23, ↓sB76_25, ↓sB76_26, ↓sB76_27, ↓sB76_28, ↓sB76_29, ↓sB76_30, ↓sB76_31, ↓sB76_32, ↓sB76_33, ↓sB76_34, ↓sB76_37, ↓sB76_38, ↓sB76_39, ↓sB76_40, ↓sB76_41, ↓sB76_42, ↓zc_of k0, ↓zc_of k1, ↓zc_of g2]
        all_goals rfl
  · have n0 := noRule_1 ok c hx p0
    have r1 := refuse_c s 1
    refine OpR.mk (r := iI (-1)) (k := 1) ok ok c m (by decide) (COp.ref c ?_) (MOp.ref (fun hm mm => ?_))
    · unfold fX10_shows
      simp (maxSteps := 1000000) (disch := (first | assumption | exact ne_b rfl | omega)) only [↓reduceIte, ↓zlet_eq, ↓bdR_sI, ↓bdR_sJ, ↓bdR_aI, zc2_some, Option.bind_some, ↓si_m1, ↓si_m2, ↓si_m3, iI_lit, iI_add, iI_sub, iI_mul, leT, leF, ltT, ltF, eqT, eqF, zinT, clI, Int.toNat_natCast, Int.reduceToNat, tN1, tNa, tN0, tNm, if_pos, if_neg, zI_sI, zI_sJ, zI_sR, zJ_sI, zJ_sJ, zJ_sR, zR_sI, zR_sJ, zR_sR, zK_sI, zK_sJ, zK_sR, zL_sI, zL_sJ, zL_sR, zI_aI, zJ_aI, zR_aI, zK_aI, zL_aI, z2_at, z2_a, z2_k, z1_self, z1_ne, true_and, and_true, bIt, bIf, Bool.false_eq_true, Bool.true_eq_false, eq_self, not_true_eq_false, not_false_eq_true, sK0, sK1, sK2, sK3, sK4, sK5, sK6, sK7, sK8, sK9, sK10, sK11, sK12, sK13, sK14, sK15, sK16, sK17, sK18, sK19, sK20, sK21, sK22, sK23, sK24, sK25, sK26, sK27, sK28, sK29, sK30, sK31, sK32, sK33, sK34, sK35, sK36, sK37, sK38, sK39, sK40, sK41, sK42, sK43, sK44, sK45, sK46, sK47, sK48, sK49, sK50, sK51, sK52, sK53, sK54, sK55, sK56, sK57, sK58, sK59, sK60, sK61, sK62, sK63, sK64, sK65, sK66, sK67, sK68, sK69, sK70, sK71, sK72, sK73, sK74, sK75, sL1, sL3, sL6, sL8, sL9, sL10, sL11, sL12, sL15, sL17, sL18, sL21, sL23, sL24, sL26, sL29, sL31, sL32, sL34, sL36, sL37, sL39, sL40, sL41, sL43, sL45, sL46, sL47, sL48, sL49, sL50, sL51, sL52, sL53, sL55, sL57, sL59, sL61, sL62, sL63, sL64, sL65, sL67, sL68, sL70, sL71, sL73, sL74, sL75, sR0_0, sR0_2, sR0_5, sR0_6, sR0_11, sR2_5, sR2_6, sR2_7, sR4_1, sR4_2, sR4_4, sR7_0, sR7_1, sR13_1, sR13_2, sR13_4, sR16_0, sR16_1, sR19_1, sR19_2, sR19_4, sR22_0, sR22_1, sR25_0, sR25_2, sR25_3, sR25_4, sR25_5, sR25_6, sR25_7, sR25_8, sR25_10, sR27_1, sR27_2, sR27_4, sR30_0, sR30_1, sR33_0, sR35_0, sR35_1, sR38_0, sR38_1, sR38_2, sR42_0, sR42_5, sR42_7, sR42_11, sR42_12, sR42_13, sR53_0, sR53_1, sR53_2, sR53_3, sR54_1, sR56_1, sR58_1, sR60_1, sR65_0, sR65_1, sR65_2, sR66_0, sR66_1, sR69_0, sR69_1, sR72_0, sR72_1, ↓sB0_0, ↓sB0_2, ↓sB0_5, ↓sB0_6, ↓sB0_11, ↓sB2_5, ↓sB2_6, ↓sB2_7, ↓sB4_1, ↓sB4_2, ↓sB4_4, ↓sB7_0, ↓sB7_1, ↓sB13_1, ↓sB13_2, ↓sB13_4, ↓sB16_0, ↓sB16_1, ↓sB19_1, ↓sB19_2, ↓sB19_4, ↓sB22_0, ↓sB22_1, ↓sB25_0, ↓sB25_2, ↓sB25_3, ↓sB25_4, ↓sB25_5, ↓sB25_6, ↓sB25_7, ↓sB25_8, ↓sB25_10, ↓sB27_1, ↓sB27_2, ↓sB27_4, ↓sB30_0, ↓sB30_1, ↓sB33_0, ↓sB35_0, ↓sB35_1, ↓sB38_0, ↓sB38_1, ↓sB38_2, ↓sB42_0, ↓sB42_5, ↓sB42_7, ↓sB42_11, ↓sB42_12, ↓sB42_13, ↓sB53_0, ↓sB53_1, ↓sB53_2, ↓sB53_3, ↓sB54_1, ↓sB56_1, ↓sB58_1, ↓sB60_1, ↓sB65_0, ↓sB65_1, ↓sB65_2, ↓sB66_0, ↓sB66_1, ↓sB69_0, ↓sB69_1, ↓sB72_0, ↓sB72_1, ↓zc_of n0, ↓zc_of r1]
      all_goals rfl
    · have m0 := mm.s76 (j := 0) (x := iI 0) (by decide)
      have sm := mm.1
      have k0 := isRule_0 ok m0 hx p0
      have g2 := refused_m m0.1 1
      unfold fX12_shows
      simp (maxSteps := 1000000) (disch := (first | assumption | exact ne_b rfl | omega)) only [↓reduceIte, ↓zlet_eq, ↓bdR_sI, ↓bdR_sJ, ↓bdR_aI, zc2_some, Option.bind_some, ↓si_m1, ↓si_m2, ↓si_m3, iI_lit, iI_add, iI_sub, iI_mul, leT, leF, ltT, ltF, eqT, eqF, zinT, clI, Int.toNat_natCast, Int.reduceToNat, tN1, tNa, tN0, tNm, if_pos, if_neg, zI_sI, zI_sJ, zI_sR, zJ_sI, zJ_sJ, zJ_sR, zR_sI, zR_sJ, zR_sR, zK_sI, zK_sJ, zK_sR, zL_sI, zL_sJ, zL_sR, zI_aI, zJ_aI, zR_aI, zK_aI, zL_aI, z2_at, z2_a, z2_k, z1_self, z1_ne, true_and, and_true, bIt, bIf, Bool.false_eq_true, Bool.true_eq_false, eq_self, not_true_eq_false, not_false_eq_true, sK76, sK77, sK78, sK79, sK80, sK81, sK82, sK83, sK84, sK85, sK86, sK87, sK88, sK89, sK90, sK91, sK92, sK93, sK94, sK95, sK96, sK97, sK98, sK99, sK100, sL77, sL78, sL79, sL80, sL81, sL82, sL83, sL84, sL85, sL86, sL87, sL88, sL89, sL90, sL91, sL92, sL93, sL94, sL95, sL96, sL97, sL98, sL99, sL100, sR76_5, sR76_16, sR76_18, sR76_19, sR76_20, sR76_21, sR76_23, sR76_25, sR76_26, sR76_27, sR76_28, sR76_29, sR76_30, sR76_31, sR76_32, sR76_33, sR76_34, sR76_37, sR76_38, sR76_39, sR76_40, sR76_41, sR76_42, ↓sB76_5, ↓sB76_16, ↓sB76_18, ↓sB76_19, ↓sB76_20, ↓sB76_21, ↓sB76_23, ↓sB76_25, ↓sB76_26, ↓sB76_27, ↓sB76_28, ↓sB76_29, ↓sB76_30, ↓sB76_31, ↓sB76_32, ↓sB76_33, ↓sB76_34, ↓sB76_37, ↓sB76_38, ↓sB76_39, ↓sB76_40, ↓sB76_41, ↓sB76_42, ↓zc_of k0, ↓zc_of g2]
      all_goals rfl
