/-! calls on both: image, back -/
theorem imS {h : Zh} (s : St h) {k : Nat} (hk : k < 3) : zR h 65 k = some (66 + 3 * k) ∧ zK h (66 + 3 * k) = 1 ∧ zR h (66 + 3 * k) 0 = some (66 + 3 * k + 1) ∧ zR h (66 + 3 * k) 1 = some (66 + 3 * k + 2) ∧ zK h (66 + 3 * k + 1) = 100 ∧ zL h (66 + 3 * k + 1) = 20 ∧ zK h (66 + 3 * k + 2) = 100 ∧ zL h (66 + 3 * k + 2) = 20 := by
  have : k = 0 ∨ k = 1 ∨ k = 2 := by omega
  rcases this with rfl | rfl | rfl
  · exact ⟨s.2.2.2 (65, 0, 66) (by decide), s.2.1 66 (by decide), s.2.2.2 (66, 0, 67) (by decide), s.2.2.2 (66, 1, 68) (by decide), s.2.1 67 (by decide), s.2.2.1 67 (by decide), s.2.1 68 (by decide), s.2.2.1 68 (by decide)⟩
  · exact ⟨s.2.2.2 (65, 1, 69) (by decide), s.2.1 69 (by decide), s.2.2.2 (69, 0, 70) (by decide), s.2.2.2 (69, 1, 71) (by decide), s.2.1 70 (by decide), s.2.2.1 70 (by decide), s.2.1 71 (by decide), s.2.2.1 71 (by decide)⟩
  · exact ⟨s.2.2.2 (65, 2, 72) (by decide), s.2.1 72 (by decide), s.2.2.2 (72, 0, 73) (by decide), s.2.2.2 (72, 1, 74) (by decide), s.2.1 73 (by decide), s.2.2.1 73 (by decide), s.2.1 74 (by decide), s.2.2.1 74 (by decide)⟩
theorem become_eq {h : Zh} {r0 r1 l sd : Nat} {hs rs : Nat → Nat} (a1 : zK h r0 = 1) (a2 : zR h r0 0 = some (r0 + 1)) (a3 : zR h r0 1 = some (r0 + 2)) (a4 : zK h (r0 + 1) = 100) (a5 : zL h (r0 + 1) = 20) (a6 : zK h (r0 + 2) = 100) (a7 : zL h (r0 + 2) = 20) (b1 : zK h r1 = 1) (b2 : zR h r1 0 = some (r1 + 1)) (b3 : zR h r1 1 = some (r1 + 2)) (b4 : zK h (r1 + 1) = 100) (b5 : zL h (r1 + 1) = 20) (b6 : zK h (r1 + 2) = 100) (b7 : zL h (r1 + 2) = 20) (hne : r0 + 2 < r1 ∨ r1 + 2 < r0) (dv : DV h r1 l sd hs rs) (hl : l ≤ 20) : ∃ h', fX1_become r0 r1 h = some h' ∧ Fm [r0, r0 + 1, r0 + 2] h h' ∧ DV h' r0 l sd hs rs := by
  obtain ⟨d1, d2, d3⟩ := dv
  have q1 : r1 + 2 ≠ r0 + 1 := by omega
  have q2 : r0 + 2 ≠ r0 + 1 := by omega
  have q3 : r1 ≠ r0 + 2 := by omega
  have q4 : r1 ≠ r0 + 1 := by omega
  have q5 : r1 ≠ r0 := by omega
  have q6 : r0 + 1 ≠ r0 := by omega
  have q7 : r0 + 2 ≠ r0 := by omega
  have q8 : r0 + 1 ≠ r0 + 2 := by omega
  have hc1 : (0 : Int) ≤ ((0 : Int32)).toInt ∧ (0 : Int) ≤ ((0 : Int32)).toInt ∧ (0 : Int) ≤ ((20 : Int32)).toInt ∧ ((0 : Int32)).toInt + ((20 : Int32)).toInt ≤ (zL h (r1 + 1) : Int) ∧ ((0 : Int32)).toInt + ((20 : Int32)).toInt ≤ (zL h (r0 + 1) : Int) := by rw [b5, a5]; decide
  have hc2 : (0 : Int) ≤ ((0 : Int32)).toInt ∧ (0 : Int) ≤ ((0 : Int32)).toInt ∧ (0 : Int) ≤ ((20 : Int32)).toInt ∧ ((0 : Int32)).toInt + ((20 : Int32)).toInt ≤ (zL h (r1 + 2) : Int) ∧ ((0 : Int32)).toInt + ((20 : Int32)).toInt ≤ (zL h (r0 + 2) : Int) := by rw [b7, a7]; decide
  refine ⟨zsI (zsI (zaI (zaI h (r0 + 1) (va_cpy (zI h (r1 + 1)) (zI h (r0 + 1)) 0 0 20)) (r0 + 2) (va_cpy (zI h (r1 + 2)) (zI h (r0 + 2)) 0 0 20)) r0 2 (iI l)) r0 3 (iI sd), ?_, ((((Fm_aI _ _ (by simp)).tr (Fm_aI _ _ (by simp))).tr (Fm_sI _ _ _ (by simp))).tr (Fm_sI _ _ _ (by simp))), ?_⟩
  · unfold fX1_become
    have e1 : zI (zaI h (r0 + 1) (va_cpy (zI h (r1 + 1)) (zI h (r0 + 1)) 0 0 20)) (r1 + 2) = zI h (r1 + 2) := by rw [zI_aI, z1_ne _ _ q1]
    have e2 : zI (zaI h (r0 + 1) (va_cpy (zI h (r1 + 1)) (zI h (r0 + 1)) 0 0 20)) (r0 + 2) = zI h (r0 + 2) := by rw [zI_aI, z1_ne _ _ q2]
    rw [zlet_eq, if_pos b1]
    refine (bd_of b2 _).trans ?_
    rw [if_pos a1]
    refine (bd_of a2 _).trans ?_
    rw [if_pos b4, if_pos a4, if_pos hc1, zlet_eq]
    refine (bd_of (show zR _ r1 1 = some (r1 + 2) from b3) _).trans ?_
    refine (bd_of (show zR _ r0 1 = some (r0 + 2) from a3) _).trans ?_
    rw [if_pos b6, if_pos a6, if_pos hc2, zlet_eq]
    show zlet (zsI (zaI (zaI h (r0 + 1) (va_cpy (zI h (r1 + 1)) (zI h (r0 + 1)) 0 0 20)) (r0 + 2) (va_cpy (zI (zaI h (r0 + 1) (va_cpy (zI h (r1 + 1)) (zI h (r0 + 1)) 0 0 20)) (r1 + 2)) (zI (zaI h (r0 + 1) (va_cpy (zI h (r1 + 1)) (zI h (r0 + 1)) 0 0 20)) (r0 + 2)) 0 0 20)) r0 2 (zI (zaI (zaI h (r0 + 1) (va_cpy (zI h (r1 + 1)) (zI h (r0 + 1)) 0 0 20)) (r0 + 2) _) r1 2)) _ = _
    rw [e1, e2, zlet_eq, zlet_eq, zI_aI, z1_ne _ _ q3, zI_aI, z1_ne _ _ q4, d1, zI_sI, z2_row _ _ _ q5, zI_aI, z1_ne _ _ q3, zI_aI, z1_ne _ _ q4, d2]
  · refine ⟨by rw [zI_sI, z2_k _ _ _ (by decide), zI_sI, z2_at], by rw [zI_sI, z2_at], fun e he => ?_⟩
    have hce : ∀ f g : Nat → Int32, va_cpy f g 0 0 20 e = f e := fun f g => by
      unfold va_cpy
      rw [if_pos (by omega)]
      simp
    rw [zI_sI, z2_row _ _ _ q6, z2_row _ _ _ q7, zI_sI, z2_row _ _ _ q6, z2_row _ _ _ q7, zI_aI, z1_ne _ _ q8, z1_self, zI_aI, z1_self, hce, hce]
    exact d3 e he
def Vw.img (v : Vw) (ic : Nat) (il ik : Nat → Nat) (ih ir : Nat → Nat → Nat) : Vw := mkV v.tl v.tp v.ft v.fp v.on v.td v.t v.rc v.ru v.el v.eh v.er v.sd ic il ik ih ir
theorem KC.img {h h1 : Zh} {v : Vw} {u tr ra : Nat} (ok : VOK v) (on : v.on = true) (c : KC h v u tr ra) (hic : v.ic < 3) (f : Fm [0, 66 + 3 * v.ic, 66 + 3 * v.ic + 1, 66 + 3 * v.ic + 2] h h1) (gj : ∀ j, j ≠ 7 → zI h1 0 j = zI h 0 j) (h7 : zI h1 0 7 = iI ((v.ic + 1 : Nat) : Int)) (dv : DV h1 (66 + 3 * v.ic) v.el v.sd v.eh v.er) : KC h1 (v.img (v.ic + 1) (fun k => if k = v.ic then v.el else v.il k) (fun k => if k = v.ic then v.sd else v.ik k) (fun k => if k = v.ic then v.eh else v.ih k) (fun k => if k = v.ic then v.er else v.ir k)) u tr ra ∧ Fc (CFr tr ra) h h1 := by
  obtain ⟨a1, a2, a3, a4, a5, a6, a7, a8, a9, a10, a11, a12, a13, CR, OW, se, sp, b1, b2, b3, b4, b5, b6, b7, b8, b9⟩ := c
  have hN := a1.1
  have htd := ok.2.1
  have mA : ∀ i, i ∈ [0, 66 + 3 * v.ic, 66 + 3 * v.ic + 1, 66 + 3 * v.ic + 2] → i = 0 ∨ i = 66 + 3 * v.ic ∨ i = 66 + 3 * v.ic + 1 ∨ i = 66 + 3 * v.ic + 2 := by
    intro i hi
    simp only [List.mem_cons, List.not_mem_nil, or_false] at hi
    exact hi
  have nA : ∀ i, ¬ (i = 0 ∨ i = 66 + 3 * v.ic ∨ i = 66 + 3 * v.ic + 1 ∨ i = 66 + 3 * v.ic + 2) → i ∉ [0, 66 + 3 * v.ic, 66 + 3 * v.ic + 1, 66 + 3 * v.ic + 2] := fun i hi m => hi (mA i m)
  have e : ∀ i, ¬ (i = 0 ∨ i = 66 + 3 * v.ic ∨ i = 66 + 3 * v.ic + 1 ∨ i = 66 + 3 * v.ic + 2) → zI h1 i = zI h i := fun i hi => f.I (nA i hi)
  refine ⟨⟨a1.fm f, by rw [gj 1 (by decide)]; exact a2, by rw [e 1 (by omega)]; exact a3, by rw [gj 9 (by decide)]; exact a4, by rw [gj 10 (by decide)]; exact a5, by rw [f.R]; exact a6, by rw [f.R]; exact a7, h7, a9.fc f.c (by omega) (nA _ (by omega)) (nA _ (by omega)) (nA _ (by omega)), fun k hk => ?_, by rw [f.N]; exact a11, by rw [f.N]; exact a12, fun i hi => by rw [e _ (by omega)]; exact a13 i hi, CR, OW, se, sp, b1, b2, b3, by rw [f.N]; exact b4, ?_, b6.fc f.c hN (nA _ (by omega)) (nA _ (by omega)), b7.fc f.c hN (nA _ (by omega)) (nA _ (by omega)), fun q => ?_, fun q => ?_⟩, f.c.mono (fun i _ hi => by have := mA i hi; unfold CFr; omega)⟩
  · have hk' : k < v.ic + 1 := hk
    show DV h1 (66 + 3 * k) (if k = v.ic then v.el else v.il k) (if k = v.ic then v.sd else v.ik k) (if k = v.ic then v.eh else v.ih k) (if k = v.ic then v.er else v.ir k)
    by_cases q : k = v.ic
    · rw [if_pos q, if_pos q, if_pos q, if_pos q, q]; exact dv
    · rw [if_neg q, if_neg q, if_neg q, if_neg q]
      exact (a10 k (by omega)).fc f.c (by omega) (nA _ (by omega)) (nA _ (by omega)) (nA _ (by omega))
  · unfold Pot at b5 ⊢
    rw [f.S, f.L]
    exact b5
  · have q' : v.on = false := q
    rw [on] at q'; cases q'
  · obtain ⟨rdy, lg⟩ := b9 on
    exact ⟨rdy, lg.fc2 (a1.fm f) f.c (fun i hi => by have := mA i hi; omega)⟩
/-- the model's copy of evenings -/
theorem image_34 {g h0 : Zh} {el ic : Nat} {eh er : Nat → Nat} (sg : St g) (s0 : St h0) (hel : el ≤ 20) (hic : ic < 3) (h43 : zI h0 76 43 = iI el) (h44 : zI h0 76 44 = iI ic) (he : ∀ e, e < el → zI h0 94 e = iI (eh e) ∧ zI h0 95 e = iI (er e)) : ∃ h', lp (fun q : Int32 × Zh => bX12_image_34 g 76 q.1 q.2) zB (iI 0, h0) = some (1, (iI el, h')) ∧ Fm [96, 97] h0 h' ∧ (∀ e, e < el → zI h' 96 (20 * ic + e) = iI (eh e) ∧ zI h' 97 (20 * ic + e) = iI (er e)) ∧ ∀ j, j < 20 * ic → zI h' 96 j = zI h0 96 j ∧ zI h' 97 j = zI h0 97 j := by
  have := lp_cnt (body := fun q : Int32 × Zh => bX12_image_34 g 76 q.1 q.2) el (fun x z => ∃ h, z = ((iI (x : Int), h) : Int32 × Zh) ∧ Fm [96, 97] h0 h ∧ (∀ e, e < x → zI h 96 (20 * ic + e) = iI (eh e) ∧ zI h 97 (20 * ic + e) = iI (er e)) ∧ ∀ j, j < 20 * ic → zI h 96 j = zI h0 96 j ∧ zI h 97 j = zI h0 97 j) (fun e z => e = 1 ∧ z.1 = iI el ∧ Fm [96, 97] h0 z.2 ∧ (∀ e, e < el → zI z.2 96 (20 * ic + e) = iI (eh e) ∧ zI z.2 97 (20 * ic + e) = iI (er e)) ∧ ∀ j, j < 20 * ic → zI z.2 96 j = zI h0 96 j ∧ zI z.2 97 j = zI h0 97 j) ?_ ?_ (by omega) (s := (iI 0, h0)) ⟨h0, rfl, Fm.rf, fun e he => by omega, fun j hj => ⟨rfl, rfl⟩⟩
  · obtain ⟨e, z, l1, l2, l3, l4, l5, l6⟩ := this
    obtain ⟨z1, z2⟩ := z
    have e0 : e = 0 := by omega
    subst e0
    have l3' : z1 = iI el := l3
    rw [l3'] at l1
    exact ⟨z2, l1, l4, l5, l6⟩
  · intro x z hx ⟨h, ez, fm, k1, k2⟩
    subst ez
    have s1 := s0.fm fm
    have i43 : zI h 76 43 = iI el := by rw [fm.I (by decide)]; exact h43
    have i44 : zI h 76 44 = iI ic := by rw [fm.I (by decide)]; exact h44
    have v1 : zI h 94 x = iI (eh x) := by rw [fm.I (by decide)]; exact (he x hx).1
    have v2 : zI h 95 x = iI (er x) := by rw [fm.I (by decide)]; exact (he x hx).2
    have ee : 20 * (ic : Int) + x = ((20 * ic + x : Nat) : Int) := by omega
    have hlt : 20 * ic + x < 60 := by omega
    refine Or.inl ⟨(iI ((x + 1 : Nat) : Int), zsI (zsI h 96 (20 * ic + x) (iI (eh x))) 97 (20 * ic + x) (iI (er x))), ?_, _, rfl, (fm.tr (Fm_sI _ _ _ (by simp))).tr (Fm_sI _ _ _ (by simp)), fun e he' => ?_, fun j hj => ?_⟩
    · show bX12_image_34 g 76 (iI x) h = _
      unfold bX12_image_34
      simp (maxSteps := 1000000) (disch := (first | assumption | exact ne_b rfl | omega)) only [↓reduceIte, ↓zlet_eq, ↓bdR_sI, ↓bdR_sJ, ↓bdR_aI, zc2_some, Option.bind_some, ↓si_m1, ↓si_m2, ↓si_m3, iI_lit, iI_add, iI_sub, iI_mul, leT, leF, ltT, ltF, eqT, eqF, zinT, clI, Int.toNat_natCast, Int.reduceToNat, tN1, tNa, tN0, tNm, if_pos, if_neg, zI_sI, zI_sJ, zI_sR, zJ_sI, zJ_sJ, zJ_sR, zR_sI, zR_sJ, zR_sR, zK_sI, zK_sJ, zK_sR, zL_sI, zL_sJ, zL_sR, zI_aI, zJ_aI, zR_aI, zK_aI, zL_aI, z2_at, z2_a, z2_k, z1_self, z1_ne, true_and, and_true, bIt, bIf, Bool.false_eq_true, Bool.true_eq_false, eq_self, not_true_eq_false, not_false_eq_true, sK76, sK77, sK78, sK79, sK80, sK81, sK82, sK83, sK84, sK85, sK86, sK87, sK88, sK89, sK90, sK91, sK92, sK93, sK94, sK95, sK96, sK97, sK98, sK99, sK100, sL77, sL78, sL79, sL80, sL81, sL82, sL83, sL84, sL85, sL86, sL87, sL88, sL89, sL90, sL91, sL92, sL93, sL94, sL95, sL96, sL97, sL98, sL99, sL100, sR76_5, sR76_16, sR76_18, sR76_19, sR76_20, sR76_21, sR76_23, sR76_25, sR76_26, sR76_27, sR76_28, sR76_29, sR76_30, sR76_31, sR76_32, sR76_33, sR76_34, sR76_37, sR76_38, sR76_39, sR76_40, sR76_41, sR76_42, ↓sB76_5, ↓sB76_16, ↓sB76_18, ↓sB76_19, ↓sB76_20, ↓sB76_21, ↓sB76_23, ↓sB76_25, ↓sB76_26, ↓sB76_27, ↓sB76_28, ↓sB76_29, ↓sB76_30, ↓sB76_31, ↓sB76_32, ↓sB76_33, ↓sB76_34, ↓sB76_37, ↓sB76_38, ↓sB76_39, ↓sB76_40, ↓sB76_41, ↓sB76_42, i43, i44, v1, v2, ee]
      all_goals rfl
    · rw [zI_sI, z2_row _ _ _ (by decide), zI_sI]
      by_cases q : e = x
      · rw [q, z2_at, z2_at]; exact ⟨rfl, rfl⟩
      · rw [z2_k _ _ _ (by omega), z2_k _ _ _ (by omega), z2_row _ _ _ (by decide)]
        exact k1 e (by omega)
    · rw [zI_sI, z2_row _ _ _ (by decide), zI_sI, z2_k _ _ _ (by omega), z2_k _ _ _ (by omega), z2_row _ _ _ (by decide)]
      exact k2 j hj
  · intro z ⟨h, ez, fm, k1, k2⟩
    subst ez
    have s1 := s0.fm fm
    have i43 : zI h 76 43 = iI el := by rw [fm.I (by decide)]; exact h43
    refine ⟨0, (iI el, h), ?_, rfl, rfl, fm, k1, k2⟩
    show bX12_image_34 g 76 (iI el) h = _
    unfold bX12_image_34
    simp (maxSteps := 1000000) (disch := (first | assumption | exact ne_b rfl | omega)) only [↓reduceIte, ↓zlet_eq, ↓bdR_sI, ↓bdR_sJ, ↓bdR_aI, zc2_some, Option.bind_some, ↓si_m1, ↓si_m2, ↓si_m3, iI_lit, iI_add, iI_sub, iI_mul, leT, leF, ltT, ltF, eqT, eqF, zinT, clI, Int.toNat_natCast, Int.reduceToNat, tN1, tNa, tN0, tNm, if_pos, if_neg, zI_sI, zI_sJ, zI_sR, zJ_sI, zJ_sJ, zJ_sR, zR_sI, zR_sJ, zR_sR, zK_sI, zK_sJ, zK_sR, zL_sI, zL_sJ, zL_sR, zI_aI, zJ_aI, zR_aI, zK_aI, zL_aI, z2_at, z2_a, z2_k, z1_self, z1_ne, true_and, and_true, bIt, bIf, Bool.false_eq_true, Bool.true_eq_false, eq_self, not_true_eq_false, not_false_eq_true, sK76, sK77, sK78, sK79, sK80, sK81, sK82, sK83, sK84, sK85, sK86, sK87, sK88, sK89, sK90, sK91, sK92, sK93, sK94, sK95, sK96, sK97, sK98, sK99, sK100, sL77, sL78, sL79, sL80, sL81, sL82, sL83, sL84, sL85, sL86, sL87, sL88, sL89, sL90, sL91, sL92, sL93, sL94, sL95, sL96, sL97, sL98, sL99, sL100, sR76_5, sR76_16, sR76_18, sR76_19, sR76_20, sR76_21, sR76_23, sR76_25, sR76_26, sR76_27, sR76_28, sR76_29, sR76_30, sR76_31, sR76_32, sR76_33, sR76_34, sR76_37, sR76_38, sR76_39, sR76_40, sR76_41, sR76_42, ↓sB76_5, ↓sB76_16, ↓sB76_18, ↓sB76_19, ↓sB76_20, ↓sB76_21, ↓sB76_23, ↓sB76_25, ↓sB76_26, ↓sB76_27, ↓sB76_28, ↓sB76_29, ↓sB76_30, ↓sB76_31, ↓sB76_32, ↓sB76_33, ↓sB76_34, ↓sB76_37, ↓sB76_38, ↓sB76_39, ↓sB76_40, ↓sB76_41, ↓sB76_42, i43]
theorem KM.img {h h2 : Zh} {v : Vw} {tr ra : Nat} (ok : VOK v) (on : v.on = true) (m : KM h v tr ra) (f : Fm [76, 96, 97, 98, 99] h h2) (gj : ∀ j, j ≠ 0 → j ≠ 44 → zI h2 76 j = zI h 76 j) (h44 : zI h2 76 44 = iI ((v.ic + 1 : Nat) : Int)) (h98 : zI h2 98 v.ic = iI v.el ∧ ∀ k, k ≠ v.ic → zI h2 98 k = zI h 98 k) (h99 : zI h2 99 v.ic = iI v.sd ∧ ∀ k, k ≠ v.ic → zI h2 99 k = zI h 99 k) (h96 : ∀ e, e < v.el → zI h2 96 (20 * v.ic + e) = iI (v.eh e) ∧ zI h2 97 (20 * v.ic + e) = iI (v.er e)) (h97 : ∀ j, j < 20 * v.ic → zI h2 96 j = zI h 96 j ∧ zI h2 97 j = zI h 97 j) : KM h2 (v.img (v.ic + 1) (fun k => if k = v.ic then v.el else v.il k) (fun k => if k = v.ic then v.sd else v.ik k) (fun k => if k = v.ic then v.eh else v.ih k) (fun k => if k = v.ic then v.er else v.ir k)) tr ra := by
  obtain ⟨a1, a2, a3, a4, a5, a6⟩ := m
  obtain ⟨b1, b2, b3, b4, b5, b6⟩ := a6 on
  obtain ⟨c1, c2, c3, c4, c5, c6, c7, c8, c9⟩ := b1
  have htr := c1.2.1
  have ntr : tr ∉ [76, 96, 97, 98, 99] := by simp; omega
  have nra : ra ∉ [76, 96, 97, 98, 99] := by simp; omega
  refine ⟨a1.fm f, by rw [gj 6 (by decide) (by decide)]; exact a2, by rw [f.I (by decide)]; exact a3, by rw [gj 13 (by decide) (by decide)]; exact a4, fun q => ?_, fun _ => ⟨⟨c1.fm2 f (gj 17 (by decide) (by decide)) (gj 24 (by decide) (by decide)) (by simp), by rw [f.R]; exact c2, c3, by rw [f.K]; exact c4, by rw [f.L]; exact c5, by rw [f.I ntr]; exact c6, c7, by rw [f.I nra]; exact c8, ?_⟩, by rw [gj 43 (by decide) (by decide)]; exact b2, by rw [gj 45 (by decide) (by decide)]; exact b3, h44, by rw [f.I (by decide), f.I (by decide)]; exact b5, fun k hk => ?_⟩⟩
  · have q' : v.on = false := q
    rw [on] at q'; cases q'
  · unfold KT at c9 ⊢
    rw [gj 35 (by decide) (by decide), gj 36 (by decide) (by decide), f.I (by decide)]
    exact c9
  · have hk' : k < v.ic + 1 := hk
    show zI h2 98 k = iI ((if k = v.ic then v.el else v.il k : Nat) : Int) ∧ zI h2 99 k = iI ((if k = v.ic then v.sd else v.ik k : Nat) : Int) ∧ ∀ e, e < (if k = v.ic then v.el else v.il k) → zI h2 96 (20 * k + e) = iI (((if k = v.ic then v.eh else v.ih k) e : Nat) : Int) ∧ zI h2 97 (20 * k + e) = iI (((if k = v.ic then v.er else v.ir k) e : Nat) : Int)
    by_cases q : k = v.ic
    · rw [if_pos q, if_pos q, if_pos q, if_pos q, q]; exact ⟨h98.1, h99.1, h96⟩
    · rw [if_neg q, if_neg q, if_neg q, if_neg q, h98.2 k q, h99.2 k q]
      obtain ⟨w1, w2, w3⟩ := b6 k (by omega)
      have hil := ((ok.2.2.2.2.2.2 on).2.2.2.2 k (by omega)).1
      refine ⟨w1, w2, fun e he => ?_⟩
      obtain ⟨x1, x2⟩ := h97 (20 * k + e) (by omega)
      rw [x1, x2]
      exact w3 e he
theorem op_image {h : Zh} {u : Nat} (inv : Inv h u) (hu : u ≤ 59000) : OpR (fX10_image 0) (fX12_image 76) h u := by
  obtain ⟨v, tb, tr, ra, ok, c, m, -⟩ := inv
  have s := c.1
  by_cases on : v.on = true
  · obtain ⟨g1, -, -, -⟩ := c.g
    obtain ⟨t1, t2, t3, t4, t5, t6, t7, -⟩ := tdS s ok.2.1
    have r3 := c.2.2.2.2.2.1
    have g1' : zI h v.td 0 = iI 1 := by rw [g1, on]; rfl
    have tok := (ok.2.2.2.2.2.2 on).1
    obtain ⟨CR, OW, se, sp, rdy, lg, b1, b2, b3, b4, b5⟩ := c.lg on
    have dk := lg.2.2.1.2.2.1
    have hic3 := ok.2.2.2.2.1
    have hel := ok.2.2.1
    have h7 := c.2.2.2.2.2.2.2.1
    obtain ⟨-, -, -, t4', -, -, -, t8, t9, t10, t11, t12, t13, t14⟩ := tdS s ok.2.1
    by_cases p : v.ic = 3
    · have r1 := refuse_c s 3
      rw [p] at h7
      refine OpR.mk (r := iI (-1)) (k := 3) ok ok c m (by decide) (COp.ref c ?_) (MOp.ref (fun hm mm => ?_))
      · unfold fX10_image
        simp (maxSteps := 1000000) (disch := (first | assumption | exact ne_b rfl | omega)) only [↓reduceIte, ↓zlet_eq, ↓bdR_sI, ↓bdR_sJ, ↓bdR_aI, zc2_some, Option.bind_some, ↓si_m1, ↓si_m2, ↓si_m3, iI_lit, iI_add, iI_sub, iI_mul, leT, leF, ltT, ltF, eqT, eqF, zinT, clI, Int.toNat_natCast, Int.reduceToNat, tN1, tNa, tN0, tNm, if_pos, if_neg, zI_sI, zI_sJ, zI_sR, zJ_sI, zJ_sJ, zJ_sR, zR_sI, zR_sJ, zR_sR, zK_sI, zK_sJ, zK_sR, zL_sI, zL_sJ, zL_sR, zI_aI, zJ_aI, zR_aI, zK_aI, zL_aI, z2_at, z2_a, z2_k, z1_self, z1_ne, true_and, and_true, bIt, bIf, Bool.false_eq_true, Bool.true_eq_false, eq_self, not_true_eq_false, not_false_eq_true, sK0, sK1, sK2, sK3, sK4, sK5, sK6, sK7, sK8, sK9, sK10, sK11, sK12, sK13, sK14, sK15, sK16, sK17, sK18, sK19, sK20, sK21, sK22, sK23, sK24, sK25, sK26, sK27, sK28, sK29, sK30, sK31, sK32, sK33, sK34, sK35, sK36, sK37, sK38, sK39, sK40, sK41, sK42, sK43, sK44, sK45, sK46, sK47, sK48, sK49, sK50, sK51, sK52, sK53, sK54, sK55, sK56, sK57, sK58, sK59, sK60, sK61, sK62, sK63, sK64, sK65, sK66, sK67, sK68, sK69, sK70, sK71, sK72, sK73, sK74, sK75, sL1, sL3, sL6, sL8, sL9, sL10, sL11, sL12, sL15, sL17, sL18, sL21, sL23, sL24, sL26, sL29, sL31, sL32, sL34, sL36, sL37, sL39, sL40, sL41, sL43, sL45, sL46, sL47, sL48, sL49, sL50, sL51, sL52, sL53, sL55, sL57, sL59, sL61, sL62, sL63, sL64, sL65, sL67, sL68, sL70, sL71, sL73, sL74, sL75, sR0_0, sR0_2, sR0_5, sR0_6, sR0_11, sR2_5, sR2_6, sR2_7, sR4_1, sR4_2, sR4_4, sR7_0, sR7_1, sR13_1, sR13_2, sR13_4, sR16_0, sR16_1, sR19_1, sR19_2, sR19_4, sR22_0, sR22_1, sR25_0, sR25_2, sR25_3, sR25_4, sR25_5, sR25_6, sR25_7, sR25_8, sR25_10, sR27_1, sR27_2, sR27_4, sR30_0, sR30_1, sR33_0, sR35_0, sR35_1, sR38_0, sR38_1, sR38_2, sR42_0, sR42_5, sR42_7, sR42_11, sR42_12, sR42_13, sR53_0, sR53_1, sR53_2, sR53_3, sR54_1, sR56_1, sR58_1, sR60_1, sR65_0, sR65_1, sR65_2, sR66_0, sR66_1, sR69_0, sR69_1, sR72_0, sR72_1, ↓sB0_0, ↓sB0_2, ↓sB0_5, ↓sB0_6, ↓sB0_11, ↓sB2_5, ↓sB2_6, ↓sB2_7, ↓sB4_1, ↓sB4_2, ↓sB4_4, ↓sB7_0, ↓sB7_1, ↓sB13_1, ↓sB13_2, ↓sB13_4, ↓sB16_0, ↓sB16_1, ↓sB19_1, ↓sB19_2, ↓sB19_4, ↓sB22_0, ↓sB22_1, ↓sB25_0, ↓sB25_2, ↓sB25_3, ↓sB25_4, ↓sB25_5, ↓sB25_6, ↓sB25_7, ↓sB25_8, ↓sB25_10, ↓sB27_1, ↓sB27_2, ↓sB27_4, ↓sB30_0, ↓sB30_1, ↓sB33_0, ↓sB35_0, ↓sB35_1, ↓sB38_0, ↓sB38_1, ↓sB38_2, ↓sB42_0, ↓sB42_5, ↓sB42_7, ↓sB42_11, ↓sB42_12, ↓sB42_13, ↓sB53_0, ↓sB53_1, ↓sB53_2, ↓sB53_3, ↓sB54_1, ↓sB56_1, ↓sB58_1, ↓sB60_1, ↓sB65_0, ↓sB65_1, ↓sB65_2, ↓sB66_0, ↓sB66_1, ↓sB69_0, ↓sB69_1, ↓sB72_0, ↓sB72_1, ↓bd_of r3, t1, g1', h7, ↓zc_of r1]
        all_goals rfl
      · have m0 := mm.s76 (j := 0) (x := iI 0) (by decide)
        have sm := mm.1
        have q3 := mm.tr3
        rw [on, if_pos rfl] at q3
        have ris : (zR hm 76 3).isSome = true := by rw [q3]; rfl
        have h44 := (mm.2.2.2.2.2 on).2.2.2.1
        rw [p] at h44
        have g2 := refused_m m0.1 3
        unfold fX12_image
        simp (maxSteps := 1000000) (disch := (first | assumption | exact ne_b rfl | omega)) only [↓reduceIte, ↓zlet_eq, ↓bdR_sI, ↓bdR_sJ, ↓bdR_aI, zc2_some, Option.bind_some, ↓si_m1, ↓si_m2, ↓si_m3, iI_lit, iI_add, iI_sub, iI_mul, leT, leF, ltT, ltF, eqT, eqF, zinT, clI, Int.toNat_natCast, Int.reduceToNat, tN1, tNa, tN0, tNm, if_pos, if_neg, zI_sI, zI_sJ, zI_sR, zJ_sI, zJ_sJ, zJ_sR, zR_sI, zR_sJ, zR_sR, zK_sI, zK_sJ, zK_sR, zL_sI, zL_sJ, zL_sR, zI_aI, zJ_aI, zR_aI, zK_aI, zL_aI, z2_at, z2_a, z2_k, z1_self, z1_ne, true_and, and_true, bIt, bIf, Bool.false_eq_true, Bool.true_eq_false, eq_self, not_true_eq_false, not_false_eq_true, sK76, sK77, sK78, sK79, sK80, sK81, sK82, sK83, sK84, sK85, sK86, sK87, sK88, sK89, sK90, sK91, sK92, sK93, sK94, sK95, sK96, sK97, sK98, sK99, sK100, sL77, sL78, sL79, sL80, sL81, sL82, sL83, sL84, sL85, sL86, sL87, sL88, sL89, sL90, sL91, sL92, sL93, sL94, sL95, sL96, sL97, sL98, sL99, sL100, sR76_5, sR76_16, sR76_18, sR76_19, sR76_20, sR76_21, sR76_23, sR76_25, sR76_26, sR76_27, sR76_28, sR76_29, sR76_30, sR76_31, sR76_32, sR76_33, sR76_34, sR76_37, sR76_38, sR76_39, sR76_40, sR76_41, sR76_42, ↓sB76_5, ↓sB76_16, ↓sB76_18, ↓sB76_19, ↓sB76_20, ↓sB76_21, ↓sB76_23, ↓sB76_25, ↓sB76_26, ↓sB76_27, ↓sB76_28, ↓sB76_29, ↓sB76_30, ↓sB76_31, ↓sB76_32, ↓sB76_33, ↓sB76_34, ↓sB76_37, ↓sB76_38, ↓sB76_39, ↓sB76_40, ↓sB76_41, ↓sB76_42, ris, h44, ↓zc_of g2]
        all_goals rfl
    · have hic : v.ic < 3 := by omega
      have htd := ok.2.1
      obtain ⟨i1, i2, i3, i4, i5, i6, i7, i8⟩ := imS s hic
      obtain ⟨h1, y1, y2, y3⟩ := become_eq (r0 := 66 + 3 * v.ic) (r1 := v.td + 3) i2 i3 i4 i5 i6 i7 i8 t8 t9 t10 t11 t12 t13 t14 (by omega) c.2.2.2.2.2.2.2.2.1 hel
      have s1 := s.fm y2
      have n0 : (0 : Nat) ∉ [66 + 3 * v.ic, 66 + 3 * v.ic + 1, 66 + 3 * v.ic + 2] := by simp; omega
      have h71 : zI h1 0 7 = iI v.ic := by rw [y2.I n0]; exact h7
      have f0 : Fm [0, 66 + 3 * v.ic, 66 + 3 * v.ic + 1, 66 + 3 * v.ic + 2] h (zsI h1 0 7 (iI ((v.ic + 1 : Nat) : Int))) := (y2.mono (by simp)).tr (Fm_sI _ _ _ (by simp))
      have fz : Fm [0] h1 (zsI h1 0 7 (iI ((v.ic + 1 : Nat) : Int))) := Fm_sI _ _ _ (by simp)
      obtain ⟨c2, f2⟩ := c.img ok on hic f0 (fun j hj => by rw [zI_sI, z2_k _ _ _ hj, y2.I n0]) (by rw [zI_sI, z2_at]) (by unfold DV; rw [fz.I (by simp), fz.I (by simp), fz.I (by simp)]; exact y3)
      have s2 := c2.1
      have a1 := answer_c s2 (iI (v.ic : Int))
      have ee : (v.ic : Int) + 1 = ((v.ic + 1 : Nat) : Int) := by omega
      have ee2 : ((v.ic + 1 : Nat) : Int) - 1 = (v.ic : Int) := by omega
      have ok' : VOK (v.img (v.ic + 1) (fun k => if k = v.ic then v.el else v.il k) (fun k => if k = v.ic then v.sd else v.ik k) (fun k => if k = v.ic then v.eh else v.ih k) (fun k => if k = v.ic then v.er else v.ir k)) := by
        obtain ⟨o1, o2, o3, o4, o5, o6, o7⟩ := ok
        obtain ⟨x1, x2, x3, x4, x5⟩ := o7 on
        refine ⟨o1, o2, o3, o4, (by show v.ic + 1 ≤ 3; omega), fun q => ?_, fun _ => ⟨x1, x2, x3, x4, fun k hk => ?_⟩⟩
        · have q' : v.on = false := q
          rw [on] at q'; cases q'
        · have hk' : k < v.ic + 1 := hk
          show (if k = v.ic then v.el else v.il k) ≤ 20 ∧ (if k = v.ic then v.sd else v.ik k) ≤ 65536 ∧ ∀ e, e < (if k = v.ic then v.el else v.il k) → (if k = v.ic then v.eh else v.ih k) e < tH v.t ∧ (if k = v.ic then v.er else v.ir k) e < tR v.t
          by_cases q : k = v.ic
          · rw [if_pos q, if_pos q, if_pos q, if_pos q]; exact ⟨o3, o4, x4⟩
          · rw [if_neg q, if_neg q, if_neg q, if_neg q]; exact x5 k (by omega)
      refine OpR.mk (r := iI (v.ic : Int)) (k := 0) ok ok' c m (by decide) ⟨_, ?_, c2.mono (by omega), f2⟩ ?_
      · unfold fX10_image
        simp (maxSteps := 1000000) (disch := (first | assumption | exact ne_b rfl | omega)) only [↓reduceIte, ↓zlet_eq, ↓bdR_sI, ↓bdR_sJ, ↓bdR_aI, zc2_some, Option.bind_some, ↓si_m1, ↓si_m2, ↓si_m3, iI_lit, iI_add, iI_sub, iI_mul, leT, leF, ltT, ltF, eqT, eqF, zinT, clI, Int.toNat_natCast, Int.reduceToNat, tN1, tNa, tN0, tNm, if_pos, if_neg, zI_sI, zI_sJ, zI_sR, zJ_sI, zJ_sJ, zJ_sR, zR_sI, zR_sJ, zR_sR, zK_sI, zK_sJ, zK_sR, zL_sI, zL_sJ, zL_sR, zI_aI, zJ_aI, zR_aI, zK_aI, zL_aI, z2_at, z2_a, z2_k, z1_self, z1_ne, true_and, and_true, bIt, bIf, Bool.false_eq_true, Bool.true_eq_false, eq_self, not_true_eq_false, not_false_eq_true, sK0, sK1, sK2, sK3, sK4, sK5, sK6, sK7, sK8, sK9, sK10, sK11, sK12, sK13, sK14, sK15, sK16, sK17, sK18, sK19, sK20, sK21, sK22, sK23, sK24, sK25, sK26, sK27, sK28, sK29, sK30, sK31, sK32, sK33, sK34, sK35, sK36, sK37, sK38, sK39, sK40, sK41, sK42, sK43, sK44, sK45, sK46, sK47, sK48, sK49, sK50, sK51, sK52, sK53, sK54, sK55, sK56, sK57, sK58, sK59, sK60, sK61, sK62, sK63, sK64, sK65, sK66, sK67, sK68, sK69, sK70, sK71, sK72, sK73, sK74, sK75, sL1, sL3, sL6, sL8, sL9, sL10, sL11, sL12, sL15, sL17, sL18, sL21, sL23, sL24, sL26, sL29, sL31, sL32, sL34, sL36, sL37, sL39, sL40, sL41, sL43, sL45, sL46, sL47, sL48, sL49, sL50, sL51, sL52, sL53, sL55, sL57, sL59, sL61, sL62, sL63, sL64, sL65, sL67, sL68, sL70, sL71, sL73, sL74, sL75, sR0_0, sR0_2, sR0_5, sR0_6, sR0_11, sR2_5, sR2_6, sR2_7, sR4_1, sR4_2, sR4_4, sR7_0, sR7_1, sR13_1, sR13_2, sR13_4, sR16_0, sR16_1, sR19_1, sR19_2, sR19_4, sR22_0, sR22_1, sR25_0, sR25_2, sR25_3, sR25_4, sR25_5, sR25_6, sR25_7, sR25_8, sR25_10, sR27_1, sR27_2, sR27_4, sR30_0, sR30_1, sR33_0, sR35_0, sR35_1, sR38_0, sR38_1, sR38_2, sR42_0, sR42_5, sR42_7, sR42_11, sR42_12, sR42_13, sR53_0, sR53_1, sR53_2, sR53_3, sR54_1, sR56_1, sR58_1, sR60_1, sR65_0, sR65_1, sR65_2, sR66_0, sR66_1, sR69_0, sR69_1, sR72_0, sR72_1, ↓sB0_0, ↓sB0_2, ↓sB0_5, ↓sB0_6, ↓sB0_11, ↓sB2_5, ↓sB2_6, ↓sB2_7, ↓sB4_1, ↓sB4_2, ↓sB4_4, ↓sB7_0, ↓sB7_1, ↓sB13_1, ↓sB13_2, ↓sB13_4, ↓sB16_0, ↓sB16_1, ↓sB19_1, ↓sB19_2, ↓sB19_4, ↓sB22_0, ↓sB22_1, ↓sB25_0, ↓sB25_2, ↓sB25_3, ↓sB25_4, ↓sB25_5, ↓sB25_6, ↓sB25_7, ↓sB25_8, ↓sB25_10, ↓sB27_1, ↓sB27_2, ↓sB27_4, ↓sB30_0, ↓sB30_1, ↓sB33_0, ↓sB35_0, ↓sB35_1, ↓sB38_0, ↓sB38_1, ↓sB38_2, ↓sB42_0, ↓sB42_5, ↓sB42_7, ↓sB42_11, ↓sB42_12, ↓sB42_13, ↓sB53_0, ↓sB53_1, ↓sB53_2, ↓sB53_3, ↓sB54_1, ↓sB56_1, ↓sB58_1, ↓sB60_1, ↓sB65_0, ↓sB65_1, ↓sB65_2, ↓sB66_0, ↓sB66_1, ↓sB69_0, ↓sB69_1, ↓sB72_0, ↓sB72_1, ↓bd_of r3, t1, g1', h7, ↓bd_of i1, ↓bd_of t4', i2, ↓bd_of y1, h71, ee, ee2, ↓zc_of a1]
        all_goals rfl
      · intro hm mm
        have m0 := mm.s76 (j := 0) (x := iI 0) (by decide)
        have sm := mm.1
        have q3 := mm.tr3
        rw [on, if_pos rfl] at q3
        have ris : (zR hm 76 3).isSome = true := by rw [q3]; rfl
        have md0 := (m0.2.2.2.2.2 on).1
        have mx0 := md0.1
        have s0 := m0.1
        have h43 := (m0.2.2.2.2.2 on).2.1
        have h44 := (m0.2.2.2.2.2 on).2.2.2.1
        have h45 := (m0.2.2.2.2.2 on).2.2.1
        have he := (m0.2.2.2.2.2 on).2.2.2.2.1
        have h44m : zI hm 76 44 = iI v.ic := (mm.2.2.2.2.2 on).2.2.2.1
        have hne3 : ¬ (v.ic : Int) = 3 := by omega
        obtain ⟨h3, x1, x2, x3, x4⟩ := image_34 (g := hm) sm s0 hel hic h43 h44 he
        have s3 := s0.fm x2
        have j43 : zI h3 76 43 = iI v.el := by rw [x2.I (by decide)]; exact h43
        have j44 : zI h3 76 44 = iI v.ic := by rw [x2.I (by decide)]; exact h44
        have j45 : zI h3 76 45 = iI v.sd := by rw [x2.I (by decide)]; exact h45
        have fz : Fm [76, 96, 97, 98, 99] (zsI hm 76 0 (iI 0)) (zsI (zsI (zsI h3 98 v.ic (iI v.el)) 99 v.ic (iI v.sd)) 76 44 (iI ((v.ic + 1 : Nat) : Int))) := (((x2.mono (by simp)).tr (Fm_sI _ _ _ (by simp))).tr (Fm_sI _ _ _ (by simp))).tr (Fm_sI _ _ _ (by simp))
        have m3 := m0.img ok on fz (fun j _ h4 => by rw [zI_sI, z2_k _ _ _ h4, zI_sI, z2_row _ _ _ (by decide), zI_sI, z2_row _ _ _ (by decide), x2.I (by decide)]) (by rw [zI_sI, z2_at]) ⟨by rw [zI_sI, z2_row _ _ _ (by decide), zI_sI, z2_row _ _ _ (by decide), zI_sI, z2_at], fun k hk => by rw [zI_sI, z2_row _ _ _ (by decide), zI_sI, z2_row _ _ _ (by decide), zI_sI, z2_k _ _ _ hk, x2.I (by decide)]⟩ ⟨by rw [zI_sI, z2_row _ _ _ (by decide), zI_sI, z2_at], fun k hk => by rw [zI_sI, z2_row _ _ _ (by decide), zI_sI, z2_k _ _ _ hk, zI_sI, z2_row _ _ _ (by decide), x2.I (by decide)]⟩ (fun e h => by rw [zI_sI, z2_row _ _ _ (by decide), z2_row _ _ _ (by decide), zI_sI, z2_row _ _ _ (by decide), z2_row _ _ _ (by decide), zI_sI, z2_row _ _ _ (by decide), z2_row _ _ _ (by decide)]; exact x3 e h) (fun j hj => by rw [zI_sI, z2_row _ _ _ (by decide), z2_row _ _ _ (by decide), zI_sI, z2_row _ _ _ (by decide), z2_row _ _ _ (by decide), zI_sI, z2_row _ _ _ (by decide), z2_row _ _ _ (by decide)]; exact x4 j hj)
        have g2 := good_m m3.1 (iI (v.ic : Int))
        have hk : kX12_image_34 hm 76 1 (iI v.el) h3 = some (iI (v.ic : Int), zsI (zsI (zsI (zsI (zsI h3 98 v.ic (iI v.el)) 99 v.ic (iI v.sd)) 76 44 (iI ((v.ic + 1 : Nat) : Int))) 76 1 (iI 0)) 76 2 (iI (-1))) := by
          clear m3 fz x3 x4 he
          unfold kX12_image_34
          simp (maxSteps := 1000000) (disch := (first | assumption | exact ne_b rfl | omega)) only [↓reduceIte, ↓zlet_eq, ↓bdR_sI, ↓bdR_sJ, ↓bdR_aI, zc2_some, Option.bind_some, ↓si_m1, ↓si_m2, ↓si_m3, iI_lit, iI_add, iI_sub, iI_mul, leT, leF, ltT, ltF, eqT, eqF, zinT, clI, Int.toNat_natCast, Int.reduceToNat, tN1, tNa, tN0, tNm, if_pos, if_neg, zI_sI, zI_sJ, zI_sR, zJ_sI, zJ_sJ, zJ_sR, zR_sI, zR_sJ, zR_sR, zK_sI, zK_sJ, zK_sR, zL_sI, zL_sJ, zL_sR, zI_aI, zJ_aI, zR_aI, zK_aI, zL_aI, z2_at, z2_a, z2_k, z1_self, z1_ne, true_and, and_true, bIt, bIf, Bool.false_eq_true, Bool.true_eq_false, eq_self, not_true_eq_false, not_false_eq_true, sK76, sK77, sK78, sK79, sK80, sK81, sK82, sK83, sK84, sK85, sK86, sK87, sK88, sK89, sK90, sK91, sK92, sK93, sK94, sK95, sK96, sK97, sK98, sK99, sK100, sL77, sL78, sL79, sL80, sL81, sL82, sL83, sL84, sL85, sL86, sL87, sL88, sL89, sL90, sL91, sL92, sL93, sL94, sL95, sL96, sL97, sL98, sL99, sL100, sR76_5, sR76_16, sR76_18, sR76_19, sR76_20, sR76_21, sR76_23, sR76_25, sR76_26, sR76_27, sR76_28, sR76_29, sR76_30, sR76_31, sR76_32, sR76_33, sR76_34, sR76_37, sR76_38, sR76_39, sR76_40, sR76_41, sR76_42, ↓sB76_5, ↓sB76_16, ↓sB76_18, ↓sB76_19, ↓sB76_20, ↓sB76_21, ↓sB76_23, ↓sB76_25, ↓sB76_26, ↓sB76_27, ↓sB76_28, ↓sB76_29, ↓sB76_30, ↓sB76_31, ↓sB76_32, ↓sB76_33, ↓sB76_34, ↓sB76_37, ↓sB76_38, ↓sB76_39, ↓sB76_40, ↓sB76_41, ↓sB76_42, j43, j44, j45, ee, ee2, ↓zc_of g2]
        refine ⟨_, ?_, m3, (MFz.sI _ _).tr (MFz.of fz (by simp))⟩
        unfold fX12_image
        simp (maxSteps := 1000000) (disch := (first | assumption | exact ne_b rfl | omega)) only [↓reduceIte, ↓zlet_eq, ↓bdR_sI, ↓bdR_sJ, ↓bdR_aI, zc2_some, Option.bind_some, ↓si_m1, ↓si_m2, ↓si_m3, iI_lit, iI_add, iI_sub, iI_mul, leT, leF, ltT, ltF, eqT, eqF, zinT, clI, Int.toNat_natCast, Int.reduceToNat, tN1, tNa, tN0, tNm, if_pos, if_neg, zI_sI, zI_sJ, zI_sR, zJ_sI, zJ_sJ, zJ_sR, zR_sI, zR_sJ, zR_sR, zK_sI, zK_sJ, zK_sR, zL_sI, zL_sJ, zL_sR, zI_aI, zJ_aI, zR_aI, zK_aI, zL_aI, z2_at, z2_a, z2_k, z1_self, z1_ne, true_and, and_true, bIt, bIf, Bool.false_eq_true, Bool.true_eq_false, eq_self, not_true_eq_false, not_false_eq_true, sK76, sK77, sK78, sK79, sK80, sK81, sK82, sK83, sK84, sK85, sK86, sK87, sK88, sK89, sK90, sK91, sK92, sK93, sK94, sK95, sK96, sK97, sK98, sK99, sK100, sL77, sL78, sL79, sL80, sL81, sL82, sL83, sL84, sL85, sL86, sL87, sL88, sL89, sL90, sL91, sL92, sL93, sL94, sL95, sL96, sL97, sL98, sL99, sL100, sR76_5, sR76_16, sR76_18, sR76_19, sR76_20, sR76_21, sR76_23, sR76_25, sR76_26, sR76_27, sR76_28, sR76_29, sR76_30, sR76_31, sR76_32, sR76_33, sR76_34, sR76_37, sR76_38, sR76_39, sR76_40, sR76_41, sR76_42, ↓sB76_5, ↓sB76_16, ↓sB76_18, ↓sB76_19, ↓sB76_20, ↓sB76_21, ↓sB76_23, ↓sB76_25, ↓sB76_26, ↓sB76_27, ↓sB76_28, ↓sB76_29, ↓sB76_30, ↓sB76_31, ↓sB76_32, ↓sB76_33, ↓sB76_34, ↓sB76_37, ↓sB76_38, ↓sB76_39, ↓sB76_40, ↓sB76_41, ↓sB76_42, ris, h44m, ↓bd_of x1, hk]
        all_goals rfl
  · obtain ⟨g1, -, -, -⟩ := c.g
    obtain ⟨t1, t2, t3, t4, t5, t6, t7, -⟩ := tdS s ok.2.1
    have r3 := c.2.2.2.2.2.1
    have on' : v.on = false := Bool.eq_false_iff.mpr on
    rw [on'] at g1
    have g1' : zI h v.td 0 = iI 0 := g1
    have r1 := refuse_c s 1
    refine OpR.mk (r := iI (-1)) (k := 1) ok ok c m (by decide) (COp.ref c ?_) (MOp.ref (fun hm mm => ?_))
    · unfold fX10_image
      simp (maxSteps := 1000000) (disch := (first | assumption | exact ne_b rfl | omega)) only [↓reduceIte, ↓zlet_eq, ↓bdR_sI, ↓bdR_sJ, ↓bdR_aI, zc2_some, Option.bind_some, ↓si_m1, ↓si_m2, ↓si_m3, iI_lit, iI_add, iI_sub, iI_mul, leT, leF, ltT, ltF, eqT, eqF, zinT, clI, Int.toNat_natCast, Int.reduceToNat, tN1, tNa, tN0, tNm, if_pos, if_neg, zI_sI, zI_sJ, zI_sR, zJ_sI, zJ_sJ, zJ_sR, zR_sI, zR_sJ, zR_sR, zK_sI, zK_sJ, zK_sR, zL_sI, zL_sJ, zL_sR, zI_aI, zJ_aI, zR_aI, zK_aI, zL_aI, z2_at, z2_a, z2_k, z1_self, z1_ne, true_and, and_true, bIt, bIf, Bool.false_eq_true, Bool.true_eq_false, eq_self, not_true_eq_false, not_false_eq_true, sK0, sK1, sK2, sK3, sK4, sK5, sK6, sK7, sK8, sK9, sK10, sK11, sK12, sK13, sK14, sK15, sK16, sK17, sK18, sK19, sK20, sK21, sK22, sK23, sK24, sK25, sK26, sK27, sK28, sK29, sK30, sK31, sK32, sK33, sK34, sK35, sK36, sK37, sK38, sK39, sK40, sK41, sK42, sK43, sK44, sK45, sK46, sK47, sK48, sK49, sK50, sK51, sK52, sK53, sK54, sK55, sK56, sK57, sK58, sK59, sK60, sK61, sK62, sK63, sK64, sK65, sK66, sK67, sK68, sK69, sK70, sK71, sK72, sK73, sK74, sK75, sL1, sL3, sL6, sL8, sL9, sL10, sL11, sL12, sL15, sL17, sL18, sL21, sL23, sL24, sL26, sL29, sL31, sL32, sL34, sL36, sL37, sL39, sL40, sL41, sL43, sL45, sL46, sL47, sL48, sL49, sL50, sL51, sL52, sL53, sL55, sL57, sL59, sL61, sL62, sL63, sL64, sL65, sL67, sL68, sL70, sL71, sL73, sL74, sL75, sR0_0, sR0_2, sR0_5, sR0_6, sR0_11, sR2_5, sR2_6, sR2_7, sR4_1, sR4_2, sR4_4, sR7_0, sR7_1, sR13_1, sR13_2, sR13_4, sR16_0, sR16_1, sR19_1, sR19_2, sR19_4, sR22_0, sR22_1, sR25_0, sR25_2, sR25_3, sR25_4, sR25_5, sR25_6, sR25_7, sR25_8, sR25_10, sR27_1, sR27_2, sR27_4, sR30_0, sR30_1, sR33_0, sR35_0, sR35_1, sR38_0, sR38_1, sR38_2, sR42_0, sR42_5, sR42_7, sR42_11, sR42_12, sR42_13, sR53_0, sR53_1, sR53_2, sR53_3, sR54_1, sR56_1, sR58_1, sR60_1, sR65_0, sR65_1, sR65_2, sR66_0, sR66_1, sR69_0, sR69_1, sR72_0, sR72_1, ↓sB0_0, ↓sB0_2, ↓sB0_5, ↓sB0_6, ↓sB0_11, ↓sB2_5, ↓sB2_6, ↓sB2_7, ↓sB4_1, ↓sB4_2, ↓sB4_4, ↓sB7_0, ↓sB7_1, ↓sB13_1, ↓sB13_2, ↓sB13_4, ↓sB16_0, ↓sB16_1, ↓sB19_1, ↓sB19_2, ↓sB19_4, ↓sB22_0, ↓sB22_1, ↓sB25_0, ↓sB25_2, ↓sB25_3, ↓sB25_4, ↓sB25_5, ↓sB25_6, ↓sB25_7, ↓sB25_8, ↓sB25_10, ↓sB27_1, ↓sB27_2, ↓sB27_4, ↓sB30_0, ↓sB30_1, ↓sB33_0, ↓sB35_0, ↓sB35_1, ↓sB38_0, ↓sB38_1, ↓sB38_2, ↓sB42_0, ↓sB42_5, ↓sB42_7, ↓sB42_11, ↓sB42_12, ↓sB42_13, ↓sB53_0, ↓sB53_1, ↓sB53_2, ↓sB53_3, ↓sB54_1, ↓sB56_1, ↓sB58_1, ↓sB60_1, ↓sB65_0, ↓sB65_1, ↓sB65_2, ↓sB66_0, ↓sB66_1, ↓sB69_0, ↓sB69_1, ↓sB72_0, ↓sB72_1, ↓bd_of r3, t1, g1', ↓zc_of r1]
      all_goals rfl
    · have m0 := mm.s76 (j := 0) (x := iI 0) (by decide)
      have sm := mm.1
      have q3 := mm.tr3
      rw [on', if_neg (by decide)] at q3
      have ris : (zR hm 76 3).isSome = false := by rw [q3]; rfl
      have g2 := refused_m m0.1 1
      unfold fX12_image
      simp (maxSteps := 1000000) (disch := (first | assumption | exact ne_b rfl | omega)) only [↓reduceIte, ↓zlet_eq, ↓bdR_sI, ↓bdR_sJ, ↓bdR_aI, zc2_some, Option.bind_some, ↓si_m1, ↓si_m2, ↓si_m3, iI_lit, iI_add, iI_sub, iI_mul, leT, leF, ltT, ltF, eqT, eqF, zinT, clI, Int.toNat_natCast, Int.reduceToNat, tN1, tNa, tN0, tNm, if_pos, if_neg, zI_sI, zI_sJ, zI_sR, zJ_sI, zJ_sJ, zJ_sR, zR_sI, zR_sJ, zR_sR, zK_sI, zK_sJ, zK_sR, zL_sI, zL_sJ, zL_sR, zI_aI, zJ_aI, zR_aI, zK_aI, zL_aI, z2_at, z2_a, z2_k, z1_self, z1_ne, true_and, and_true, bIt, bIf, Bool.false_eq_true, Bool.true_eq_false, eq_self, not_true_eq_false, not_false_eq_true, sK76, sK77, sK78, sK79, sK80, sK81, sK82, sK83, sK84, sK85, sK86, sK87, sK88, sK89, sK90, sK91, sK92, sK93, sK94, sK95, sK96, sK97, sK98, sK99, sK100, sL77, sL78, sL79, sL80, sL81, sL82, sL83, sL84, sL85, sL86, sL87, sL88, sL89, sL90, sL91, sL92, sL93, sL94, sL95, sL96, sL97, sL98, sL99, sL100, sR76_5, sR76_16, sR76_18, sR76_19, sR76_20, sR76_21, sR76_23, sR76_25, sR76_26, sR76_27, sR76_28, sR76_29, sR76_30, sR76_31, sR76_32, sR76_33, sR76_34, sR76_37, sR76_38, sR76_39, sR76_40, sR76_41, sR76_42, ↓sB76_5, ↓sB76_16, ↓sB76_18, ↓sB76_19, ↓sB76_20, ↓sB76_21, ↓sB76_23, ↓sB76_25, ↓sB76_26, ↓sB76_27, ↓sB76_28, ↓sB76_29, ↓sB76_30, ↓sB76_31, ↓sB76_32, ↓sB76_33, ↓sB76_34, ↓sB76_37, ↓sB76_38, ↓sB76_39, ↓sB76_40, ↓sB76_41, ↓sB76_42, ris, ↓zc_of g2]
      all_goals rfl
theorem back_52 {g h0 : Zh} {l k : Nat} {eh er : Nat → Nat} (sg : St g) (s0 : St h0) (hl : l ≤ 20) (hk : k < 3) (h43 : zI h0 76 43 = iI l) (he : ∀ e, e < l → zI h0 96 (20 * k + e) = iI (eh e) ∧ zI h0 97 (20 * k + e) = iI (er e)) : ∃ h', lp (fun q : Int32 × Zh => bX12_back_52 g 76 (iI k) q.1 q.2) zB (iI 0, h0) = some (1, (iI l, h')) ∧ Fm [94, 95] h0 h' ∧ ∀ e, e < l → zI h' 94 e = iI (eh e) ∧ zI h' 95 e = iI (er e) := by
  have := lp_cnt (body := fun q : Int32 × Zh => bX12_back_52 g 76 (iI k) q.1 q.2) l (fun x z => ∃ h, z = ((iI (x : Int), h) : Int32 × Zh) ∧ Fm [94, 95] h0 h ∧ ∀ e, e < x → zI h 94 e = iI (eh e) ∧ zI h 95 e = iI (er e)) (fun e z => e = 1 ∧ z.1 = iI l ∧ Fm [94, 95] h0 z.2 ∧ ∀ e, e < l → zI z.2 94 e = iI (eh e) ∧ zI z.2 95 e = iI (er e)) ?_ ?_ (by omega) (s := (iI 0, h0)) ⟨h0, rfl, Fm.rf, fun e he => by omega⟩
  · obtain ⟨e, z, l1, l2, l3, l4, l5⟩ := this
    obtain ⟨z1, z2⟩ := z
    have e0 : e = 0 := by omega
    subst e0
    have l3' : z1 = iI l := l3
    rw [l3'] at l1
    exact ⟨z2, l1, l4, l5⟩
  · intro x z hx ⟨h, ez, fm, k1⟩
    subst ez
    have s1 := s0.fm fm
    have i43 : zI h 76 43 = iI l := by rw [fm.I (by decide)]; exact h43
    have v1 : zI h 96 (20 * k + x) = iI (eh x) := by rw [fm.I (by decide)]; exact (he x hx).1
    have v2 : zI h 97 (20 * k + x) = iI (er x) := by rw [fm.I (by decide)]; exact (he x hx).2
    have ee : 20 * (k : Int) + x = ((20 * k + x : Nat) : Int) := by omega
    have hlt : 20 * k + x < 60 := by omega
    refine Or.inl ⟨(iI ((x + 1 : Nat) : Int), zsI (zsI h 94 x (iI (eh x))) 95 x (iI (er x))), ?_, _, rfl, (fm.tr (Fm_sI _ _ _ (by simp))).tr (Fm_sI _ _ _ (by simp)), fun e he' => ?_⟩
    · show bX12_back_52 g 76 (iI k) (iI x) h = _
      unfold bX12_back_52
      simp (maxSteps := 1000000) (disch := (first | assumption | exact ne_b rfl | omega)) only [↓reduceIte, ↓zlet_eq, ↓bdR_sI, ↓bdR_sJ, ↓bdR_aI, zc2_some, Option.bind_some, ↓si_m1, ↓si_m2, ↓si_m3, iI_lit, iI_add, iI_sub, iI_mul, leT, leF, ltT, ltF, eqT, eqF, zinT, clI, Int.toNat_natCast, Int.reduceToNat, tN1, tNa, tN0, tNm, if_pos, if_neg, zI_sI, zI_sJ, zI_sR, zJ_sI, zJ_sJ, zJ_sR, zR_sI, zR_sJ, zR_sR, zK_sI, zK_sJ, zK_sR, zL_sI, zL_sJ, zL_sR, zI_aI, zJ_aI, zR_aI, zK_aI, zL_aI, z2_at, z2_a, z2_k, z1_self, z1_ne, true_and, and_true, bIt, bIf, Bool.false_eq_true, Bool.true_eq_false, eq_self, not_true_eq_false, not_false_eq_true, sK76, sK77, sK78, sK79, sK80, sK81, sK82, sK83, sK84, sK85, sK86, sK87, sK88, sK89, sK90, sK91, sK92, sK93, sK94, sK95, sK96, sK97, sK98, sK99, sK100, sL77, sL78, sL79, sL80, sL81, sL82, sL83, sL84, sL85, sL86, sL87, sL88, sL89, sL90, sL91, sL92, sL93, sL94, sL95, sL96, sL97, sL98, sL99, sL100, sR76_5, sR76_16, sR76_18, sR76_19, sR76_20, sR76_21, sR76_23, sR76_25, sR76_26, sR76_27, sR76_28, sR76_29, sR76_30, sR76_31, sR76_32, sR76_33, sR76_34, sR76_37, sR76_38, sR76_39, sR76_40, sR76_41, sR76_42, ↓sB76_5, ↓sB76_16, ↓sB76_18, ↓sB76_19, ↓sB76_20, ↓sB76_21, ↓sB76_23, ↓sB76_25, ↓sB76_26, ↓sB76_27, ↓sB76_28, ↓sB76_29, ↓sB76_30, ↓sB76_31, ↓sB76_32, ↓sB76_33, ↓sB76_34, ↓sB76_37, ↓sB76_38, ↓sB76_39, ↓sB76_40, ↓sB76_41, ↓sB76_42, i43, v1, v2, ee]
      all_goals rfl
    · rw [zI_sI, z2_row _ _ _ (by decide), zI_sI]
      by_cases q : e = x
      · rw [q, z2_at, z2_at]; exact ⟨rfl, rfl⟩
      · rw [z2_k _ _ _ q, z2_k _ _ _ q, z2_row _ _ _ (by decide)]
        exact k1 e (by omega)
  · intro z ⟨h, ez, fm, k1⟩
    subst ez
    have s1 := s0.fm fm
    have i43 : zI h 76 43 = iI l := by rw [fm.I (by decide)]; exact h43
    refine ⟨0, (iI l, h), ?_, rfl, rfl, fm, k1⟩
    show bX12_back_52 g 76 (iI k) (iI l) h = _
    unfold bX12_back_52
    simp (maxSteps := 1000000) (disch := (first | assumption | exact ne_b rfl | omega)) only [↓reduceIte, ↓zlet_eq, ↓bdR_sI, ↓bdR_sJ, ↓bdR_aI, zc2_some, Option.bind_some, ↓si_m1, ↓si_m2, ↓si_m3, iI_lit, iI_add, iI_sub, iI_mul, leT, leF, ltT, ltF, eqT, eqF, zinT, clI, Int.toNat_natCast, Int.reduceToNat, tN1, tNa, tN0, tNm, if_pos, if_neg, zI_sI, zI_sJ, zI_sR, zJ_sI, zJ_sJ, zJ_sR, zR_sI, zR_sJ, zR_sR, zK_sI, zK_sJ, zK_sR, zL_sI, zL_sJ, zL_sR, zI_aI, zJ_aI, zR_aI, zK_aI, zL_aI, z2_at, z2_a, z2_k, z1_self, z1_ne, true_and, and_true, bIt, bIf, Bool.false_eq_true, Bool.true_eq_false, eq_self, not_true_eq_false, not_false_eq_true, sK76, sK77, sK78, sK79, sK80, sK81, sK82, sK83, sK84, sK85, sK86, sK87, sK88, sK89, sK90, sK91, sK92, sK93, sK94, sK95, sK96, sK97, sK98, sK99, sK100, sL77, sL78, sL79, sL80, sL81, sL82, sL83, sL84, sL85, sL86, sL87, sL88, sL89, sL90, sL91, sL92, sL93, sL94, sL95, sL96, sL97, sL98, sL99, sL100, sR76_5, sR76_16, sR76_18, sR76_19, sR76_20, sR76_21, sR76_23, sR76_25, sR76_26, sR76_27, sR76_28, sR76_29, sR76_30, sR76_31, sR76_32, sR76_33, sR76_34, sR76_37, sR76_38, sR76_39, sR76_40, sR76_41, sR76_42, ↓sB76_5, ↓sB76_16, ↓sB76_18, ↓sB76_19, ↓sB76_20, ↓sB76_21, ↓sB76_23, ↓sB76_25, ↓sB76_26, ↓sB76_27, ↓sB76_28, ↓sB76_29, ↓sB76_30, ↓sB76_31, ↓sB76_32, ↓sB76_33, ↓sB76_34, ↓sB76_37, ↓sB76_38, ↓sB76_39, ↓sB76_40, ↓sB76_41, ↓sB76_42, i43]
theorem op_back {h : Zh} {u : Nat} {x : Int} (inv : Inv h u) (hu : u ≤ 59000) (hx : iR x) : OpR (fX10_back 0 (iI x)) (fX12_back 76 (iI x)) h u := by
  obtain ⟨v, tb, tr, ra, ok, c, m, -⟩ := inv
  have s := c.1
  have hx1 := hx.1
  have hx2 := hx.2
  have hic3 := ok.2.2.2.2.1
  have htd := ok.2.1
  obtain ⟨t1, t2, t3, t4, t5, t6, t7, t8, t9, t10, t11, t12, t13, t14⟩ := tdS s ok.2.1
  have r3 := c.2.2.2.2.2.1
  have h7 := c.2.2.2.2.2.2.2.1
  by_cases p : 0 ≤ x ∧ x < v.ic
  · obtain ⟨k, ek, hk⟩ : ∃ k : Nat, x = k ∧ k < v.ic := ⟨x.toNat, by omega, by omega⟩
    have on : v.on = true := by
      cases e : v.on
      · have := (ok.2.2.2.2.2.1 e).2.2; omega
      · rfl
    obtain ⟨w1, w2, w3⟩ := (ok.2.2.2.2.2.2 on).2.2.2.2 k hk
    obtain ⟨i1, i2, i3, i4, i5, i6, i7, i8⟩ := imS s (show k < 3 by omega)
    obtain ⟨h1, y1, y2, y3⟩ := become_eq (r0 := v.td + 3) (r1 := 66 + 3 * k) t8 t9 t10 t11 t12 t13 t14 i2 i3 i4 i5 i6 i7 i8 (by omega) (c.2.2.2.2.2.2.2.2.2.1 k hk) w1
    have ok' : VOK (v.dia (v.il k) (v.ik k) (v.ih k) (v.ir k)) := ok.dia on w1 w2 w3
    obtain ⟨c1, f1⟩ := c.dia ok on y2 y3
    have s1 := c1.1
    have a1 := grant_c s1
    refine OpR.mk (r := iI 1) (k := 0) ok ok' c m (by decide) ⟨_, ?_, c1.mono (by omega), f1⟩ ?_
    · unfold fX10_back
      rw [ek] at p ⊢
      simp (maxSteps := 1000000) (disch := (first | assumption | exact ne_b rfl | omega)) only [↓reduceIte, ↓zlet_eq, ↓bdR_sI, ↓bdR_sJ, ↓bdR_aI, zc2_some, Option.bind_some, ↓si_m1, ↓si_m2, ↓si_m3, iI_lit, iI_add, iI_sub, iI_mul, leT, leF, ltT, ltF, eqT, eqF, zinT, clI, Int.toNat_natCast, Int.reduceToNat, tN1, tNa, tN0, tNm, if_pos, if_neg, zI_sI, zI_sJ, zI_sR, zJ_sI, zJ_sJ, zJ_sR, zR_sI, zR_sJ, zR_sR, zK_sI, zK_sJ, zK_sR, zL_sI, zL_sJ, zL_sR, zI_aI, zJ_aI, zR_aI, zK_aI, zL_aI, z2_at, z2_a, z2_k, z1_self, z1_ne, true_and, and_true, bIt, bIf, Bool.false_eq_true, Bool.true_eq_false, eq_self, not_true_eq_false, not_false_eq_true, sK0, sK1, sK2, sK3, sK4, sK5, sK6, sK7, sK8, sK9, sK10, sK11, sK12, sK13, sK14, sK15, sK16, sK17, sK18, sK19, sK20, sK21, sK22, sK23, sK24, sK25, sK26, sK27, sK28, sK29, sK30, sK31, sK32, sK33, sK34, sK35, sK36, sK37, sK38, sK39, sK40, sK41, sK42, sK43, sK44, sK45, sK46, sK47, sK48, sK49, sK50, sK51, sK52, sK53, sK54, sK55, sK56, sK57, sK58, sK59, sK60, sK61, sK62, sK63, sK64, sK65, sK66, sK67, sK68, sK69, sK70, sK71, sK72, sK73, sK74, sK75, sL1, sL3, sL6, sL8, sL9, sL10, sL11, sL12, sL15, sL17, sL18, sL21, sL23, sL24, sL26, sL29, sL31, sL32, sL34, sL36, sL37, sL39, sL40, sL41, sL43, sL45, sL46, sL47, sL48, sL49, sL50, sL51, sL52, sL53, sL55, sL57, sL59, sL61, sL62, sL63, sL64, sL65, sL67, sL68, sL70, sL71, sL73, sL74, sL75, sR0_0, sR0_2, sR0_5, sR0_6, sR0_11, sR2_5, sR2_6, sR2_7, sR4_1, sR4_2, sR4_4, sR7_0, sR7_1, sR13_1, sR13_2, sR13_4, sR16_0, sR16_1, sR19_1, sR19_2, sR19_4, sR22_0, sR22_1, sR25_0, sR25_2, sR25_3, sR25_4, sR25_5, sR25_6, sR25_7, sR25_8, sR25_10, sR27_1, sR27_2, sR27_4, sR30_0, sR30_1, sR33_0, sR35_0, sR35_1, sR38_0, sR38_1, sR38_2, sR42_0, sR42_5, sR42_7, sR42_11, sR42_12, sR42_13, sR53_0, sR53_1, sR53_2, sR53_3, sR54_1, sR56_1, sR58_1, sR60_1, sR65_0, sR65_1, sR65_2, sR66_0, sR66_1, sR69_0, sR69_1, sR72_0, sR72_1, ↓sB0_0, ↓sB0_2, ↓sB0_5, ↓sB0_6, ↓sB0_11, ↓sB2_5, ↓sB2_6, ↓sB2_7, ↓sB4_1, ↓sB4_2, ↓sB4_4, ↓sB7_0, ↓sB7_1, ↓sB13_1, ↓sB13_2, ↓sB13_4, ↓sB16_0, ↓sB16_1, ↓sB19_1, ↓sB19_2, ↓sB19_4, ↓sB22_0, ↓sB22_1, ↓sB25_0, ↓sB25_2, ↓sB25_3, ↓sB25_4, ↓sB25_5, ↓sB25_6, ↓sB25_7, ↓sB25_8, ↓sB25_10, ↓sB27_1, ↓sB27_2, ↓sB27_4, ↓sB30_0, ↓sB30_1, ↓sB33_0, ↓sB35_0, ↓sB35_1, ↓sB38_0, ↓sB38_1, ↓sB38_2, ↓sB42_0, ↓sB42_5, ↓sB42_7, ↓sB42_11, ↓sB42_12, ↓sB42_13, ↓sB53_0, ↓sB53_1, ↓sB53_2, ↓sB53_3, ↓sB54_1, ↓sB56_1, ↓sB58_1, ↓sB60_1, ↓sB65_0, ↓sB65_1, ↓sB65_2, ↓sB66_0, ↓sB66_1, ↓sB69_0, ↓sB69_1, ↓sB72_0, ↓sB72_1, h7, ↓bd_of r3, t1, ↓bd_of t4, ↓bd_of i1, t8, ↓bd_of y1, ↓zc_of a1]
      all_goals rfl
    · intro hm mm
      have m0 := mm.s76 (j := 0) (x := iI 0) (by decide)
      have sm := mm.1
      have q3 := mm.tr3
      rw [on, if_pos rfl] at q3
      have ris : (zR hm 76 3).isSome = true := by rw [q3]; rfl
      have md0 := (m0.2.2.2.2.2 on).1
      have mx0 := md0.1
      have s0 := m0.1
      have h44m : zI hm 76 44 = iI v.ic := (mm.2.2.2.2.2 on).2.2.2.1
      obtain ⟨j98, j99, j96⟩ := (mm.2.2.2.2.2 on).2.2.2.2.2 k hk
      have f4 : Fm [76, 94, 95] hm (zsI (zsI (zsI hm 76 0 (iI 0)) 76 43 (iI (v.il k))) 76 45 (iI (v.ik k))) := ((Fm_sI _ _ _ (by simp)).tr (Fm_sI _ _ _ (by simp))).tr (Fm_sI _ _ _ (by simp))
      have s4 := sm.fm f4
      have f4' : Fm [76] hm (zsI (zsI (zsI hm 76 0 (iI 0)) 76 43 (iI (v.il k))) 76 45 (iI (v.ik k))) := ((Fm_sI _ _ _ (by simp)).tr (Fm_sI _ _ _ (by simp))).tr (Fm_sI _ _ _ (by simp))
      obtain ⟨h5, x1, x2, x3⟩ := back_52 (g := hm) (l := v.il k) (k := k) (eh := v.ih k) (er := v.ir k) sm s4 w1 (by omega) (by rw [zI_sI, z2_k _ _ _ (by decide), zI_sI, z2_at]) (fun e he => by rw [f4'.I (by decide), f4'.I (by decide)]; exact j96 e he)
      have fz : Fm [76, 94, 95] hm h5 := f4.tr (x2.mono (by simp))
      have m5 := mm.dia on fz (el := v.il k) (sd := v.ik k) (eh := v.ih k) (er := v.ir k) (fun j j0 j43 j45 => by rw [x2.I (by decide), zI_sI, z2_k _ _ _ j45, zI_sI, z2_k _ _ _ j43, zI_sI, z2_k _ _ _ j0]) (by rw [x2.I (by decide), zI_sI, z2_k _ _ _ (by decide), zI_sI, z2_at]) (by rw [x2.I (by decide), zI_sI, z2_at]) x3
      have g2 := granted_m m5.1
      refine ⟨_, ?_, m5, MFz.of fz (by simp)⟩
      unfold fX12_back
      rw [ek] at p ⊢
      simp (maxSteps := 1000000) (disch := (first | assumption | exact ne_b rfl | omega)) only [↓reduceIte, ↓zlet_eq, ↓bdR_sI, ↓bdR_sJ, ↓bdR_aI, zc2_some, Option.bind_some, ↓si_m1, ↓si_m2, ↓si_m3, iI_lit, iI_add, iI_sub, iI_mul, leT, leF, ltT, ltF, eqT, eqF, zinT, clI, Int.toNat_natCast, Int.reduceToNat, tN1, tNa, tN0, tNm, if_pos, if_neg, zI_sI, zI_sJ, zI_sR, zJ_sI, zJ_sJ, zJ_sR, zR_sI, zR_sJ, zR_sR, zK_sI, zK_sJ, zK_sR, zL_sI, zL_sJ, zL_sR, zI_aI, zJ_aI, zR_aI, zK_aI, zL_aI, z2_at, z2_a, z2_k, z1_self, z1_ne, true_and, and_true, bIt, bIf, Bool.false_eq_true, Bool.true_eq_false, eq_self, not_true_eq_false, not_false_eq_true, sK76, sK77, sK78, sK79, sK80, sK81, sK82, sK83, sK84, sK85, sK86, sK87, sK88, sK89, sK90, sK91, sK92, sK93, sK94, sK95, sK96, sK97, sK98, sK99, sK100, sL77, sL78, sL79, sL80, sL81, sL82, sL83, sL84, sL85, sL86, sL87, sL88, sL89, sL90, sL91, sL92, sL93, sL94, sL95, sL96, sL97, sL98, sL99, sL100, sR76_5, sR76_16, sR76_18, sR76_19, sR76_20, sR76_21, sR76_23, sR76_25, sR76_26, sR76_27, sR76_28, sR76_29, sR76_30, sR76_31, sR76_32, sR76_33, sR76_34, sR76_37, sR76_38, sR76_39, sR76_40, sR76_41, sR76_42, ↓sB76_5, ↓sB76_16, ↓sB76_18, ↓sB76_19, ↓sB76_20, ↓sB76_21, ↓sB76_23, ↓sB76_25, ↓sB76_26, ↓sB76_27, ↓sB76_28, ↓sB76_29, ↓sB76_30, ↓sB76_31, ↓sB76_32, ↓sB76_33, ↓sB76_34, ↓sB76_37, ↓sB76_38, ↓sB76_39, ↓sB76_40, ↓sB76_41, ↓sB76_42, ris, h44m, j98, j99, ↓bd_of x1, kX12_back_52, ↓zc_of g2]
      all_goals rfl
  · have r1 := deny_c s 1
    refine OpR.mk (r := iI 0) (k := 1) ok ok c m (by decide) (COp.ref c ?_) (MOp.ref (fun hm mm => ?_))
    · unfold fX10_back
      by_cases p2 : x < 0
      · simp (maxSteps := 1000000) (disch := (first | assumption | exact ne_b rfl | omega)) only [↓reduceIte, ↓zlet_eq, ↓bdR_sI, ↓bdR_sJ, ↓bdR_aI, zc2_some, Option.bind_some, ↓si_m1, ↓si_m2, ↓si_m3, iI_lit, iI_add, iI_sub, iI_mul, leT, leF, ltT, ltF, eqT, eqF, zinT, clI, Int.toNat_natCast, Int.reduceToNat, tN1, tNa, tN0, tNm, if_pos, if_neg, zI_sI, zI_sJ, zI_sR, zJ_sI, zJ_sJ, zJ_sR, zR_sI, zR_sJ, zR_sR, zK_sI, zK_sJ, zK_sR, zL_sI, zL_sJ, zL_sR, zI_aI, zJ_aI, zR_aI, zK_aI, zL_aI, z2_at, z2_a, z2_k, z1_self, z1_ne, true_and, and_true, bIt, bIf, Bool.false_eq_true, Bool.true_eq_false, eq_self, not_true_eq_false, not_false_eq_true, sK0, sK1, sK2, sK3, sK4, sK5, sK6, sK7, sK8, sK9, sK10, sK11, sK12, sK13, sK14, sK15, sK16, sK17, sK18, sK19, sK20, sK21, sK22, sK23, sK24, sK25, sK26, sK27, sK28, sK29, sK30, sK31, sK32, sK33, sK34, sK35, sK36, sK37, sK38, sK39, sK40, sK41, sK42, sK43, sK44, sK45, sK46, sK47, sK48, sK49, sK50, sK51, sK52, sK53, sK54, sK55, sK56, sK57, sK58, sK59, sK60, sK61, sK62, sK63, sK64, sK65, sK66, sK67, sK68, sK69, sK70, sK71, sK72, sK73, sK74, sK75, sL1, sL3, sL6, sL8, sL9, sL10, sL11, sL12, sL15, sL17, sL18, sL21, sL23, sL24, sL26, sL29, sL31, sL32, sL34, sL36, sL37, sL39, sL40, sL41, sL43, sL45, sL46, sL47, sL48, sL49, sL50, sL51, sL52, sL53, sL55, sL57, sL59, sL61, sL62, sL63, sL64, sL65, sL67, sL68, sL70, sL71, sL73, sL74, sL75, sR0_0, sR0_2, sR0_5, sR0_6, sR0_11, sR2_5, sR2_6, sR2_7, sR4_1, sR4_2, sR4_4, sR7_0, sR7_1, sR13_1, sR13_2, sR13_4, sR16_0, sR16_1, sR19_1, sR19_2, sR19_4, sR22_0, sR22_1, sR25_0, sR25_2, sR25_3, sR25_4, sR25_5, sR25_6, sR25_7, sR25_8, sR25_10, sR27_1, sR27_2, sR27_4, sR30_0, sR30_1, sR33_0, sR35_0, sR35_1, sR38_0, sR38_1, sR38_2, sR42_0, sR42_5, sR42_7, sR42_11, sR42_12, sR42_13, sR53_0, sR53_1, sR53_2, sR53_3, sR54_1, sR56_1, sR58_1, sR60_1, sR65_0, sR65_1, sR65_2, sR66_0, sR66_1, sR69_0, sR69_1, sR72_0, sR72_1, ↓sB0_0, ↓sB0_2, ↓sB0_5, ↓sB0_6, ↓sB0_11, ↓sB2_5, ↓sB2_6, ↓sB2_7, ↓sB4_1, ↓sB4_2, ↓sB4_4, ↓sB7_0, ↓sB7_1, ↓sB13_1, ↓sB13_2, ↓sB13_4, ↓sB16_0, ↓sB16_1, ↓sB19_1, ↓sB19_2, ↓sB19_4, ↓sB22_0, ↓sB22_1, ↓sB25_0, ↓sB25_2, ↓sB25_3, ↓sB25_4, ↓sB25_5, ↓sB25_6, ↓sB25_7, ↓sB25_8, ↓sB25_10, ↓sB27_1, ↓sB27_2, ↓sB27_4, ↓sB30_0, ↓sB30_1, ↓sB33_0, ↓sB35_0, ↓sB35_1, ↓sB38_0, ↓sB38_1, ↓sB38_2, ↓sB42_0, ↓sB42_5, ↓sB42_7, ↓sB42_11, ↓sB42_12, ↓sB42_13, ↓sB53_0, ↓sB53_1, ↓sB53_2, ↓sB53_3, ↓sB54_1, ↓sB56_1, ↓sB58_1, ↓sB60_1, ↓sB65_0, ↓sB65_1, ↓sB65_2, ↓sB66_0, ↓sB66_1, ↓sB69_0, ↓sB69_1, ↓sB72_0, ↓sB72_1, ↓zc_of r1]
        all_goals rfl
      · simp (maxSteps := 1000000) (disch := (first | assumption | exact ne_b rfl | omega)) only [↓reduceIte, ↓zlet_eq, ↓bdR_sI, ↓bdR_sJ, ↓bdR_aI, zc2_some, Option.bind_some, ↓si_m1, ↓si_m2, ↓si_m3, iI_lit, iI_add, iI_sub, iI_mul, leT, leF, ltT, ltF, eqT, eqF, zinT, clI, Int.toNat_natCast, Int.reduceToNat, tN1, tNa, tN0, tNm, if_pos, if_neg, zI_sI, zI_sJ, zI_sR, zJ_sI, zJ_sJ, zJ_sR, zR_sI, zR_sJ, zR_sR, zK_sI, zK_sJ, zK_sR, zL_sI, zL_sJ, zL_sR, zI_aI, zJ_aI, zR_aI, zK_aI, zL_aI, z2_at, z2_a, z2_k, z1_self, z1_ne, true_and, and_true, bIt, bIf, Bool.false_eq_true, Bool.true_eq_false, eq_self, not_true_eq_false, not_false_eq_true, sK0, sK1, sK2, sK3, sK4, sK5, sK6, sK7, sK8, sK9, sK10, sK11, sK12, sK13, sK14, sK15, sK16, sK17, sK18, sK19, sK20, sK21, sK22, sK23, sK24, sK25, sK26, sK27, sK28, sK29, sK30, sK31, sK32, sK33, sK34, sK35, sK36, sK37, sK38, sK39, sK40, sK41, sK42, sK43, sK44, sK45, sK46, sK47, sK48, sK49, sK50, sK51, sK52, sK53, sK54, sK55, sK56, sK57, sK58, sK59, sK60, sK61, sK62, sK63, sK64, sK65, sK66, sK67, sK68, sK69, sK70, sK71, sK72, sK73, sK74, sK75, sL1, sL3, sL6, sL8, sL9, sL10, sL11, sL12, sL15, sL17, sL18, sL21, sL23, sL24, sL26, sL29, sL31, sL32, sL34, sL36, sL37, sL39, sL40, sL41, sL43, sL45, sL46, sL47, sL48, sL49, sL50, sL51, sL52, sL53, sL55, sL57, sL59, sL61, sL62, sL63, sL64, sL65, sL67, sL68, sL70, sL71, sL73, sL74, sL75, sR0_0, sR0_2, sR0_5, sR0_6, sR0_11, sR2_5, sR2_6, sR2_7, sR4_1, sR4_2, sR4_4, sR7_0, sR7_1, sR13_1, sR13_2, sR13_4, sR16_0, sR16_1, sR19_1, sR19_2, sR19_4, sR22_0, sR22_1, sR25_0, sR25_2, sR25_3, sR25_4, sR25_5, sR25_6, sR25_7, sR25_8, sR25_10, sR27_1, sR27_2, sR27_4, sR30_0, sR30_1, sR33_0, sR35_0, sR35_1, sR38_0, sR38_1, sR38_2, sR42_0, sR42_5, sR42_7, sR42_11, sR42_12, sR42_13, sR53_0, sR53_1, sR53_2, sR53_3, sR54_1, sR56_1, sR58_1, sR60_1, sR65_0, sR65_1, sR65_2, sR66_0, sR66_1, sR69_0, sR69_1, sR72_0, sR72_1, ↓sB0_0, ↓sB0_2, ↓sB0_5, ↓sB0_6, ↓sB0_11, ↓sB2_5, ↓sB2_6, ↓sB2_7, ↓sB4_1, ↓sB4_2, ↓sB4_4, ↓sB7_0, ↓sB7_1, ↓sB13_1, ↓sB13_2, ↓sB13_4, ↓sB16_0, ↓sB16_1, ↓sB19_1, ↓sB19_2, ↓sB19_4, ↓sB22_0, ↓sB22_1, ↓sB25_0, ↓sB25_2, ↓sB25_3, ↓sB25_4, ↓sB25_5, ↓sB25_6, ↓sB25_7, ↓sB25_8, ↓sB25_10, ↓sB27_1, ↓sB27_2, ↓sB27_4, ↓sB30_0, ↓sB30_1, ↓sB33_0, ↓sB35_0, ↓sB35_1, ↓sB38_0, ↓sB38_1, ↓sB38_2, ↓sB42_0, ↓sB42_5, ↓sB42_7, ↓sB42_11, ↓sB42_12, ↓sB42_13, ↓sB53_0, ↓sB53_1, ↓sB53_2, ↓sB53_3, ↓sB54_1, ↓sB56_1, ↓sB58_1, ↓sB60_1, ↓sB65_0, ↓sB65_1, ↓sB65_2, ↓sB66_0, ↓sB66_1, ↓sB69_0, ↓sB69_1, ↓sB72_0, ↓sB72_1, h7, ↓zc_of r1]
        all_goals rfl
    · have m0 := mm.s76 (j := 0) (x := iI 0) (by decide)
      have sm := mm.1
      have q3 := mm.tr3
      have g2 := denied_m m0.1 1
      unfold fX12_back
      cases e : v.on
      · rw [e, if_neg (by decide)] at q3
        have ris : (zR hm 76 3).isSome = false := by rw [q3]; rfl
        simp (maxSteps := 1000000) (disch := (first | assumption | exact ne_b rfl | omega)) only [↓reduceIte, ↓zlet_eq, ↓bdR_sI, ↓bdR_sJ, ↓bdR_aI, zc2_some, Option.bind_some, ↓si_m1, ↓si_m2, ↓si_m3, iI_lit, iI_add, iI_sub, iI_mul, leT, leF, ltT, ltF, eqT, eqF, zinT, clI, Int.toNat_natCast, Int.reduceToNat, tN1, tNa, tN0, tNm, if_pos, if_neg, zI_sI, zI_sJ, zI_sR, zJ_sI, zJ_sJ, zJ_sR, zR_sI, zR_sJ, zR_sR, zK_sI, zK_sJ, zK_sR, zL_sI, zL_sJ, zL_sR, zI_aI, zJ_aI, zR_aI, zK_aI, zL_aI, z2_at, z2_a, z2_k, z1_self, z1_ne, true_and, and_true, bIt, bIf, Bool.false_eq_true, Bool.true_eq_false, eq_self, not_true_eq_false, not_false_eq_true, sK76, sK77, sK78, sK79, sK80, sK81, sK82, sK83, sK84, sK85, sK86, sK87, sK88, sK89, sK90, sK91, sK92, sK93, sK94, sK95, sK96, sK97, sK98, sK99, sK100, sL77, sL78, sL79, sL80, sL81, sL82, sL83, sL84, sL85, sL86, sL87, sL88, sL89, sL90, sL91, sL92, sL93, sL94, sL95, sL96, sL97, sL98, sL99, sL100, sR76_5, sR76_16, sR76_18, sR76_19, sR76_20, sR76_21, sR76_23, sR76_25, sR76_26, sR76_27, sR76_28, sR76_29, sR76_30, sR76_31, sR76_32, sR76_33, sR76_34, sR76_37, sR76_38, sR76_39, sR76_40, sR76_41, sR76_42, ↓sB76_5, ↓sB76_16, ↓sB76_18, ↓sB76_19, ↓sB76_20, ↓sB76_21, ↓sB76_23, ↓sB76_25, ↓sB76_26, ↓sB76_27, ↓sB76_28, ↓sB76_29, ↓sB76_30, ↓sB76_31, ↓sB76_32, ↓sB76_33, ↓sB76_34, ↓sB76_37, ↓sB76_38, ↓sB76_39, ↓sB76_40, ↓sB76_41, ↓sB76_42, ris, ↓zc_of g2]
        all_goals rfl
      · rw [e, if_pos rfl] at q3
        have ris : (zR hm 76 3).isSome = true := by rw [q3]; rfl
        have h44 := (mm.2.2.2.2.2 e).2.2.2.1
        by_cases p2 : x < 0
        · simp (maxSteps := 1000000) (disch := (first | assumption | exact ne_b rfl | omega)) only [↓reduceIte, ↓zlet_eq, ↓bdR_sI, ↓bdR_sJ, ↓bdR_aI, zc2_some, Option.bind_some, ↓si_m1, ↓si_m2, ↓si_m3, iI_lit, iI_add, iI_sub, iI_mul, leT, leF, ltT, ltF, eqT, eqF, zinT, clI, Int.toNat_natCast, Int.reduceToNat, tN1, tNa, tN0, tNm, if_pos, if_neg, zI_sI, zI_sJ, zI_sR, zJ_sI, zJ_sJ, zJ_sR, zR_sI, zR_sJ, zR_sR, zK_sI, zK_sJ, zK_sR, zL_sI, zL_sJ, zL_sR, zI_aI, zJ_aI, zR_aI, zK_aI, zL_aI, z2_at, z2_a, z2_k, z1_self, z1_ne, true_and, and_true, bIt, bIf, Bool.false_eq_true, Bool.true_eq_false, eq_self, not_true_eq_false, not_false_eq_true, sK76, sK77, sK78, sK79, sK80, sK81, sK82, sK83, sK84, sK85, sK86, sK87, sK88, sK89, sK90, sK91, sK92, sK93, sK94, sK95, sK96, sK97, sK98, sK99, sK100, sL77, sL78, sL79, sL80, sL81, sL82, sL83, sL84, sL85, sL86, sL87, sL88, sL89, sL90, sL91, sL92, sL93, sL94, sL95, sL96, sL97, sL98, sL99, sL100, sR76_5, sR76_16, sR76_18, sR76_19, sR76_20, sR76_21, sR76_23, sR76_25, sR76_26, sR76_27, sR76_28, sR76_29, sR76_30, sR76_31, sR76_32, sR76_33, sR76_34, sR76_37, sR76_38, sR76_39, sR76_40, sR76_41, sR76_42, ↓sB76_5, ↓sB76_16, ↓sB76_18, ↓sB76_19, ↓sB76_20, ↓sB76_21, ↓sB76_23, ↓sB76_25, ↓sB76_26, ↓sB76_27, ↓sB76_28, ↓sB76_29, ↓sB76_30, ↓sB76_31, ↓sB76_32, ↓sB76_33, ↓sB76_34, ↓sB76_37, ↓sB76_38, ↓sB76_39, ↓sB76_40, ↓sB76_41, ↓sB76_42, ris, ↓zc_of g2]
          all_goals rfl
        · simp (maxSteps := 1000000) (disch := (first | assumption | exact ne_b rfl | omega)) only [↓reduceIte, ↓zlet_eq, ↓bdR_sI, ↓bdR_sJ, ↓bdR_aI, zc2_some, Option.bind_some, ↓si_m1, ↓si_m2, ↓si_m3, iI_lit, iI_add, iI_sub, iI_mul, leT, leF, ltT, ltF, eqT, eqF, zinT, clI, Int.toNat_natCast, Int.reduceToNat, tN1, tNa, tN0, tNm, if_pos, if_neg, zI_sI, zI_sJ, zI_sR, zJ_sI, zJ_sJ, zJ_sR, zR_sI, zR_sJ, zR_sR, zK_sI, zK_sJ, zK_sR, zL_sI, zL_sJ, zL_sR, zI_aI, zJ_aI, zR_aI, zK_aI, zL_aI, z2_at, z2_a, z2_k, z1_self, z1_ne, true_and, and_true, bIt, bIf, Bool.false_eq_true, Bool.true_eq_false, eq_self, not_true_eq_false, not_false_eq_true, sK76, sK77, sK78, sK79, sK80, sK81, sK82, sK83, sK84, sK85, sK86, sK87, sK88, sK89, sK90, sK91, sK92, sK93, sK94, sK95, sK96, sK97, sK98, sK99, sK100, sL77, sL78, sL79, sL80, sL81, sL82, sL83, sL84, sL85, sL86, sL87, sL88, sL89, sL90, sL91, sL92, sL93, sL94, sL95, sL96, sL97, sL98, sL99, sL100, sR76_5, sR76_16, sR76_18, sR76_19, sR76_20, sR76_21, sR76_23, sR76_25, sR76_26, sR76_27, sR76_28, sR76_29, sR76_30, sR76_31, sR76_32, sR76_33, sR76_34, sR76_37, sR76_38, sR76_39, sR76_40, sR76_41, sR76_42, ↓sB76_5, ↓sB76_16, ↓sB76_18, ↓sB76_19, ↓sB76_20, ↓sB76_21, ↓sB76_23, ↓sB76_25, ↓sB76_26, ↓sB76_27, ↓sB76_28, ↓sB76_29, ↓sB76_30, ↓sB76_31, ↓sB76_32, ↓sB76_33, ↓sB76_34, ↓sB76_37, ↓sB76_38, ↓sB76_39, ↓sB76_40, ↓sB76_41, ↓sB76_42, ris, h44, ↓zc_of g2]
          all_goals rfl
