/-! the model's pairing: rows handed on -/
/-- the pairs as the model holds them -/
def PM (h : Zh) (t : Tk) (pr ow : Nat → Option Nat) (f : Nat → Option Int) (c ex : Nat) : Prop := (∀ y, y < tH t → y ≠ ex → zI h 88 y = iI (ro (pr y))) ∧ MO h f c ∧ ∀ r, (f r).getD (-1) = ro (ow r)
theorem PM.fm {S : List Nat} {h h' : Zh} {t : Tk} {pr ow : Nat → Option Nat} {f : Nat → Option Int} {c ex : Nat} (p : PM h t pr ow f c ex) (fm : Fm S h h') (h1 : 88 ∉ S) (h2 : 86 ∉ S) (h3 : 87 ∉ S) : PM h' t pr ow f c ex := ⟨by rw [fm.I h1]; exact p.1, p.2.1.fm fm h2 h3, p.2.2⟩
theorem getD_some {f : Nat → Option Int} {r y : Nat} {ow : Nat → Option Nat} (h : ∀ r, (f r).getD (-1) = ro (ow r)) (e : ow r = some y) : (f r).isSome = true := by
  have := h r
  rw [e] at this
  cases q : f r
  · rw [q] at this
    have h2 : (-1 : Int) = (y : Int) := this
    omega
  · rfl
theorem PM.put {h h' : Zh} {t : Tk} {pr ow : Nat → Option Nat} {f : Nat → Option Int} {c c' ex x row : Nat} (p : PM h t pr ow f c ex) (fm : Fm [86, 87] (zsI h 88 x (iI row)) h') (mo : MO h' (updO f row x) c') : PM h' t (updN pr x row) (updN ow row x) (updO f row x) c' ex := by
  refine ⟨fun y hy he => ?_, mo, fun r => ?_⟩
  · rw [fm.I (by simp), zI_sI]
    by_cases q : y = x
    · rw [q, z2_at, updN_at]; rfl
    · rw [z2_k _ _ _ q, updN_ne _ _ q]; exact p.1 y hy he
  · by_cases q : r = row
    · rw [q, updN_at]
      unfold updO
      rw [if_pos rfl]; rfl
    · rw [updN_ne _ _ q]
      unfold updO
      rw [if_neg q]; exact p.2.2 r
theorem takes_run {t : Tk} {ex st n : Nat} {F : Nat → Nat → Prop} {qu cf : Nat → Nat} {g : Zh} (sg : St g) (hH : tH t ≤ 2000) (hF : ∀ x r, x < tH t → F x r → r < 2147483648) (hq0 : qu 0 = st) (hqd : dst qu n) (hqH : ∀ j, j < n → qu j < tH t ∧ qu j ≠ ex) : ∀ (j : Nat) (pr ow : Nat → Option Nat) (f : Nat → Option Int) (row c N : Nat) (h : Zh), j < n → j + 1 < N → St h → (∀ i, 1 ≤ i → i ≤ j → ∃ k, k < i ∧ cf (qu i) = qu k ∧ ∃ r, pr (qu i) = some r ∧ F (qu k) r) → CnX (tH t) F pr ow row → F (qu j) row → PM h t pr ow f c ex → ((f row).isSome = true ∨ c + 1 < 32768) → zI h 90 st = iI (-1) → (∀ i, 1 ≤ i → i < n → zI h 90 (qu i) = iI (cf (qu i))) → ∃ b h' pr' ow' f' c', lp (fun q : Int32 × Int32 × Zh => bX12_takes_5 g 76 q.1 q.2.1 q.2.2) N (iI (qu j), iI row, h) = some (1, (iI (-1), b, h')) ∧ Fm [86, 87, 88] h h' ∧ PM h' t pr' ow' f' c' ex ∧ c' = (if (f row).isSome = true then c else c + 1) ∧ (pr st = none → Cns (tH t) F pr' ow') ∧ (∀ z, pr st = some z → CnX (tH t) F pr' ow' z) ∧ (∀ y, (∀ i, i ≤ j → y ≠ qu i) → pr' y = pr y) ∧ (∀ y, y ≠ st → (pr' y).isSome = (pr y).isSome) ∧ (pr' st).isSome = true := by
  intro j
  induction j using Nat.strongRecOn with
  | _ j ih =>
    intro pr ow f row c N h hj hN s htr cx hf pm hcc h90 h90b
    obtain ⟨N, rfl⟩ : ∃ K, N = K + 1 := ⟨N - 1, by omega⟩
    have hx := hqH j hj
    have hxH := hx.1
    have hrow := hF _ _ hx.1 hf
    have e88 := pm.1 (qu j) hx.1 hx.2
    have fm1 : Fm [88] h (zsI h 88 (qu j) (iI row)) := Fm_sI _ _ _ (by simp)
    have s1 : St (zsI h 88 (qu j) (iI row)) := s.sI _ _ _
    obtain ⟨h1, c1, o1, o2, o3, o4⟩ := fX12_owns_eq (w := (qu j : Int)) s1 (pm.2.1.fm fm1 (by simp) (by simp)) hrow hcc
    have pm1 := pm.put (x := qu j) (row := row) o2 o4
    have fm2 : Fm [86, 87, 88] h h1 := (fm1.mono (by simp)).tr (o2.mono (by simp))
    have s2 : St h1 := s.fm fm2
    have hbody : ∀ v : Int, zI h 90 (qu j) = iI v → bX12_takes_5 g 76 (iI (qu j)) (iI row) h = some (0, (iI v, (iI (ro (pr (qu j))), h1))) := by
      intro v hv
      have hv1 : zI h1 90 (qu j) = iI v := by rw [fm2.I (by simp)]; exact hv
      unfold bX12_takes_5
      simp (maxSteps := 1000000) (disch := (first | assumption | exact ne_b rfl | omega)) only [↓reduceIte, ↓zlet_eq, ↓bdR_sI, ↓bdR_sJ, ↓bdR_aI, zc2_some, Option.bind_some, ↓si_m1, ↓si_m2, ↓si_m3, iI_lit, iI_add, iI_sub, iI_mul, leT, leF, ltT, ltF, eqT, eqF, zinT, clI, Int.toNat_natCast, Int.reduceToNat, tN1, tNa, tN0, tNm, if_pos, if_neg, zI_sI, zI_sJ, zI_sR, zJ_sI, zJ_sJ, zJ_sR, zR_sI, zR_sJ, zR_sR, zK_sI, zK_sJ, zK_sR, zL_sI, zL_sJ, zL_sR, zI_aI, zJ_aI, zR_aI, zK_aI, zL_aI, z2_at, z2_a, z2_k, z1_self, z1_ne, true_and, and_true, bIt, bIf, Bool.false_eq_true, Bool.true_eq_false, eq_self, not_true_eq_false, not_false_eq_true, sK76, sK77, sK78, sK79, sK80, sK81, sK82, sK83, sK84, sK85, sK86, sK87, sK88, sK89, sK90, sK91, sK92, sK93, sK94, sK95, sK96, sK97, sK98, sK99, sK100, sL77, sL78, sL79, sL80, sL81, sL82, sL83, sL84, sL85, sL86, sL87, sL88, sL89, sL90, sL91, sL92, sL93, sL94, sL95, sL96, sL97, sL98, sL99, sL100, sR76_5, sR76_16, sR76_18, sR76_19, sR76_20, sR76_21, sR76_23, sR76_25, sR76_26, sR76_27, sR76_28, sR76_29, sR76_30, sR76_31, sR76_32, sR76_33, sR76_34, sR76_37, sR76_38, sR76_39, sR76_40, sR76_41, sR76_42, ↓sB76_5, ↓sB76_16, ↓sB76_18, ↓sB76_19, ↓sB76_20, ↓sB76_21, ↓sB76_23, ↓sB76_25, ↓sB76_26, ↓sB76_27, ↓sB76_28, ↓sB76_29, ↓sB76_30, ↓sB76_31, ↓sB76_32, ↓sB76_33, ↓sB76_34, ↓sB76_37, ↓sB76_38, ↓sB76_39, ↓sB76_40, ↓sB76_41, ↓sB76_42, e88, ↓bd_of o1, hv1]
    by_cases c0 : j = 0
    · have hv := hbody (-1) (by rw [c0, hq0]; exact h90)
      obtain ⟨N, rfl⟩ : ∃ K, N = K + 1 := ⟨N - 1, by omega⟩
      have e1 : bX12_takes_5 g 76 (iI (-1)) (iI (ro (pr (qu j)))) h1 = some (0 + 1, (iI (-1), (iI (ro (pr (qu j))), h1))) := by
        unfold bX12_takes_5
        simp (maxSteps := 1000000) (disch := (first | assumption | exact ne_b rfl | omega)) only [↓reduceIte, ↓zlet_eq, ↓bdR_sI, ↓bdR_sJ, ↓bdR_aI, zc2_some, Option.bind_some, ↓si_m1, ↓si_m2, ↓si_m3, iI_lit, iI_add, iI_sub, iI_mul, leT, leF, ltT, ltF, eqT, eqF, zinT, clI, Int.toNat_natCast, Int.reduceToNat, tN1, tNa, tN0, tNm, if_pos, if_neg, zI_sI, zI_sJ, zI_sR, zJ_sI, zJ_sJ, zJ_sR, zR_sI, zR_sJ, zR_sR, zK_sI, zK_sJ, zK_sR, zL_sI, zL_sJ, zL_sR, zI_aI, zJ_aI, zR_aI, zK_aI, zL_aI, z2_at, z2_a, z2_k, z1_self, z1_ne, true_and, and_true, bIt, bIf, Bool.false_eq_true, Bool.true_eq_false, eq_self, not_true_eq_false, not_false_eq_true]
      have hst : qu j = st := by rw [c0, hq0]
      have hl1 := lp_e (body := fun q : Int32 × Int32 × Zh => bX12_takes_5 g 76 q.1 q.2.1 q.2.2) (N := N) (s := (iI (-1), iI (ro (pr (qu j))), h1)) e1
      have hl0 := lp_0 (body := fun q : Int32 × Int32 × Zh => bX12_takes_5 g 76 q.1 q.2.1 q.2.2) (N := N + 1) (s := (iI (qu j), iI row, h)) hv
      exact ⟨iI (ro (pr (qu j))), h1, updN pr (qu j) row, updN ow row (qu j), updO f row (qu j), c1, hl0.trans hl1, fm2, pm1, o3, fun q => cx.last hx.1 hf (by rw [hst]; exact q), fun z q => cx.step hx.1 hf (by rw [hst]; exact q), fun y hy => updN_ne _ _ (hy j (Nat.le_refl _)), fun y hy => by rw [updN_ne _ _ (by rw [hst]; exact hy)], by rw [← hst, updN_at]; rfl⟩
    · obtain ⟨k, hk, ek, r, hr, hfk⟩ := htr j (by omega) (Nat.le_refl _)
      have hv := hbody (cf (qu j)) (h90b j (by omega) hj)
      rw [ek, hr] at hv
      have hne : ∀ i, i < j → qu i ≠ qu j := fun i hi => hqd i j hi hj
      have hor := (cx.1 (qu j) r hx.1 hr)
      have hpres : (updO f row (qu j) r).isSome = true := by
        unfold updO
        rw [if_neg hor.2.2]
        exact getD_some pm.2.2 hor.2.1
      obtain ⟨b, h', pr', ow', f', c', r1, r2, r3, rc, r4, r5, r6, r7, r8⟩ := ih k hk (updN pr (qu j) row) (updN ow row (qu j)) (updO f row (qu j)) r c1 N h1 (by omega) (by omega) s2 (fun i hi1 hi2 => by
        obtain ⟨k2, q1, q2, r', q3, q4⟩ := htr i hi1 (by omega)
        exact ⟨k2, q1, q2, r', by rw [updN_ne _ _ (hne i (by omega))]; exact q3, q4⟩) (cx.step hx.1 hf hr) hfk pm1 (Or.inl hpres) (by rw [fm2.I (by simp)]; exact h90) (fun i hi1 hi2 => by rw [fm2.I (by simp)]; exact h90b i hi1 hi2)
      have hst : st ≠ qu j := by rw [← hq0]; exact hne 0 (by omega)
      have hl0 : lp (fun q : Int32 × Int32 × Zh => bX12_takes_5 g 76 q.1 q.2.1 q.2.2) (N + 1) (iI (qu j), iI row, h) = lp (fun q : Int32 × Int32 × Zh => bX12_takes_5 g 76 q.1 q.2.1 q.2.2) N (iI (qu k), iI (r : Nat), h1) := lp_0 (body := fun q : Int32 × Int32 × Zh => bX12_takes_5 g 76 q.1 q.2.1 q.2.2) (s := (iI (qu j), iI row, h)) hv
      refine ⟨b, h', pr', ow', f', c', hl0.trans r1, fm2.tr r2, r3, by rw [rc, if_pos hpres, o3], fun q => r4 (by rw [updN_ne _ _ hst]; exact q), fun z q => r5 z (by rw [updN_ne _ _ hst]; exact q), fun y hy => ?_, fun y hy => ?_, r8⟩
      · rw [r6 y (fun i hi => hy i (by omega)), updN_ne _ _ (hy j (Nat.le_refl _))]
      · rw [r7 y hy]
        by_cases q : y = qu j
        · rw [q, updN_at, hr]; rfl
        · rw [updN_ne _ _ q]
/-! the model's search -/
def SM_ (h : Zh) (t : Tk) (F : Nat → Nat → Prop) (pr : Nat → Option Nat) (s st : Nat) (R0 : Nat → Prop) (n : Nat) (qu cf : Nat → Nat) : Prop := Tre F pr st qu cf n ∧ (∀ j, j < n → qu j < tH t ∧ s ≤ qu j ∧ ¬ R0 (qu j)) ∧ (∀ j, j < n → zI h 89 j = iI (qu j)) ∧ zI h 90 st = iI (-1) ∧ (∀ j, 1 ≤ j → j < n → zI h 90 (qu j) = iI (cf (qu j))) ∧ (∀ y, y < tH t → ¬ mkd R0 qu n y → zI h 90 y = iI (-2)) ∧ ∀ y, y < tH t → R0 y → zI h 90 y = iI (-1)
theorem SM_.fm {S : List Nat} {h h' : Zh} {t : Tk} {F : Nat → Nat → Prop} {pr : Nat → Option Nat} {s st : Nat} {R0 : Nat → Prop} {n : Nat} {qu cf : Nat → Nat} (q : SM_ h t F pr s st R0 n qu cf) (f : Fm S h h') (h1 : 89 ∉ S) (h2 : 90 ∉ S) : SM_ h' t F pr s st R0 n qu cf := by
  unfold SM_
  rw [f.I h1, f.I h2]
  exact q
