/-! the model's reader: a rule is noted -/
def AR (h h' : Zh) (tr rc : Nat) (j : Int64) (k : Nat) : Prop := zI h' tr 5 = iI ((rc + 1 : Nat) : Int) ∧ (∀ i, i ≠ 5 → zI h' tr i = zI h tr i) ∧ zI h' (tr + 1) rc = iI k ∧ (∀ i, i ≠ rc → zI h' (tr + 1) i = zI h (tr + 1) i) ∧ zJ h' (tr + 5) rc = j ∧ ∀ i, i ≠ rc → zJ h' (tr + 5) i = zJ h (tr + 5) i
theorem AR.st {h h1 h' : Zh} {tr rc k : Nat} {j : Int64} (q : AR h1 h' tr rc j k) (f : FR [] h h1) (ht : 101 ≤ tr) : AR h h' tr rc j k := by
  obtain ⟨a, b, c, d, e, g⟩ := q
  exact ⟨a, fun i hi => (b i hi).trans (f.o (by omega) (by simp) i), c, fun i hi => (d i hi).trans (f.o (by omega) (by simp) i), e, fun i hi => (g i hi).trans (f.oJ (by omega) (by simp) i)⟩
theorem ru141 {g h : Zh} {tx : Nat → Int} {n tr rc : Nat} {r : PR Nat} {j1 : Int64} {x3 : Int32} (m : MR tx n h r) (q : RT h tr) (gq : RT g tr) (t5 : zI h tr 5 = iI rc) (hx : ∀ k p, r = rt k p → x3 = iI k ∧ rc < 4) : ∃ h', jX12_readRule_141 g 76 j1 x3 h = some h' ∧ FR [tr, tr + 1, tr + 5] h h' ∧ MR tx n h' r ∧ ∀ k p, r = rt k p → AR h h' tr rc j1 k := by
  have h101 := q.2.1
  have gk := gq.2.2.1
  rcases r.cs with ⟨x, y, rfl⟩ | ⟨k, p, rfl⟩
  · obtain ⟨-, h9, -⟩ := mr_ei m
    refine ⟨h, ?_, FR.rf, m, fun k p e => (er_rt e).elim⟩
    unfold jX12_readRule_141
    rw [if_pos (show zI h 76 9 = (5 : Int32) from h9)]
  · obtain ⟨e3, hrc⟩ := hx k p rfl
    obtain ⟨s1, rd, h13⟩ := mr_ri m
    have h9 := rd.2.2.1
    have hb := mS_b (tkK tx n p)
    have n9 : ¬ zI h 76 9 = (5 : Int32) := by rw [h9, show (5 : Int32) = iI 5 from rfl, iI_eq ⟨by omega, by omega⟩ ⟨by decide, by decide⟩]; omega
    obtain ⟨-, -, -, g10, g11, g12, g13, g14, gk1, gl1, -, -, -, -, -, -, gk5, gl5⟩ := gq
    obtain ⟨r4, -, -, q10, q11, q12, q13, q14, -⟩ := q
    have ei : iI (rc : Int) + (1 : Int32) = iI ((rc + 1 : Nat) : Int) := by
      rw [show (1 : Int32) = iI 1 from rfl, iI_add]; rfl
    have fA : Fj [tr + 5] h (zsJ h (tr + 5) rc j1) := Fj_sJ _ _ _ (by simp)
    have a5 : zI (zsJ h (tr + 5) rc j1) = zI h := rfl
    have aR : zR (zsJ h (tr + 5) rc j1) = zR h := rfl
    have j5 : zJ (zsJ h (tr + 5) rc j1) (tr + 5) rc = j1 := by rw [zJ_sJ, z2_at]
    have jj : ∀ i, i ≠ rc → zJ (zsJ h (tr + 5) rc j1) (tr + 5) i = zJ h (tr + 5) i := fun i hi => by rw [zJ_sJ, z2_k _ _ _ hi]
    unfold jX12_readRule_141
    rw [if_neg n9, r4, Option.bind_some, if_pos gk, q14, Option.bind_some, Option.bind_some, if_pos gk, if_pos gk5, t5, if_pos (by rw [gl5]; exact zin_N hrc (by decide)), clN (by omega), zlet_eq]
    generalize zsJ h (tr + 5) rc j1 = hA at *
    rw [aR, r4, Option.bind_some, if_pos gk, q10, Option.bind_some, Option.bind_some, if_pos gk, if_pos gk1, a5, t5, if_pos (by rw [gl1]; exact zin_N hrc (by decide)), clN (by omega), zlet_eq, e3]
    have fB : Fj [tr + 1] hA (zsI hA (tr + 1) rc (iI k)) := (Fm_sI _ _ _ (by simp)).j
    have b1 : zI (zsI hA (tr + 1) rc (iI k)) (tr + 1) rc = iI k := by rw [zI_sI, z2_at]
    have bj : ∀ i, i ≠ rc → zI (zsI hA (tr + 1) rc (iI k)) (tr + 1) i = zI h (tr + 1) i := fun i hi => by rw [zI_sI, z2_k _ _ _ hi, a5]
    have bo : ∀ x, x ≠ tr + 1 → ∀ i, zI (zsI hA (tr + 1) rc (iI k)) x i = zI h x i := fun x hx i => by rw [zI_sI, z2_a _ _ _ _ hx, a5]
    generalize zsI hA (tr + 1) rc (iI k) = hB at *
    rw [fB.R, aR, r4, Option.bind_some, if_pos gk, zlet_eq, bo tr (by omega), t5, ei]
    have fC : Fj [tr] hB (zsI hB tr 5 (iI ((rc + 1 : Nat) : Int))) := (Fm_sI _ _ _ (by simp)).j
    have fAll : Fj [tr, tr + 1, tr + 5] h (zsI hB tr 5 (iI ((rc + 1 : Nat) : Int))) := ((fA.mono (by simp)).tr (fB.mono (by simp))).tr (fC.mono (by simp))
    refine ⟨_, rfl, ⟨fAll.mono (fun x hx => List.mem_cons_of_mem _ hx), fun j _ => ?_⟩, m.fr fAll (by simp <;> omega) (by simp <;> omega), fun k' p' e => ?_⟩
    · rw [fAll.I (by simp <;> omega)]
    · obtain ⟨z, -⟩ := rt_in e
      rw [← z]
      refine ⟨by rw [zI_sI, z2_at], fun i hi => by rw [zI_sI, z2_k _ _ _ hi, bo tr (by omega)], by rw [zI_sI, z2_a _ _ _ _ (by omega)]; exact b1, fun i hi => by rw [zI_sI, z2_a _ _ _ _ (by omega)]; exact bj i hi, ?_, fun i hi => ?_⟩
      · rw [(fC.2.2.2.2 (tr + 5) (by simp)).2, (fB.2.2.2.2 (tr + 5) (by simp)).2]; exact j5
      · rw [(fC.2.2.2.2 (tr + 5) (by simp)).2, (fB.2.2.2.2 (tr + 5) (by simp)).2]; exact jj i hi
theorem ru130 {g h : Zh} {tx : Nat → Int} {n tr rc : Nat} {r : PR Nat} {j1 : Int64} {x3 : Int32} (m : MR tx n h r) (q : RT h tr) (gq : RT g tr) (t5 : zI h tr 5 = iI rc) (hx : ∀ k p, r = rt k p → x3 = iI k ∧ rc < 4 ∧ k ≤ 21) : ∃ h', jX12_readRule_130 g 76 j1 x3 h = some h' ∧ FR [tr, tr + 1, tr + 5] h h' ∧ MR tx n h' r ∧ ∀ k p, r = rt k p → AR h h' tr rc j1 k := by
  have h101 := q.2.1
  by_cases c : x3 = (-1 : Int32)
  · have nr : ∀ k p, r = rt k p → False := fun k p e => by
      obtain ⟨e1, -, e2⟩ := hx k p e
      rw [e1, show (-1 : Int32) = iI (-1) from rfl, iI_eq ⟨by omega, by omega⟩ ⟨by decide, by decide⟩] at c
      omega
    obtain ⟨h2, f1, f2, f3⟩ := flaw_m (β := Nat) m 1
    have f3' : MR tx n h2 r := by
      rcases r.cs with ⟨x, y, rfl⟩ | ⟨k, p, rfl⟩
      · exact f3
      · exact (nr k p rfl).elim
    obtain ⟨h3, a1, a2, a3, a4⟩ := ru141 (g := g) (j1 := j1) (x3 := x3) (rc := rc) f3' (q.fj f2.1) gq (by rw [f2.o (by omega) (by simp)]; exact t5) (fun k p e => (nr k p e).elim)
    refine ⟨h3, ?_, (f2.mono (by simp)).tr a2, a3, fun k p e => (nr k p e).elim⟩
    unfold jX12_readRule_130
    rw [if_pos c, show fX12_flaw 76 (1 : Int32) h = some h2 from f1, Option.bind_some]
    exact a1
  · unfold jX12_readRule_130
    rw [if_neg c]
    exact ru141 m q gq t5 (fun k p e => ⟨(hx k p e).1, (hx k p e).2.1⟩)
theorem kn26 {g h : Zh} {tx : Nat → Int} {n tr rc e : Nat} {x1 : Int32} {r : PR Unit} (m : MR tx n h r) (hr : ∀ a p, r = rt a p → tkK tx n p = 1 ∧ rc < 4) (q : RT h tr) (gq : RT g tr) (t5 : zI h tr 5 = iI rc) : ∃ h', kX12_readRule_26 g 76 e x1 h = some h' ∧ FR [tr, tr + 1, tr + 5] h h' ∧ MR tx n h' (bn r fun _ p => pK tx n (tkN tx n p)) ∧ ∀ p k y, r = rt () p → pK tx n (tkN tx n p) = rt k y → AR h h' tr rc (jI (nwd tx n p)) k := by
  have h101 := q.2.1
  obtain ⟨h1, a1, a2, a3⟩ := goes_m m (fun a p e => by rw [(hr a p e).1]; decide)
  have y15 : ∀ p, r = rt () p → zJ h 76 15 = jI (nwd tx n p) := fun p e => by
    rw [e] at m
    obtain ⟨-, rd, -⟩ := mr_ri m
    exact rd.2.2.2.2.2.1 (hr () p e).1
  have fin : ∀ (h2 : Zh) (x3 : Int32) (R : PR Nat), FR [] h h2 → MR tx n h2 R → (∀ k p, R = rt k p → x3 = iI k ∧ rc < 4 ∧ k ≤ 21) → R = (bn r fun _ p => pK tx n (tkN tx n p)) → ∃ h', jX12_readRule_130 g 76 (zJ h 76 15) x3 h2 = some h' ∧ FR [tr, tr + 1, tr + 5] h h' ∧ MR tx n h' (bn r fun _ p => pK tx n (tkN tx n p)) ∧ ∀ p k y, r = rt () p → pK tx n (tkN tx n p) = rt k y → AR h h' tr rc (jI (nwd tx n p)) k := by
    intro h2 x3 R f2 mR hx eR
    obtain ⟨h3, b1, b2, b3, b4⟩ := ru130 (g := g) (j1 := zJ h 76 15) (x3 := x3) (rc := rc) mR (q.fj f2.1) gq (by rw [f2.o (by omega) (by simp)]; exact t5) hx
    refine ⟨h3, b1, (f2.mono (by simp)).tr b2, by rw [← eR]; exact b3, fun p k y e e2 => ?_⟩
    have : R = rt k y := by rw [eR, e, bn_rt, e2]
    rw [← y15 p e]
    exact (b4 k y this).st f2 h101
  have pKn : ∀ {R : PR Unit}, bn r (pS tx n) = R → (bn r fun _ p => pK tx n (tkN tx n p)) = bn R fun _ p => pK tx n p := fun {R} e => by
    rw [← e, bn_as]; rfl
  have hrc : ∀ {a p}, bn r (pS tx n) = rt a p → rc < 4 := fun {a p} e => by
    rcases r.cs with ⟨x, y, rfl⟩ | ⟨b, y, rfl⟩
    · exact (er_rt e).elim
    · exact (hr b y rfl).2
  have e0 := pKn rfl
  unfold kX12_readRule_26
  rw [zlet_eq, a1, Option.bind_some]
  generalize hR : bn r (pS tx n) = R at *
  rcases et_m (s := 13) a3 (by decide) with ⟨c1, h2, e1, f1, m1⟩ | ⟨a, p, h2, rr, hw, e1, f1, m1⟩
  · rw [e1, zc2_some, if_pos rfl]
    rcases et_m (s := 14) m1 (by decide) with ⟨c2, h3, e2, f2, m2⟩ | ⟨a, p, h3, rr, hw, e2, f2, m2⟩
    · rw [e2, zc2_some, if_pos rfl]
      rcases et_m (s := 15) m2 (by decide) with ⟨c3, h4, e3, f3, m3⟩ | ⟨a, p, h4, rr, hw, e3, f3, m3⟩
      · rw [e3, zc2_some, if_pos rfl]
        obtain ⟨h5, g1, g2, g3⟩ := flaw_m (β := Nat) m3 1
        have eR : (bn R fun _ p => (er 1 (skp tx n p) : PR Nat)) = bn r fun _ p => pK tx n (tkN tx n p) := by
          rw [e0]
          rcases R.cs with ⟨x, y, rfl⟩ | ⟨a, p, rfl⟩
          · rfl
          · rw [ew_r] at c1 c2 c3
            rw [bn_rt, bn_rt]
            unfold pK pP
            rw [c1, c2, c3]
            rfl
        have nr : ∀ k p, (bn R fun _ p => (er 1 (skp tx n p) : PR Nat)) = rt k p → False := fun k p e => by
          rcases R.cs with ⟨x, y, rfl⟩ | ⟨a, p, rfl⟩
          · exact er_rt e
          · exact er_rt e
        obtain ⟨h6, b1, b2, b3, b4⟩ := fin h5 (0 : Int32) _ (a2.tr (f1.tr (f2.tr (f3.tr g2)))) g3 (fun k p e => (nr k p e).elim) eR
        refine ⟨h6, ?_, b2, b3, b4⟩
        unfold jX12_readRule_130
        rw [if_pos rfl, show fX12_flaw 76 (1 : Int32) h4 = some h5 from g1, Option.bind_some]
        have h9 : zI h5 76 9 = iI 5 := by
          rcases R.cs with ⟨x, y, rfl⟩ | ⟨a, p, rfl⟩
          · exact (mr_ei (show MR tx n h5 (er x y : PR Nat) from g3)).2.1
          · exact (mr_ei (show MR tx n h5 (er 1 (skp tx n p) : PR Nat) from g3)).2.1
        unfold jX12_readRule_130 jX12_readRule_141 at b1
        rw [if_neg (by decide), if_pos (show zI h5 76 9 = (5 : Int32) from h9)] at b1
        unfold jX12_readRule_141
        rw [if_pos (show zI h5 76 9 = (5 : Int32) from h9)]
        exact b1
      · rw [e3, zc2_some, if_neg (by decide)]
        obtain ⟨w, h5, g1, g2, g3, g4⟩ := readWords_m m3
        rw [g1, zc2_some]
        have eR : pWd tx n (tkN tx n p) = bn r fun _ p => pK tx n (tkN tx n p) := by
          rw [e0, rr, bn_rt]
          rw [rr, ew_r] at c1 c2
          unfold pK pP
          rw [c1, c2, hw]
          rfl
        refine fin h5 w _ (a2.tr (f1.tr (f2.tr (f3.tr g2)))) g3 (fun k y e => ⟨g4 k y e, hrc rr, ?_⟩) eR
        have := Pz.mono (pK_p (tx := tx) (n := n) (p := p) (by
          rw [rr] at a3
          exact (mr_ri a3).2.1.1)) (fun k q hq => hq.2)
        exact this k y (by rw [← e, eR, e0, rr]; rfl)
    · rw [e2, zc2_some, if_neg (by decide)]
      refine fin h3 (21 : Int32) (rt 21 (tkN tx n p)) (a2.tr (f1.tr f2)) (mr_sh m2 rfl) (fun k y e => ?_) ?_
      · obtain ⟨z, -⟩ := rt_in e
        rw [← z]
        exact ⟨rfl, hrc rr, by decide⟩
      · rw [e0, rr, bn_rt]
        rw [rr, ew_r] at c1
        unfold pK
        rw [c1, hw]
        rfl
  · rw [e1, zc2_some, if_neg (by decide)]
    refine fin h2 (20 : Int32) (rt 20 (tkN tx n p)) (a2.tr f1) (mr_sh m1 rfl) (fun k y e => ?_) ?_
    · obtain ⟨z, -⟩ := rt_in e
      rw [← z]
      exact ⟨rfl, hrc rr, by decide⟩
    · rw [e0, rr, bn_rt]
      unfold pK
      rw [hw]
      rfl
theorem MS.fr {h h' : Zh} {tr : Nat} {tx : Nat → Int} {n : Nat} {S : PS} (ms : MS h tr tx n S) (f : FR [] h h') : MS h' tr tx n S := by
  obtain ⟨q, h0, h1, t5, t6, nm, ev⟩ := ms
  have h101 := q.2.1
  have o : ∀ x, 101 ≤ x → zI h' x = zI h x := fun x hx => funext fun j => f.o (by omega) (by simp) j
  have oJ : ∀ x, 101 ≤ x → zJ h' x = zJ h x := fun x hx => funext fun j => f.oJ (by omega) (by simp) j
  refine ⟨q.fj f.1, fun b => ?_, fun b => ?_, ?_, ?_, fun i hi => ?_, fun e he => ?_⟩
  · rw [o tr h101]; exact h0 b
  · unfold Tr
    rw [f.K, o tr h101]; exact h1 b
  · rw [o tr h101]; exact t5
  · rw [o tr h101]; exact t6
  · rw [o (tr + 1) (by omega), oJ (tr + 5) (by omega)]; exact nm i hi
  · rw [o (tr + 2) (by omega), o (tr + 3) (by omega), o (tr + 4) (by omega)]; exact ev e he
theorem readRule_m {h : Zh} {tx : Nat → Int} {n p tr : Nat} {S : PS} (m : MR tx n h (rt () p)) (hw : isw tx n p 9 = true) (ms : MS h tr tx n S) (ok : PSk n S) : ∃ h', fX12_readRule 76 h = some h' ∧ FR [tr, tr + 1, tr + 5] h h' ∧ MR tx n h' (pR tx n S p) ∧ ∀ S' y, pR tx n S p = rt S' y → MS h' tr tx n S' := by
  have ms0 := ms
  obtain ⟨q, h0, h1, t5, t6, nm, ev⟩ := ms
  have h101 := q.2.1
  have g76 := sK76 m.1
  obtain ⟨o1, o2, o3, o4, o5, o6⟩ := ok
  obtain ⟨hA, a1, a2, a3⟩ := begins_m (a := Prc S) (b := 4) m (by rw [isw_1 hw]; decide) q h0 (fun b => ⟨h1 b, o1 b⟩) o3 (by decide) (fun b => by rw [(o2 b).1]; decide)
  have hcb : ∀ a y, bn (cB tx n S (Prc S) 4 p) (pS tx n) = rt a y → Prc S < 4 := by
    intro a y e
    unfold cB at e
    split at e
    · split at e
      · assumption
      · exact (er_rt e).elim
    · exact (er_rt e).elim
  have eP : pR tx n S p = bn (bn (bn (cB tx n S (Prc S) 4 p) (pS tx n)) fun _ p => cM tx n S p) fun _ p => bn (pK tx n (tkN tx n p)) fun k q => rt (addR S p k) q := by
    unfold pR
    rw [bn_as (bn (cB tx n S (Prc S) 4 p) (pS tx n))]
  rw [eP]
  generalize bn (cB tx n S (Prc S) 4 p) (pS tx n) = r0 at *
  have e1 := isName_m a3
  obtain ⟨hB, b1, b2, b3, b4⟩ := cf_m a3 1 (C := nmB tx n r0 = true) (fun _ p => decide (tkK tx n p = 1) && !rsv tx n p) (fun a p e => by rw [e]; exact Iff.rfl)
  have kB : ∀ a p, (bn r0 fun a p => if (decide (tkK tx n p = 1) && !rsv tx n p) = true then rt a p else er 1 (skp tx n p)) = rt a p → tkK tx n p = 1 := by
    intro a p e
    rcases r0.cs with ⟨x, y, rfl⟩ | ⟨a', p', rfl⟩
    · exact (er_rt e).elim
    · rw [bn_rt] at e
      split at e
      · rename_i hh
        obtain ⟨-, e2⟩ := rt_in e
        rw [Bool.and_eq_true_iff] at hh
        rw [← e2]; exact of_decide_eq_true hh.1
      · exact (er_rt e).elim
  have fAB : FR [] h hB := a2.tr b3
  obtain ⟨hC, c1, c2, c3⟩ := names_m (g := h) b4 kB (ms0.fr fAB) o3 q
  have eN : sh (bn (bn r0 fun a p => if (decide (tkK tx n p = 1) && !rsv tx n p) = true then rt a p else er 1 (skp tx n p)) fun a p => if agn tx n S p = true then er 3 (skp tx n p) else rt a p) = sh (bn r0 fun _ p => cM tx n S p) := by
    rcases r0.cs with ⟨x, y, rfl⟩ | ⟨a', p', rfl⟩
    · rfl
    · simp only [bn_rt]
      unfold cM
      by_cases k1 : tkK tx n p' = 1
      · cases k2 : rsv tx n p'
        · rw [decide_eq_true k1, if_pos (by rfl), if_pos ⟨k1, rfl⟩, bn_rt]
        · rw [decide_eq_true k1, if_neg (by decide), if_neg (fun z => by cases z.2)]
          rfl
      · rw [decide_eq_false k1, if_neg (by simp), if_neg (fun z => k1 z.1)]
        rfl
  have c4 : MR tx n hC (bn r0 fun _ p => cM tx n S p) := mr_sh c3 eN
  have kN : ∀ a y, (bn r0 fun _ p => cM tx n S p) = rt a y → tkK tx n y = 1 ∧ Prc S < 4 := by
    intro a y e
    rcases r0.cs with ⟨x, z, rfl⟩ | ⟨a', p', rfl⟩
    · exact (er_rt e).elim
    · rw [bn_rt] at e
      unfold cM at e
      split at e
      · rename_i hh
        split at e
        · exact (er_rt e).elim
        · obtain ⟨-, e2⟩ := rt_in e
          rw [← e2]
          exact ⟨hh.1, hcb a' p' rfl⟩
      · exact (er_rt e).elim
  have fC : FR [] h hC := fAB.tr c2
  have msC := ms0.fr fC
  generalize (bn r0 fun _ p => cM tx n S p) = rN at *
  obtain ⟨h', d1, d2, d3, d4⟩ := kn26 (g := h) (rc := Prc S) (e := 1) (x1 := iI (Prc S)) c4 kN msC.1 q msC.2.2.2.1
  refine ⟨h', ?_, (fC.mono (by simp)).tr d2, mr_sh d3 ?_, fun S' y e => ?_⟩
  · unfold fX12_readRule
    rw [zlet_eq, if_pos g76, q.1, Option.bind_some, if_pos q.2.2.1, t5, show fX12_begins 76 (iI (Prc S)) (4 : Int32) h = some hA from a1, Option.bind_some, e1, zc2_some]
    have e24 : jX12_readRule_24 h 76 hB = some h' := by
      unfold jX12_readRule_24
      rw [c1, Option.bind_some]
      exact d1
    cases cN : nmB tx n r0
    · rw [if_pos (by decide), show fX12_flaw 76 (1 : Int32) hA = some hB from b2 (by rw [cN]; decide), Option.bind_some]
      exact e24
    · rw [if_neg (by decide), ← b1 cN]
      exact e24
  · rcases rN.cs with ⟨x, y, rfl⟩ | ⟨a', p', rfl⟩
    · rfl
    · simp only [bn_rt]
      rcases (pK tx n (tkN tx n p')).cs with ⟨x, y, e⟩ | ⟨k, y, e⟩
      · rw [e]; rfl
      · rw [e]; rfl
  · rcases rN.cs with ⟨x, z, rfl⟩ | ⟨a', p', rfl⟩
    · exact (er_rt e).elim
    · rw [bn_rt] at e
      rcases (pK tx n (tkN tx n p')).cs with ⟨x, z, ek⟩ | ⟨k, z, ek⟩
      · rw [ek] at e; exact (er_rt e).elim
      · rw [ek, bn_rt] at e
        obtain ⟨e2, e3⟩ := rt_in e
        obtain ⟨r1, r2, r3, r4, r5, r6⟩ := d4 p' k z rfl ek
        obtain ⟨qC, m0, m1, m5, m6, mn, me⟩ := msC
        have kp := (kN a' p' rfl).1
        have oD : ∀ x, x ≠ tr → x ≠ tr + 1 → x ≠ tr + 5 → 101 ≤ x → zI h' x = zI hC x := fun x x1 x2 x3 x4 => funext fun j => d2.o (by omega) (by simp [x1, x2, x3]) j
        rw [← e2]
        refine ⟨qC.fj d2.1, fun b => ?_, fun b => ?_, r1, ?_, fun i hi => ?_, fun e he => ?_⟩
        · rw [r2 0 (by decide)]; exact m0 b
        · obtain ⟨u0, u1, u2, u3, u4, u5, u6, u7, u8⟩ := m1 b
          exact ⟨by rw [d2.K]; exact u0, by rw [r2 0 (by decide)]; exact u1, by rw [r2 1 (by decide)]; exact u2, by rw [r2 2 (by decide)]; exact u3, by rw [r2 3 (by decide)]; exact u4, by rw [r2 4 (by decide)]; exact u5, by rw [r2 7 (by decide)]; exact u6, by rw [r2 8 (by decide)]; exact u7, by rw [r2 9 (by decide)]; exact u8⟩
        · rw [r2 6 (by decide)]; exact m6
        · have hi' : i < Prc S + 1 := hi
          show zI h' (tr + 1) i = iI ((if i = Prc S then k else Pru S i : Nat) : Int) ∧ zJ h' (tr + 5) i = jI (nwd tx n (if i = Prc S then p' else Pnm S i)) ∧ tkK tx n (if i = Prc S then p' else Pnm S i) = 1
          by_cases ci : i = Prc S
          · rw [if_pos ci, if_pos ci, ci]
            exact ⟨r3, r5, kp⟩
          · rw [if_neg ci, if_neg ci, r4 i ci, r6 i ci]
            exact mn i (by omega)
        · rw [oD (tr + 2) (by omega) (by omega) (by omega) (by omega), oD (tr + 3) (by omega) (by omega) (by omega) (by omega), oD (tr + 4) (by omega) (by omega) (by omega) (by omega)]
          exact me e he
