/-! the model's reader: a line, the text -/
theorem nx_l (tx : Nat → Int) {n p l : Nat} (h : l ≤ p ∧ p ≤ n) : l ≤ tkN tx n p ∧ tkN tx n p ≤ n := by
  have := nx_b tx h.2
  omega
theorem oN_l {tx : Nat → Int} {n p l : Nat} {b : Bool} (h : l ≤ p ∧ p ≤ n) : l ≤ oN tx n p b ∧ oN tx n p b ≤ n := by
  unfold oN
  split
  · exact nx_l tx h
  · exact h
theorem pP_l {tx : Nat → Int} {n s p l : Nat} (h : l ≤ p ∧ p ≤ n) : Pz (pP tx n s p) (fun _ q => l ≤ q ∧ q ≤ n) := by
  unfold pP
  exact Pz.ite (fun _ => Pz.rt (nx_l tx h)) (fun _ => Pz.er)
theorem cN_l {tx : Nat → Int} {n lo hi p l : Nat} (h : l ≤ p ∧ p ≤ n) : Pz (cN tx n lo hi p) (fun _ q => l ≤ q ∧ q ≤ n) := Pz.mono cN_p (fun a q hq => by rw [hq.1]; exact h)
theorem pQ_l {tx : Nat → Int} {n s lo hi p l : Nat} (h : l ≤ p ∧ p ≤ n) : Pz (pQ tx n s lo hi p) (fun _ q => l ≤ q ∧ q ≤ n) := by
  unfold pQ
  refine Pz.bn (pP_l h) fun _ q hq => ?_
  unfold pN
  exact Pz.bn (cN_l hq) fun _ q hq => Pz.rt (nx_l tx hq)
theorem pU_l {tx : Nat → Int} {n c p l : Nat} (h : l ≤ p ∧ p ≤ n) : Pz (pU tx n c p) (fun _ q => l ≤ q ∧ q ≤ n) := by
  unfold pU
  refine Pz.bn (pP_l h) fun _ q hq => ?_
  refine Pz.bn (Q := fun _ q => l ≤ q ∧ q ≤ n) ?_ fun u q hu => Pz.rt (nx_l tx hu)
  unfold cU
  exact Pz.bn (cN_l hq) fun v q hv => Pz.ite (fun c => Pz.rt hv) (fun _ => Pz.er)
theorem pWy_l {tx : Nat → Int} {n c k p l : Nat} (h : l ≤ p ∧ p ≤ n) : Pz (pWy tx n c k p) (fun _ q => l ≤ q ∧ q ≤ n) := by
  unfold pWy
  refine Pz.bn (Q := fun _ q => l ≤ q ∧ q ≤ n) ?_ fun st q hs => ?_
  · unfold cW
    refine Pz.bn (Q := fun _ q => l ≤ q ∧ q ≤ n) ?_ fun u q hu => Pz.rt (nx_l tx hu)
    exact Pz.ite (fun _ => Pz.ite (fun c => Pz.rt h) (fun _ => Pz.er)) (fun _ => Pz.er)
  · unfold pX
    exact Pz.rt (oN_l (oN_l hs))
theorem pD_l {tx : Nat → Int} {n : Nat} {S : PS} {p l : Nat} (h : l ≤ p ∧ p ≤ n) : Pz (pD tx n S p) (fun _ q => l ≤ q ∧ q ≤ n) := by
  cases e : Pbg S
  · rw [pD_eq e]
    refine Pz.bn (pQ_l (nx_l tx h)) fun c p1 h1 => ?_
    refine Pz.bn (pU_l h1) fun u p2 h2 => ?_
    refine Pz.bn (pQ_l h2) fun k p3 h3 => ?_
    refine Pz.bn (pQ_l h3) fun e1 p4 h4 => ?_
    exact Pz.bn (pWy_l h4) fun a p5 h5 => Pz.rt h5
  · unfold pD
    rw [e, if_pos rfl]
    exact Pz.er
theorem cB_l {tx : Nat → Int} {n : Nat} {S : PS} {a b p l : Nat} (h : l ≤ p ∧ p ≤ n) : Pz (bn (cB tx n S a b p) (pS tx n)) (fun _ q => l ≤ q ∧ q ≤ n) := by
  unfold cB
  exact Pz.bn (Q := fun _ q => l ≤ q ∧ q ≤ n) (Pz.ite (fun c => Pz.ite (fun c2 => Pz.rt h) (fun _ => Pz.er)) (fun _ => Pz.er)) fun _ q hq => Pz.rt (nx_l tx hq)
theorem pO_l {tx : Nat → Int} {n p l : Nat} {o : Option Nat} (h : l ≤ p ∧ p ≤ n) : Pz (pO tx n o p) (fun _ q => l ≤ q ∧ q ≤ n) := by
  cases o with
  | none => exact Pz.er
  | some k => exact Pz.rt (nx_l tx h)
theorem pK_l {tx : Nat → Int} {n p l : Nat} (h : l ≤ p ∧ p ≤ n) : Pz (pK tx n p) (fun _ q => l ≤ q ∧ q ≤ n) := by
  unfold pK
  refine Pz.ite (fun _ => Pz.rt (nx_l tx h)) (fun _ => Pz.ite (fun _ => Pz.rt (nx_l tx h)) (fun _ => ?_))
  refine Pz.bn (pP_l h) fun a q hq => ?_
  unfold pWd
  refine Pz.bn (pO_l hq) fun k q hk => ?_
  refine Pz.bn (pP_l hk) fun a q hq => ?_
  exact Pz.bn (pO_l hq) fun t q ht => Pz.rt ht
theorem pR_l {tx : Nat → Int} {n : Nat} {S : PS} {p l : Nat} (h : l ≤ p ∧ p ≤ n) : Pz (pR tx n S p) (fun _ q => l ≤ q ∧ q ≤ n) := by
  unfold pR
  refine Pz.bn (cB_l h) fun _ p1 h1 => ?_
  refine Pz.bn (Q := fun _ q => l ≤ q ∧ q ≤ n) ?_ fun _ p2 h2 => ?_
  · unfold cM
    exact Pz.ite (fun _ => Pz.ite (fun _ => Pz.er) (fun _ => Pz.rt h1)) (fun _ => Pz.er)
  · exact Pz.bn (pK_l (nx_l tx h2)) fun k q hq => Pz.rt hq
theorem cV_l {tx : Nat → Int} {n bd m p l : Nat} (h : l ≤ p ∧ p ≤ n) : Pz (cV tx n bd m p) (fun _ q => l ≤ q ∧ q ≤ n) := by
  unfold cV
  exact Pz.bn (cN_l h) fun v q hv => Pz.ite (fun _ => Pz.er) (fun _ => Pz.rt hv)
theorem pC_l {tx : Nat → Int} {n bd l : Nat} : ∀ (r i m : Nat) (c : Nat → Nat) (p : Nat), l ≤ p ∧ p ≤ n → Pz (pC tx n bd r i m c p) (fun _ q => l ≤ q ∧ q ≤ n)
  | 0, i, m, c, p, h => Pz.rt h
  | r + 1, i, m, c, p, h => by
    show Pz (bn (pCm tx n i p) fun _ p => bn (cV tx n bd m p) fun v p => pC tx n bd r (i + 1) (m ||| 2 ^ v) (fun j => if j = i then v else c j) (tkN tx n p)) _
    refine Pz.bn (Q := fun _ q => l ≤ q ∧ q ≤ n) ?_ fun _ p2 hp2 => ?_
    · unfold pCm
      exact Pz.ite (fun _ => Pz.rt h) (fun _ => Pz.ite (fun _ => Pz.rt (nx_l tx h)) (fun _ => Pz.er))
    · exact Pz.bn (cV_l hp2) fun v p3 hv => pC_l r _ _ _ _ (nx_l tx hv)
theorem pL_l {tx : Nat → Int} {n bd l : Nat} : ∀ (f m p : Nat), l ≤ p ∧ p ≤ n → Pz (pL tx n bd f m p) (fun _ q => l ≤ q ∧ q ≤ n)
  | 0, m, p, _ => Pz.er
  | f + 1, m, p, h => by
    show Pz (bn (cV tx n bd m p) fun v p => if tkK tx n (tkN tx n p) = 4 then pL tx n bd f (m ||| 2 ^ v) (tkN tx n (tkN tx n p)) else rt (m ||| 2 ^ v) (tkN tx n p)) _
    exact Pz.bn (cV_l h) fun v p3 hv => Pz.ite (fun _ => pL_l f _ _ (nx_l tx (nx_l tx hv))) (fun _ => Pz.rt (nx_l tx hv))
theorem pE_l {tx : Nat → Int} {n : Nat} {S : PS} {p l : Nat} (h : l ≤ p ∧ p ≤ n) : Pz (pE tx n S p) (fun _ q => l ≤ q ∧ q ≤ n) := by
  unfold pE
  refine Pz.bn (cB_l h) fun _ p1 h1 => ?_
  refine Pz.bn (pC_l _ _ _ _ _ h1) fun cc p2 h2 => ?_
  refine Pz.bn (pP_l h2) fun _ p3 h3 => ?_
  refine Pz.bn (pC_l _ _ _ _ _ h3) fun s p4 h4 => ?_
  refine Pz.bn (Q := fun _ q => l ≤ q ∧ q ≤ n) ?_ fun m p5 h5 => Pz.rt h5
  unfold pI
  exact Pz.ite (fun _ => pL_l _ _ _ (nx_l tx h4)) (fun _ => Pz.rt h4)
theorem pG_l {tx : Nat → Int} {n : Nat} {S : PS} {p l : Nat} (h : l ≤ p ∧ p ≤ n) : Pz (pG tx n S p) (fun _ q => l ≤ q ∧ q ≤ n) := by
  unfold pG
  exact Pz.ite (fun _ => pD_l h) (fun _ => Pz.ite (fun _ => pR_l h) (fun _ => Pz.ite (fun _ => pE_l h) (fun _ => Pz.er)))
def ml6 (tr : Nat) : List Nat := [tr, tr + 1, tr + 2, tr + 3, tr + 4, tr + 5]
theorem readLine_m {h : Zh} {tx : Nat → Int} {n p tr : Nat} {S : PS} (m : MR tx n h (rt () p)) (ms : MS h tr tx n S) (ok : PSk n S) : ∃ h', fX12_readLine 76 h = some h' ∧ FR (ml6 tr) h h' ∧ MR tx n h' (pG tx n S p) ∧ ∀ S' y, pG tx n S p = rt S' y → MS h' tr tx n S' := by
  have g76 := sK76 m.1
  have e0 := isWord_m (s := 0) m (by decide)
  have e1 := isWord_m (s := 9) m (by decide)
  have e2 := isWord_m (s := 10) m (by decide)
  rw [ew_r] at e0 e1 e2
  unfold fX12_readLine pG
  rw [zlet_eq, if_pos g76, e0, zc2_some]
  cases c0 : isw tx n p 0
  · rw [if_pos (by decide), if_neg (show ¬ false = true by decide), e1, zc2_some]
    cases c1 : isw tx n p 9
    · rw [if_pos (by decide), if_neg (show ¬ false = true by decide), e2, zc2_some]
      cases c2 : isw tx n p 10
      · rw [if_pos (by decide), if_neg (show ¬ false = true by decide)]
        obtain ⟨h2, f1, f2, f3⟩ := flaw_m (β := PS) m 1
        rw [show fX12_flaw 76 (1 : Int32) h = some h2 from f1, Option.bind_some]
        exact ⟨h2, rfl, f2.mono (by simp), f3, fun S' y e => (er_rt e).elim⟩
      · rw [if_neg (by decide), if_pos rfl]
        obtain ⟨h', a1, a2, a3, a4⟩ := readEvening_m m c2 ms ok
        rw [a1, Option.bind_some]
        exact ⟨h', rfl, a2.mono (by simp [ml6]), a3, a4⟩
    · rw [if_neg (by decide), if_pos rfl]
      obtain ⟨h', a1, a2, a3, a4⟩ := readRule_m m c1 ms ok
      rw [a1, Option.bind_some]
      exact ⟨h', rfl, a2.mono (by simp [ml6]), a3, a4⟩
  · rw [if_neg (by decide), if_pos rfl]
    obtain ⟨q, h0, h1, t5, t6, nm, ev⟩ := ms
    obtain ⟨o1, o2, -⟩ := ok
    obtain ⟨h', a1, a2, a3, a4, a5⟩ := readTrick_m m c0 q h0 (fun b => ⟨h1 b, o1 b⟩)
    rw [a1, Option.bind_some]
    refine ⟨h', rfl, a2.mono (by simp [ml6]), a3, fun S' y e => ?_⟩
    have tr' := a4 S' y e
    cases bg : Pbg S
    · obtain ⟨z1, z2⟩ := o2 bg
      have eS : ∃ t, S' = setT S t := by
        unfold pD at e
        rw [bg, if_neg (by decide)] at e
        rcases (pT tx n p).cs with ⟨x, z, et⟩ | ⟨t, z, et⟩
        · rw [et] at e; exact (er_rt e).elim
        · rw [et, bn_rt] at e
          exact ⟨t, (rt_in e).1.symm⟩
      obtain ⟨t, rfl⟩ := eS
      refine ⟨q.fj a2.1, fun b => (by cases b), fun _ => tr', ?_, ?_, fun i hi => ?_, fun e he => ?_⟩
      · rw [a5 5 (Or.inl rfl)]; exact t5
      · rw [a5 6 (Or.inr rfl)]; exact t6
      · have hi' : i < Prc S := hi
        omega
      · have he' : e < Pel S := he
        omega
    · unfold pD at e
      rw [bg, if_pos rfl] at e
      exact (er_rt e).elim
theorem readAll_m {h : Zh} {tx : Nat → Int} {n tr : Nat} (mr : MR tx n h (rt () 0)) (ms0 : MS h tr tx n S0) : ∃ h', fX12_readAll 76 h = some h' ∧ FR (ml6 tr) h h' ∧ MR tx n h' (pA tx n (n + 1) S0 0) ∧ ∀ S' y, pA tx n (n + 1) S0 0 = rt S' y → MS h' tr tx n S' := by
  have g76 := sK76 mr.1
  have hn := (mr_ri mr).2.1.2.1.1
  have := lp_cnt (body := fun q : Int32 × Zh => bX12_readAll_2 h 76 q.1 q.2) (n + 2)
    (fun i z => ∃ h1 mo, z = ((iI (bI mo), h1) : Int32 × Zh) ∧ FR (ml6 tr) h h1 ∧ ((mo = false ∧ ((∃ f y, pA tx n (n + 1) S0 0 = er f y ∧ MR tx n h1 (er f y : PR Unit)) ∨ (∃ S y, MR tx n h1 (rt () y) ∧ MS h1 tr tx n S ∧ pA tx n (n + 1) S0 0 = if tkK tx n y = 0 then rt S y else er 1 (skp tx n y)))) ∨ (mo = true ∧ ∃ S p1 f, MR tx n h1 (rt () p1) ∧ MS h1 tr tx n S ∧ PSk n S ∧ pA tx n (n + 1) S0 0 = pA tx n f S p1 ∧ i ≤ p1 ∧ n < f + p1)))
    (fun e z => e = 1 ∧ FR (ml6 tr) h z.2 ∧ ((∃ f y, pA tx n (n + 1) S0 0 = er f y ∧ MR tx n z.2 (er f y : PR Unit)) ∨ (∃ S y, MR tx n z.2 (rt () y) ∧ MS z.2 tr tx n S ∧ pA tx n (n + 1) S0 0 = if tkK tx n y = 0 then rt S y else er 1 (skp tx n y))))
    ?_ ?_ (by omega) (s := ((1 : Int32), h)) ⟨h, true, rfl, FR.rf, Or.inr ⟨rfl, S0, 0, n + 1, mr, ms0, S0_k n, rfl, Nat.zero_le _, by omega⟩⟩
  · obtain ⟨e, ⟨z1, z2⟩, l1, l2, l3, l4⟩ := this
    have l3' : FR (ml6 tr) h z2 := l3
    have eA : fX12_readAll 76 h = kX12_readAll_2 h 76 (e + 1) z1 z2 := by
      unfold fX12_readAll
      rw [zlet_eq, l1]
      rfl
    rw [eA]
    unfold kX12_readAll_2
    rw [if_pos g76]
    rcases l4 with ⟨f, y, eR, m1⟩ | ⟨S, y, m1, msz, eR⟩
    · have m1' : MR tx n z2 (er f y : PR Unit) := m1
      obtain ⟨-, h9, -⟩ := mr_ei m1'
      obtain ⟨h2, f1, f2, f3⟩ := flaw_m (β := Unit) m1' 1
      rw [if_neg (by rw [h9]; decide), show fX12_flaw 76 (1 : Int32) z2 = some h2 from f1, Option.bind_some, eR]
      exact ⟨h2, rfl, l3'.tr (f2.mono (by simp)), mr_sh f3 rfl, fun S' y e => (er_rt e).elim⟩
    · have m1' : MR tx n z2 (rt () y) := m1
      have msz' : MS z2 tr tx n S := msz
      obtain ⟨s1, rd, h13⟩ := mr_ri m1'
      have h9 := rd.2.2.1
      have hb := tkK_b tx n y
      rw [eR]
      have hm : ∀ k : Nat, k < 6 → (iI (mS k) = (1 : Int32) ↔ k = 0) := by decide +kernel
      have hk := hm (tkK tx n y) (by omega)
      by_cases c : tkK tx n y = 0
      · rw [if_pos (by rw [h9]; exact hk.mpr c), if_pos c]
        refine ⟨z2, rfl, l3', mr_sh m1' rfl, fun S' y' e => ?_⟩
        obtain ⟨e1, -⟩ := rt_in e
        rw [← e1]; exact msz'
      · obtain ⟨h2, f1, f2, f3⟩ := flaw_m (β := PS) m1' 1
        rw [if_neg (by rw [h9]; exact fun z => c (hk.mp z)), if_neg c, show fX12_flaw 76 (1 : Int32) z2 = some h2 from f1, Option.bind_some]
        exact ⟨h2, rfl, l3'.tr (f2.mono (by simp)), f3, fun S' y e => (er_rt e).elim⟩
  · intro i z hi ⟨h1, mo, ez, fr, st⟩
    subst ez
    show (∃ s', bX12_readAll_2 h 76 (iI (bI mo)) h1 = some (0, s') ∧ _) ∨ ∃ e s', bX12_readAll_2 h 76 (iI (bI mo)) h1 = some (e + 1, s') ∧ _
    rcases st with ⟨emo, st⟩ | ⟨emo, S, p1, f, m1, ms1, ok1, eR, hip, hf⟩
    · refine Or.inr ⟨0, (iI (bI mo), h1), ?_, rfl, fr, st⟩
      unfold bX12_readAll_2
      rw [emo, if_pos (by decide)]
    · refine Or.inl ?_
      have hp1 := (mr_ri m1).2.1.1
      obtain ⟨h2, a1, a2, a3, a4⟩ := readLine_m m1 ms1 ok1
      obtain ⟨h3, b1, b2, b3⟩ := eatsS_m (c := 59) (k := 3) a3 (Or.inl ⟨rfl, rfl⟩)
      have eB : bX12_readAll_2 h 76 (iI (bI mo)) h1 = some (0, (iI (bI (esB tx n 3 (pG tx n S p1))), h3)) := by
        unfold bX12_readAll_2
        rw [emo, if_neg (by decide), if_pos g76, a1, Option.bind_some, show fX12_eatsSign 76 (59 : Int32) h2 = _ from b1, zc2_some]
      obtain ⟨f', rfl⟩ : ∃ f', f = f' + 1 := ⟨f - 1, by omega⟩
      rw [eB]
      refine ⟨_, rfl, h3, _, rfl, fr.tr (a2.tr (b2.mono (by simp))), ?_⟩
      rw [eR, pA_s]
      rcases (pG tx n S p1).cs with ⟨x, y, e⟩ | ⟨S', y, e⟩
      · rw [e] at b3 ⊢
        exact Or.inl ⟨rfl, Or.inl ⟨x, y, rfl, mr_sh b3 rfl⟩⟩
      · have ms2 := a4 S' y e
        obtain ⟨hy, ok2⟩ := pG_k hp1 ok1 S' y e
        obtain ⟨hy1, hy2⟩ := pG_l (l := p1) ⟨Nat.le_refl _, hp1⟩ S' y e
        rw [e] at b3 ⊢
        rw [bn_rt] at b3 ⊢
        show (decide (tkK tx n y = 3) = false ∧ _) ∨ (decide (tkK tx n y = 3) = true ∧ _)
        have ms3 := ms2.fr b2
        by_cases c3 : tkK tx n y = 3
        · rw [if_pos c3] at b3
          rw [if_neg (by omega), if_pos c3]
          have hb2 := sgn_N (Or.inl c3)
          have hb3 := skp_b tx hy
          exact Or.inr ⟨decide_eq_true c3, S', tkN tx n y, f', mr_sh b3 rfl, ms3, ok2, rfl, by omega, by omega⟩
        · rw [if_neg c3] at b3
          rw [if_neg c3]
          exact Or.inl ⟨decide_eq_false c3, Or.inr ⟨S', y, mr_sh b3 rfl, ms3, rfl⟩⟩
  · intro z ⟨h1, mo, ez, fr, st⟩
    subst ez
    rcases st with ⟨emo, st⟩ | ⟨emo, S, p1, f, m1, ms1, ok1, eR, hip, hf⟩
    · refine ⟨0, (iI (bI mo), h1), ?_, rfl, fr, st⟩
      show bX12_readAll_2 h 76 (iI (bI mo)) h1 = _
      unfold bX12_readAll_2
      rw [emo, if_pos (by decide)]
    · have := (mr_ri m1).2.1.1
      omega
