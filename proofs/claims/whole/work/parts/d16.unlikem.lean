/-! the model's reader: unlike cards, places -/
theorem cv_m {tx : Nat → Int} {n bd m : Nat} {α : Type} {h : Zh} {r : PR α} (mr : MR tx n h r) (hb : 1 ≤ bd) (hb12 : bd ≤ 12) (hm : m < 2 ^ bd) : ∃ v h1 h2, fX12_bounded 76 (0 : Int32) (iI ((bd - 1 : Nat) : Int)) h = some (iI (v : Nat), h1) ∧ v < bd ∧ (m.testBit v = true → fX12_flaw 76 (3 : Int32) h1 = some h2) ∧ (m.testBit v = false → h2 = h1) ∧ FR [] h h2 ∧ MR tx n h2 (bn r fun _ p => cV tx n bd m p) ∧ ∀ w q, (bn r fun _ p => cV tx n bd m p) = rt w q → v = w ∧ tkK tx n q = 2 := by
  obtain ⟨h1, a1, a2, a3⟩ := bounded_m (lo := 0) (hi := bd - 1) mr (by decide) (by omega)
  have hv := vl_cN (tx := tx) (n := n) (lo := 0) (hi := bd - 1) (r := r) (by omega)
  have kk : ∀ w q, (bn r fun _ p => cN tx n 0 (bd - 1) p) = rt w q → tkK tx n q = 2 := fun w q e => (cN_k e).1
  have eR : ∀ F : PR Nat → PR Nat, F = (fun rB => bn rB fun a p => if (!m.testBit a) = true then rt a p else er 3 (skp tx n p)) → F (bn r fun _ p => cN tx n 0 (bd - 1) p) = bn r fun _ p => cV tx n bd m p := by
    intro F hF
    rw [hF]
    rcases r.cs with ⟨x, y, rfl⟩ | ⟨a, p, rfl⟩
    · rfl
    · simp only [bn_rt]
      unfold cV
      rcases (cN tx n 0 (bd - 1) p).cs with ⟨x, y, e⟩ | ⟨w, y, e⟩
      · rw [e]; rfl
      · rw [e, bn_rt, bn_rt]
        cases m.testBit w <;> rfl
  generalize (bn r fun _ p => cN tx n 0 (bd - 1) p) = rB at *
  obtain ⟨h2, b1, b2, b3, b4⟩ := cf_m a3 3 (C := m.testBit (vl 0 rB) = false) (fun a _ => !m.testBit a) (fun a p e => by
    rw [e, vl_rt]
    cases m.testBit a
    · exact iff_of_true rfl rfl
    · exact iff_of_false (by decide) (by decide))
  have e1 : (bn rB fun a p => if (!m.testBit a) = true then rt a p else er 3 (skp tx n p)) = bn r fun _ p => cV tx n bd m p := eR _ rfl
  refine ⟨vl 0 rB, h1, h2, a1, by omega, fun z => b2 (by rw [z]; decide), b1, a2.tr b3, by rw [← e1]; exact b4, fun w q e => ?_⟩
  rw [← e1] at e
  rcases rB.cs with ⟨x, y, rfl⟩ | ⟨a, p, rfl⟩
  · exact (er_rt e).elim
  · rw [bn_rt] at e
    split at e
    · obtain ⟨z1, z2⟩ := rt_in e
      rw [← z2]
      exact ⟨z1, kk a p rfl⟩
    · exact (er_rt e).elim
theorem un31 {g h : Zh} {tx : Nat → Int} {n bd m i fr cnt r1 : Nat} {α : Type} {r : PR α} (mr : MR tx n h r) (hb : 1 ≤ bd) (hb12 : bd ≤ 12) (hm : m < 2 ^ bd) (h101 : 101 ≤ r1) (gk : zK g r1 = 100) (gl : zL g r1 = 45) (hfi : fr + i < 45) : ∃ v h2, jX12_readUnlike_31 g 76 r1 (iI fr) (iI cnt) (iI bd) (iI m) (iI i) h = some (0, (iI ((m ||| 2 ^ v : Nat) : Int), (iI ((i + 1 : Nat) : Int), h2))) ∧ v < bd ∧ FR [r1] h h2 ∧ MR tx n h2 (bn (bn r fun _ p => cV tx n bd m p) (pS tx n)) ∧ (∀ w q, (bn r fun _ p => cV tx n bd m p) = rt w q → v = w) ∧ zI h2 r1 (fr + i) = iI v ∧ ∀ j, j ≠ fr + i → zI h2 r1 j = zI h r1 j := by
  obtain ⟨v, h1, h2, a1, a2, a3, a4, a5, a6, a7⟩ := cv_m mr hb hb12 hm
  have hp12 := p12 hb12
  have ebd : iI (bd : Int) - (1 : Int32) = iI ((bd - 1 : Nat) : Int) := by
    rw [show (1 : Int32) = iI 1 from rfl, iI_sub]
    exact congrArg iI (by omega)
  obtain ⟨h3, b1, b2, b3⟩ := goes_m a6 (fun a p e => by rw [(a7 a p e).2]; decide)
  have ei : iI (i : Int) + (1 : Int32) = iI ((i + 1 : Nat) : Int) := by
    rw [show (1 : Int32) = iI 1 from rfl, iI_add]; rfl
  have ef : iI (fr : Int) + iI (i : Int) = iI ((fr + i : Nat) : Int) := by
    rw [iI_add]; exact congrArg iI (by omega)
  have f3 : FR [] h h3 := a5.tr b2
  have e58 : jX12_readUnlike_58 g 76 r1 (iI fr) (iI cnt) (iI bd) (iI m) (iI i) (iI v) h2 = some (0, (iI ((m ||| 2 ^ v : Nat) : Int), (iI ((i + 1 : Nat) : Int), zsI h3 r1 (fr + i) (iI v)))) := by
    unfold jX12_readUnlike_58
    rw [b1, Option.bind_some, zlet_eq, if_pos gk, ef, if_pos (by rw [gl]; exact zin_N hfi (by decide)), clN (by omega), zlet_eq, zlet_eq, iI_one (by omega), iI_or, ei]
  refine ⟨v, zsI h3 r1 (fr + i) (iI v), ?_, a2, (f3.mono (by simp)).tr (FR.sI (by omega) _ _), b3.sI (by omega) (by omega) _ _, fun w q e => (a7 w q e).1, by rw [zI_sI, z2_at], fun j hj => by rw [zI_sI, z2_k _ _ _ hj, f3.o (by omega) (by simp)]⟩
  have hbit := si_bit1 (m := m) (c := v) (by omega) (by omega)
  unfold jX12_readUnlike_31
  rw [ebd, a1, zc2_some]
  cases c : m.testBit v
  · rw [if_neg (show ¬ (iI (m : Int) >>> (iI (v : Int) &&& 31)) &&& (1 : Int32) = (1 : Int32) from fun z => by rw [hbit.mp z] at c; cases c), ← a4 c]
    exact e58
  · rw [if_pos (show (iI (m : Int) >>> (iI (v : Int) &&& 31)) &&& (1 : Int32) = (1 : Int32) from hbit.mpr c), a3 c, Option.bind_some]
    exact e58
theorem readUnlike_m {h : Zh} {tx : Nat → Int} {n bd fr cnt r1 : Nat} {α : Type} {r : PR α} (mr : MR tx n h r) (hb : 1 ≤ bd) (hb12 : bd ≤ 12) (h101 : 101 ≤ r1) (gk : zK h r1 = 100) (gl : zL h r1 = 45) (hfi : fr + cnt ≤ 45) (hc5 : cnt ≤ 5) : ∃ h', fX12_readUnlike 76 r1 (iI fr) (iI cnt) (iI bd) h = some h' ∧ FR [r1] h h' ∧ MR tx n h' (bn r fun _ p => pC tx n bd cnt 0 0 (fun _ => 0) p) ∧ (∀ c q, (bn r fun _ p => pC tx n bd cnt 0 0 (fun _ => 0) p) = rt c q → ∀ i, i < cnt → zI h' r1 (fr + i) = iI (c i)) ∧ ∀ j, j < fr → zI h' r1 j = zI h r1 j := by
  have g76 := sK76 mr.1
  have := lp_cnt (body := fun q : Int32 × Int32 × Zh => bX12_readUnlike_6 h 76 r1 (iI fr) (iI cnt) (iI bd) q.1 q.2.1 q.2.2) cnt
    (fun i z => ∃ h1 m, z = ((iI (m : Nat), (iI (i : Nat), h1)) : Int32 × Int32 × Zh) ∧ FR [r1] h h1 ∧ (∀ j, j < fr → zI h1 r1 j = zI h r1 j) ∧ ((∃ f y, (bn r fun _ p => pC tx n bd cnt 0 0 (fun _ => 0) p) = er f y ∧ MR tx n h1 (er f y : PR Unit)) ∨ ∃ c p1, m < 2 ^ bd ∧ MR tx n h1 (rt () p1) ∧ (bn r fun _ p => pC tx n bd cnt 0 0 (fun _ => 0) p) = pC tx n bd (cnt - i) i m c p1 ∧ ∀ j, j < i → zI h1 r1 (fr + j) = iI (c j)))
    (fun e z => e = 1 ∧ FR [r1] h z.2.2 ∧ (∀ j, j < fr → zI z.2.2 r1 j = zI h r1 j) ∧ MR tx n z.2.2 (bn r fun _ p => pC tx n bd cnt 0 0 (fun _ => 0) p) ∧ ∀ c q, (bn r fun _ p => pC tx n bd cnt 0 0 (fun _ => 0) p) = rt c q → ∀ i, i < cnt → zI z.2.2 r1 (fr + i) = iI (c i))
    ?_ ?_ (by omega) (s := ((0 : Int32), ((0 : Int32), h))) ⟨h, 0, rfl, FR.rf, fun _ _ => rfl, ?_⟩
  · obtain ⟨e, ⟨z1, z2, z3⟩, l1, l2, l3, l4, l5, l6⟩ := this
    refine ⟨z3, ?_, l3, l5, l6, l4⟩
    unfold fX12_readUnlike
    rw [zlet_eq, l1]
    rfl
  · intro i z hi ⟨h1, m, ez, fr1, lo1, st⟩
    subst ez
    show (∃ s', bX12_readUnlike_6 h 76 r1 (iI fr) (iI cnt) (iI bd) (iI m) (iI i) h1 = some (0, s') ∧ _) ∨ ∃ e s', bX12_readUnlike_6 h 76 r1 (iI fr) (iI cnt) (iI bd) (iI m) (iI i) h1 = some (e + 1, s') ∧ _
    have hle : ¬ iI (cnt : Int) ≤ iI (i : Int) := by rw [iI_le ⟨by omega, by omega⟩ ⟨by omega, by omega⟩]; omega
    rcases st with ⟨f, y, eR, m1⟩ | ⟨c, p1, hm, m1, eR, cell⟩
    · obtain ⟨-, h9, -⟩ := mr_ei m1
      refine Or.inr ⟨0, (iI m, (iI i, h1)), ?_, rfl, fr1, lo1, ?_, fun c q e => ?_⟩
      · unfold bX12_readUnlike_6
        rw [if_neg hle, if_pos g76, if_pos (show zI h1 76 9 = (5 : Int32) from h9)]
      · rw [eR]; exact mr_sh m1 rfl
      · rw [eR] at e; exact (er_rt e).elim
    · obtain ⟨s1, rd, h13⟩ := mr_ri m1
      have h9 := rd.2.2.1
      have hmb := mS_b (tkK tx n p1)
      have n9 : ¬ zI h1 76 9 = (5 : Int32) := by rw [h9, show (5 : Int32) = iI 5 from rfl, iI_eq ⟨by omega, by omega⟩ ⟨by decide, by decide⟩]; omega
      have step : ∃ h2, FR [] h1 h2 ∧ MR tx n h2 (pCm tx n i p1) ∧ bX12_readUnlike_6 h 76 r1 (iI fr) (iI cnt) (iI bd) (iI m) (iI i) h1 = jX12_readUnlike_31 h 76 r1 (iI fr) (iI cnt) (iI bd) (iI m) (iI i) h2 := by
        unfold bX12_readUnlike_6 pCm
        rw [if_neg hle, if_pos g76, if_neg n9]
        by_cases ci : i = 0
        · refine ⟨h1, FR.rf, by rw [if_pos ci]; exact m1, ?_⟩
          rw [if_pos (show iI (i : Int) ≤ (0 : Int32) by rw [ci]; exact Int32.le_refl _)]
        · obtain ⟨h2, c1, c2, c3⟩ := needsS_m m1
          refine ⟨h2, c2, by rw [if_neg ci]; exact c3, ?_⟩
          rw [if_neg (show ¬ iI (i : Int) ≤ (0 : Int32) by rw [show (0 : Int32) = iI 0 from rfl, iI_le ⟨by omega, by omega⟩ ⟨by decide, by decide⟩]; omega), c1]
          rfl
      obtain ⟨h2, f2, m2, e2⟩ := step
      obtain ⟨v, h3, a1, a2, a3, a4, a5, a6, a7⟩ := un31 (g := h) (bd := bd) (m := m) (i := i) (fr := fr) (cnt := cnt) (r1 := r1) m2 hb hb12 hm h101 gk gl (by omega)
      rw [e2, a1]
      refine Or.inl ⟨_, rfl, h3, m ||| 2 ^ v, rfl, fr1.tr ((f2.mono (by simp)).tr a3), fun j hj => ?_, ?_⟩
      · rw [a7 j (by omega), f2.o (by omega) (by simp)]; exact lo1 j hj
      · obtain ⟨rr, hr⟩ : ∃ rr, cnt - i = rr + 1 := ⟨cnt - i - 1, by omega⟩
        have hr2 : cnt - (i + 1) = rr := by omega
        rw [hr] at eR
        have eR1 : (bn r fun _ p => pC tx n bd cnt 0 0 (fun _ => 0) p) = bn (pCm tx n i p1) fun _ p => bn (cV tx n bd m p) fun v p => pC tx n bd rr (i + 1) (m ||| 2 ^ v) (fun j => if j = i then v else c j) (tkN tx n p) := eR
        rw [eR1, hr2]
        rcases (pCm tx n i p1).cs with ⟨x, y, e⟩ | ⟨u, p2, e⟩
        · rw [e] at a4 ⊢
          exact Or.inl ⟨x, y, rfl, mr_sh a4 rfl⟩
        · rw [e] at a4 a5 ⊢
          rw [bn_rt] at a4 a5 ⊢
          rcases (cV tx n bd m p2).cs with ⟨x, y, e3⟩ | ⟨w, p3, e3⟩
          · rw [e3] at a4 ⊢
            exact Or.inl ⟨x, y, rfl, mr_sh a4 rfl⟩
          · have ev := a5 w p3 e3
            rw [e3] at a4 ⊢
            refine Or.inr ⟨fun j => if j = i then v else c j, tkN tx n p3, or_lt hm a2, mr_sh a4 rfl, by rw [bn_rt, ev], fun j hj => ?_⟩
            show zI h3 r1 (fr + j) = iI ((if j = i then v else c j : Nat) : Int)
            by_cases ej : j = i
            · rw [if_pos ej, ej]; exact a6
            · rw [if_neg ej, a7 _ (by omega), f2.o (by omega) (by simp)]
              exact cell j (by omega)
  · intro z ⟨h1, m, ez, fr1, lo1, st⟩
    subst ez
    refine ⟨0, (iI m, (iI cnt, h1)), ?_, rfl, fr1, lo1, ?_⟩
    · show bX12_readUnlike_6 h 76 r1 (iI fr) (iI cnt) (iI bd) (iI m) (iI cnt) h1 = _
      unfold bX12_readUnlike_6
      rw [if_pos (Int32.le_refl _)]
    · rcases st with ⟨f, y, eR, m1⟩ | ⟨c, p1, hm, m1, eR, cell⟩
      · rw [eR]
        exact ⟨mr_sh m1 rfl, fun c q e => (er_rt e).elim⟩
      · rw [eR, Nat.sub_self]
        refine ⟨mr_sh m1 rfl, fun c' q e => ?_⟩
        obtain ⟨z1, -⟩ := rt_in (show (rt c p1 : PR (Nat → Nat)) = rt c' q from e)
        rw [← z1]
        exact cell
  · rcases r.cs with ⟨x, y, rfl⟩ | ⟨a, p, rfl⟩
    · exact Or.inl ⟨x, y, rfl, mr_sh mr rfl⟩
    · exact Or.inr ⟨fun _ => 0, p, Nat.two_pow_pos _, mr_sh mr rfl, rfl, fun j hj => by omega⟩
theorem readPlaces_m {h : Zh} {tx : Nat → Int} {n bd p tr : Nat} {α : Type} {a : α} (mr : MR tx n h (rt a p)) (q : RT h tr) (t4 : zI h tr 4 = iI bd) (hb : 1 ≤ bd) (hb4 : bd ≤ 4) : ∃ w h', fX12_readPlaces 76 h = some (w, h') ∧ FR [] h h' ∧ MR tx n h' (pL tx n bd (n + 1) 0 p) ∧ ∀ m y, pL tx n bd (n + 1) 0 p = rt m y → w = iI m := by
  have g76 := sK76 mr.1
  have h101 := q.2.1
  have hp12 := p12 (bd := bd) (by omega)
  have hn := (mr_ri mr).2.1.2.1.1
  have hpn := (mr_ri mr).2.1.1
  have ebd : iI (bd : Int) - (1 : Int32) = iI ((bd - 1 : Nat) : Int) := by
    rw [show (1 : Int32) = iI 1 from rfl, iI_sub]
    exact congrArg iI (by omega)
  have term : ∀ (m : Nat) (mo : Bool) (h1 : Zh), FR [] h h1 → ((∃ f y, pL tx n bd (n + 1) 0 p = er f y ∧ MR tx n h1 (er f y : PR Unit)) ∨ (mo = false ∧ ∃ p1, pL tx n bd (n + 1) 0 p = rt m p1 ∧ MR tx n h1 (rt () p1))) → bX12_readPlaces_4 h 76 (iI m) (iI (bI mo)) h1 = some (1, (iI m, (iI (bI mo), h1))) ∧ MR tx n h1 (pL tx n bd (n + 1) 0 p) ∧ ∀ m' y, pL tx n bd (n + 1) 0 p = rt m' y → iI (m : Int) = iI m' := by
    intro m mo h1 fr st
    rcases st with ⟨f, y, eR, m1⟩ | ⟨emo, p1, eR, m1⟩
    · obtain ⟨-, h9, -⟩ := mr_ei m1
      rw [eR]
      refine ⟨?_, mr_sh m1 rfl, fun m' y e => (er_rt e).elim⟩
      unfold bX12_readPlaces_4
      cases mo
      · rw [if_pos (by decide)]
      · rw [if_neg (by decide), if_pos g76, if_pos (show zI h1 76 9 = (5 : Int32) from h9)]
    · rw [eR]
      refine ⟨?_, mr_sh m1 rfl, fun m' y e => ?_⟩
      · unfold bX12_readPlaces_4
        rw [emo, if_pos (by decide)]
      · obtain ⟨z, -⟩ := rt_in e
        rw [z]
  have := lp_cnt (body := fun q : Int32 × Int32 × Zh => bX12_readPlaces_4 h 76 q.1 q.2.1 q.2.2) (n + 2)
    (fun i z => ∃ h1 m mo, z = ((iI (m : Nat), (iI (bI mo), h1)) : Int32 × Int32 × Zh) ∧ FR [] h h1 ∧ (((∃ f y, pL tx n bd (n + 1) 0 p = er f y ∧ MR tx n h1 (er f y : PR Unit)) ∨ (mo = false ∧ ∃ p1, pL tx n bd (n + 1) 0 p = rt m p1 ∧ MR tx n h1 (rt () p1))) ∨ (mo = true ∧ m < 2 ^ bd ∧ ∃ p1 f, MR tx n h1 (rt () p1) ∧ pL tx n bd (n + 1) 0 p = pL tx n bd f m p1 ∧ i ≤ p1 ∧ n < f + p1)))
    (fun e z => e = 1 ∧ FR [] h z.2.2 ∧ MR tx n z.2.2 (pL tx n bd (n + 1) 0 p) ∧ ∀ m y, pL tx n bd (n + 1) 0 p = rt m y → z.1 = iI m)
    ?_ ?_ (by omega) (s := ((0 : Int32), ((1 : Int32), h))) ⟨h, 0, true, rfl, FR.rf, Or.inr ⟨rfl, Nat.two_pow_pos _, p, n + 1, mr_sh mr rfl, rfl, Nat.zero_le _, by omega⟩⟩
  · obtain ⟨e, ⟨z1, z2, z3⟩, l1, l2, l3, l4, l5⟩ := this
    refine ⟨z1, z3, ?_, l3, l4, l5⟩
    unfold fX12_readPlaces
    rw [zlet_eq, l1]
    rfl
  · intro i z hi ⟨h1, m, mo, ez, fr, st⟩
    subst ez
    show (∃ s', bX12_readPlaces_4 h 76 (iI m) (iI (bI mo)) h1 = some (0, s') ∧ _) ∨ ∃ e s', bX12_readPlaces_4 h 76 (iI m) (iI (bI mo)) h1 = some (e + 1, s') ∧ _
    rcases st with st | ⟨emo, hm, p1, f, m1, eR, hip, hf⟩
    · obtain ⟨a1, a2, a3⟩ := term m mo h1 fr st
      exact Or.inr ⟨0, _, a1, rfl, fr, a2, a3⟩
    · refine Or.inl ?_
      obtain ⟨s1, rd, h13⟩ := mr_ri m1
      have hp1 := rd.1
      have h9 := rd.2.2.1
      have hmb := mS_b (tkK tx n p1)
      have n9 : ¬ zI h1 76 9 = (5 : Int32) := by rw [h9, show (5 : Int32) = iI 5 from rfl, iI_eq ⟨by omega, by omega⟩ ⟨by decide, by decide⟩]; omega
      obtain ⟨v, h2, h3, a1, a2, a3, a4, a5, a6, a7⟩ := cv_m m1 hb (by omega) hm
      obtain ⟨h4, b1, b2, b3⟩ := goes_m a6 (fun a p e => by rw [(a7 a p e).2]; decide)
      obtain ⟨h5, c1, c2, c3⟩ := eatsS_m (c := 44) (k := 4) b3 (Or.inr ⟨rfl, rfl⟩)
      obtain ⟨f', rfl⟩ : ∃ f', f = f' + 1 := ⟨f - 1, by omega⟩
      have eR1 : pL tx n bd (n + 1) 0 p = bn (cV tx n bd m p1) fun v p => if tkK tx n (tkN tx n p) = 4 then pL tx n bd f' (m ||| 2 ^ v) (tkN tx n (tkN tx n p)) else rt (m ||| 2 ^ v) (tkN tx n p) := eR
      have e45 : jX12_readPlaces_45 h 76 (iI m) (iI v) h3 = some (0, (iI ((m ||| 2 ^ v : Nat) : Int), (iI (bI (esB tx n 4 (bn (bn (rt () p1) fun _ p => cV tx n bd m p) (pS tx n)))), h5))) := by
        unfold jX12_readPlaces_45
        rw [b1, Option.bind_some, zlet_eq, show fX12_eatsSign 76 (44 : Int32) h4 = _ from c1, zc2_some, iI_one (by omega), iI_or]
      have hbit := si_bit1 (m := m) (c := v) (by omega) (by omega)
      have eB : bX12_readPlaces_4 h 76 (iI m) (iI (bI mo)) h1 = some (0, (iI ((m ||| 2 ^ v : Nat) : Int), (iI (bI (esB tx n 4 (bn (bn (rt () p1) fun _ p => cV tx n bd m p) (pS tx n)))), h5))) := by
        unfold bX12_readPlaces_4
        rw [emo, if_neg (by decide), if_pos g76, if_neg n9, fr.R, q.1, Option.bind_some, if_pos q.2.2.1, fr.o (by omega) (by simp), t4, ebd, a1, zc2_some]
        cases c : m.testBit v
        · rw [if_neg (show ¬ (iI (m : Int) >>> (iI (v : Int) &&& 31)) &&& (1 : Int32) = (1 : Int32) from fun z => by rw [hbit.mp z] at c; cases c), ← a4 c]
          exact e45
        · rw [if_pos (show (iI (m : Int) >>> (iI (v : Int) &&& 31)) &&& (1 : Int32) = (1 : Int32) from hbit.mpr c), a3 c, Option.bind_some]
          exact e45
      rw [eB]
      refine ⟨_, rfl, h5, m ||| 2 ^ v, _, rfl, fr.tr (a5.tr (b2.tr c2)), ?_⟩
      rw [eR1]
      rw [bn_rt] at c3 a7 ⊢
      rcases (cV tx n bd m p1).cs with ⟨x, y, e⟩ | ⟨w, p2, e⟩
      · rw [e] at c3 ⊢
        exact Or.inl (Or.inl ⟨x, y, rfl, mr_sh c3 rfl⟩)
      · obtain ⟨ev, -⟩ := a7 w p2 e
        have ep : p2 = p1 := by
          unfold cV at e
          rcases (cN tx n 0 (bd - 1) p1).cs with ⟨x, y, e'⟩ | ⟨w', p', e'⟩
          · rw [e'] at e; exact (er_rt e).elim
          · obtain ⟨z1, -⟩ := cN_p w' p' e'
            rw [e', bn_rt] at e
            split at e
            · exact (er_rt e).elim
            · obtain ⟨-, z2⟩ := rt_in e
              rw [← z2, z1]
        subst ep ev
        rw [e] at c3 ⊢
        have c3' : MR tx n h5 (rt v (if tkK tx n (tkN tx n p2) = 4 then tkN tx n (tkN tx n p2) else tkN tx n p2) : PR Nat) := c3
        show ((∃ f y, (if tkK tx n (tkN tx n p2) = 4 then pL tx n bd f' (m ||| 2 ^ v) (tkN tx n (tkN tx n p2)) else rt (m ||| 2 ^ v) (tkN tx n p2)) = er f y ∧ _) ∨ (decide (tkK tx n (tkN tx n p2) = 4) = false ∧ ∃ y, (if tkK tx n (tkN tx n p2) = 4 then pL tx n bd f' (m ||| 2 ^ v) (tkN tx n (tkN tx n p2)) else rt (m ||| 2 ^ v) (tkN tx n p2)) = rt (m ||| 2 ^ v) y ∧ MR tx n h5 (rt () y))) ∨ (decide (tkK tx n (tkN tx n p2) = 4) = true ∧ m ||| 2 ^ v < 2 ^ bd ∧ ∃ y f, MR tx n h5 (rt () y) ∧ (if tkK tx n (tkN tx n p2) = 4 then pL tx n bd f' (m ||| 2 ^ v) (tkN tx n (tkN tx n p2)) else rt (m ||| 2 ^ v) (tkN tx n p2)) = pL tx n bd f (m ||| 2 ^ v) y ∧ i + 1 ≤ y ∧ n < f + y)
        have hx := nx_b tx hp1
        by_cases c4 : tkK tx n (tkN tx n p2) = 4
        · rw [if_pos c4] at c3' ⊢
          have hb2 := sgn_N (Or.inr c4)
          have hb3 := skp_b tx hx.2
          exact Or.inr ⟨decide_eq_true c4, or_lt hm (by omega), _, f', mr_sh c3' rfl, rfl, by omega, by omega⟩
        · rw [if_neg c4] at c3' ⊢
          exact Or.inl (Or.inr ⟨decide_eq_false c4, _, rfl, mr_sh c3' rfl⟩)
  · intro z ⟨h1, m, mo, ez, fr, st⟩
    subst ez
    rcases st with st | ⟨emo, hm, p1, f, m1, eR, hip, hf⟩
    · obtain ⟨a1, a2, a3⟩ := term m mo h1 fr st
      exact ⟨0, _, a1, rfl, fr, a2, a3⟩
    · have := (mr_ri m1).2.1.1
      omega
