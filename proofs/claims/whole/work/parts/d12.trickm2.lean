/-! the model's reader: the trick's line, all of it -/
def tlA (tx : Nat → Int) (n c u k p : Nat) : PR Tk := bn (pQ tx n 4 1 (min (k - 1) 2) p) fun e p => bn (pWy tx n c k p) fun w p => rt (c, u, k, e, w.1, w.2.1, w.2.2) p
theorem tr89 {g h : Zh} {tx : Nat → Int} {n tr v1 v2 v3 : Nat} {α : Type} {r : PR α} {hi : Int32} (m : MR tx n h r) (q : RT h tr) (gk : zK g tr = 11) (g76 : zK g 76 = 12) (h12 : v1 ≤ 12) (h2 : 2 ≤ v3) (h5 : v3 ≤ 5) (h31 : v3 ≤ v1) (ehi : hi = iI ((min (v3 - 1) 2 : Nat) : Int)) : ∃ h', jX12_readTrick_89 g 76 (iI v1) (iI v2) (iI v3) hi (1 : Int32) 4 76 h = some h' ∧ FR [tr] h h' ∧ MR tx n h' (bn r fun _ p => tlA tx n v1 v2 v3 p) ∧ TrG h h' tr (bn r fun _ p => tlA tx n v1 v2 v3 p) := by
  have n76 : tr ≠ 76 := by have := q.2.1; omega
  obtain ⟨hA, a1, a2, a3⟩ := readPart_m (s := 4) (lo := 1) (hi := min (v3 - 1) 2) m (by decide) (by decide) (by omega)
  have hv := vl_pQ (tx := tx) (n := n) (s := 4) (lo := 1) (hi := min (v3 - 1) 2) (r := r) (by omega)
  have eX : ∀ F : PR Nat → PR Tk, (∀ f y, F (er f y) = er f y) → (∀ e p, F (rt e p) = bn (pWy tx n v1 v3 p) fun w p => rt (v1, v2, v3, e, w.1, w.2.1, w.2.2) p) → F (bn r fun _ p => pQ tx n 4 1 (min (v3 - 1) 2) p) = bn r fun _ p => tlA tx n v1 v2 v3 p := by
    intro F h1 h2
    rcases r.cs with ⟨x, y, rfl⟩ | ⟨a, p, rfl⟩
    · exact h1 x y
    · simp only [bn_rt]
      unfold tlA
      rcases (pQ tx n 4 1 (min (v3 - 1) 2) p).cs with ⟨x, y, e⟩ | ⟨e1, p1, e⟩
      · rw [e, h1, bn_er]
      · rw [e, h2, bn_rt]
  generalize bn r (fun _ p => pQ tx n 4 1 (min (v3 - 1) 2) p) = rX at *
  have e6 := isWord_m (s := 6) a3 (by decide)
  have e5 := isWord_m (s := 5) a3 (by decide)
  have oA : ∀ j, zI hA tr j = zI h tr j := fun j => a2.o n76 (by simp) j
  obtain ⟨hB, c1, c2, c3, c4⟩ := cf_m a3 1 (C := ewB tx n 6 rX = true ∨ ewB tx n 5 rX = true) (fun _ p => isw tx n p 6 || isw tx n p 5) (fun a p e => by rw [e, Bool.or_eq_true_iff]; exact Iff.rfl)
  have oB : ∀ j, zI hB tr j = zI h tr j := fun j => (c3.o n76 (by simp) j).trans (oA j)
  obtain ⟨h', d1, d2, d3, d4⟩ := tr117 (g := g) (v1 := v1) (v2 := v2) (v3 := v3) (v4 := vl 1 rX) c4 (fun a p e => by
    rcases rX.cs with ⟨x, y, rfl⟩ | ⟨a', p', rfl⟩
    · exact (er_rt e).elim
    · rw [bn_rt] at e
      split at e
      · rename_i hw
        obtain ⟨-, e2⟩ := rt_in e
        rw [← e2]
        rcases Bool.or_eq_true_iff.mp hw with z | z
        · rw [isw_1 z]; decide
        · rw [isw_1 z]; decide
      · exact (er_rt e).elim) ((q.fj a2.1).fj c3.1) gk (by omega) h12 h5 h31
  have eR := eX (fun rX => bn (bn rX fun a p => if (isw tx n p 6 || isw tx n p 5) = true then rt a p else er 1 (skp tx n p)) fun _ p => bn (bn (if hnd v1 v3 (!isw tx n p 5) ≤ 2000 then rt (isw tx n p 5) p else er 7 (skp tx n p)) (pS tx n)) fun st p => bn (pX tx n st p) fun w p => rt (v1, v2, v3, vl 1 rX, st, w.1, w.2) p) (fun f y => rfl) (fun e p => by
    simp only [bn_rt, vl_rt]
    unfold pWy cW
    cases h5 : isw tx n p 5
    · cases h6 : isw tx n p 6
      · rfl
      · simp only [h5, h6, bn_as, bn_rt, Bool.or_false, Bool.or_true, if_true, or_true, false_or, or_false]
    · simp only [h5, bn_as, bn_rt, Bool.or_true, if_true, true_or])
  refine ⟨h', ?_, (a2.mono (by simp)).tr ((c3.mono (by simp)).tr d2), by rw [← eR]; exact d3, d4.st (fun j _ => oB j) eR⟩
  unfold jX12_readTrick_89
  rw [if_pos g76, ehi, show fX12_readPart 76 4 (1 : Int32) (iI ((min (v3 - 1) 2 : Nat) : Int)) h = _ from a1, zc2_some, e6, zc2_some]
  cases h6 : ewB tx n 6 rX
  · rw [if_pos (by decide), e5, zc2_some]
    cases h5' : ewB tx n 5 rX
    · rw [if_pos (by decide), show fX12_flaw 76 (1 : Int32) hA = some hB from c2 (by rw [h6, h5']; simp), Option.bind_some]
      exact d1
    · rw [if_neg (by decide), ← c1 (Or.inr h5')]
      exact d1
  · rw [if_neg (by decide), ← c1 (Or.inl h6)]
    exact d1
def tlB (tx : Nat → Int) (n c u p : Nat) : PR Tk := bn (pQ tx n 3 2 (min c 5) p) fun k p => tlA tx n c u k p
theorem tr71 {g h : Zh} {tx : Nat → Int} {n tr v1 v2 : Nat} {α : Type} {r : PR α} {hi : Int32} (m : MR tx n h r) (q : RT h tr) (gk : zK g tr = 11) (g76 : zK g 76 = 12) (h4 : 4 ≤ v1) (h12 : v1 ≤ 12) (ehi : hi = iI ((min v1 5 : Nat) : Int)) : ∃ h', jX12_readTrick_71 g 76 (iI v1) (iI v2) hi (2 : Int32) 3 76 h = some h' ∧ FR [tr] h h' ∧ MR tx n h' (bn r fun _ p => tlB tx n v1 v2 p) ∧ TrG h h' tr (bn r fun _ p => tlB tx n v1 v2 p) := by
  have n76 : tr ≠ 76 := by have := q.2.1; omega
  obtain ⟨hA, a1, a2, a3⟩ := readPart_m (s := 3) (lo := 2) (hi := min v1 5) m (by decide) (by decide) (by omega)
  have hv := vl_pQ (tx := tx) (n := n) (s := 3) (lo := 2) (hi := min v1 5) (r := r) (by omega)
  have oA : ∀ j, zI hA tr j = zI h tr j := fun j => a2.o n76 (by simp) j
  have eR : (bn (bn r fun _ p => pQ tx n 3 2 (min v1 5) p) fun _ p => tlA tx n v1 v2 (vl 2 (bn r fun _ p => pQ tx n 3 2 (min v1 5) p)) p) = bn r fun _ p => tlB tx n v1 v2 p := by
    rcases r.cs with ⟨x, y, rfl⟩ | ⟨a, p, rfl⟩
    · rfl
    · simp only [bn_rt]
      unfold tlB
      rcases (pQ tx n 3 2 (min v1 5) p).cs with ⟨x, y, e⟩ | ⟨e1, p1, e⟩
      · rw [e]; rfl
      · rw [e]; rfl
  generalize hX : vl 2 (bn r fun _ p => pQ tx n 3 2 (min v1 5) p) = v3 at *
  have key : ∀ hi2 : Int32, hi2 = iI ((min (v3 - 1) 2 : Nat) : Int) → ∃ h', jX12_readTrick_89 g 76 (iI v1) (iI v2) (iI v3) hi2 (1 : Int32) 4 76 hA = some h' ∧ FR [tr] h h' ∧ MR tx n h' (bn r fun _ p => tlB tx n v1 v2 p) ∧ TrG h h' tr (bn r fun _ p => tlB tx n v1 v2 p) := by
    intro hi2 e2
    obtain ⟨h', d1, d2, d3, d4⟩ := tr89 (g := g) (v1 := v1) (v2 := v2) (v3 := v3) a3 (q.fj a2.1) gk g76 h12 (by omega) (by omega) (by omega) e2
    exact ⟨h', d1, (a2.mono (by simp)).tr d2, by rw [← eR]; exact d3, d4.st (fun j _ => oA j) eR⟩
  unfold jX12_readTrick_71
  rw [if_pos g76, ehi, show fX12_readPart 76 3 (2 : Int32) (iI ((min v1 5 : Nat) : Int)) h = _ from a1, zc2_some]
  by_cases c : v3 ≤ 2
  · rw [if_pos (by rw [show (2 : Int32) = iI 2 from rfl, iI_le ⟨by omega, by omega⟩ ⟨by decide, by decide⟩]; omega)]
    exact key _ (by rw [show min (v3 - 1) 2 = 1 by omega]; rfl)
  · rw [if_neg (by rw [show (2 : Int32) = iI 2 from rfl, iI_le ⟨by omega, by omega⟩ ⟨by decide, by decide⟩]; omega)]
    exact key _ (by rw [show min (v3 - 1) 2 = 2 by omega]; rfl)
theorem tr53 {g h : Zh} {tx : Nat → Int} {n tr v1 v2 : Nat} {α : Type} {r : PR α} (m : MR tx n h r) (hk : ∀ a p, r = rt a p → tkK tx n p ≠ 5) (q : RT h tr) (gk : zK g tr = 11) (g76 : zK g 76 = 12) (h4 : 4 ≤ v1) (h12 : v1 ≤ 12) : ∃ h', jX12_readTrick_53 g 76 (iI v1) (iI v2) h = some h' ∧ FR [tr] h h' ∧ MR tx n h' (bn (bn r (pS tx n)) fun _ p => tlB tx n v1 v2 p) ∧ TrG h h' tr (bn (bn r (pS tx n)) fun _ p => tlB tx n v1 v2 p) := by
  have n76 : tr ≠ 76 := by have := q.2.1; omega
  obtain ⟨hA, a1, a2, a3⟩ := goes_m m hk
  have oA : ∀ j, zI hA tr j = zI h tr j := fun j => a2.o n76 (by simp) j
  have key : ∀ hi2 : Int32, hi2 = iI ((min v1 5 : Nat) : Int) → ∃ h', jX12_readTrick_71 g 76 (iI v1) (iI v2) hi2 (2 : Int32) 3 76 hA = some h' ∧ FR [tr] h h' ∧ MR tx n h' (bn (bn r (pS tx n)) fun _ p => tlB tx n v1 v2 p) ∧ TrG h h' tr (bn (bn r (pS tx n)) fun _ p => tlB tx n v1 v2 p) := by
    intro hi2 e2
    obtain ⟨h', d1, d2, d3, d4⟩ := tr71 (g := g) (v1 := v1) (v2 := v2) a3 (q.fj a2.1) gk g76 h4 h12 e2
    exact ⟨h', d1, (a2.mono (by simp)).tr d2, d3, d4.st (fun j _ => oA j) rfl⟩
  unfold jX12_readTrick_53
  rw [a1, Option.bind_some]
  by_cases c : 5 ≤ v1
  · rw [if_pos (by rw [show (5 : Int32) = iI 5 from rfl, iI_le ⟨by decide, by decide⟩ ⟨by omega, by omega⟩]; omega)]
    exact key _ (by rw [show min v1 5 = 5 by omega]; rfl)
  · rw [if_neg (by rw [show (5 : Int32) = iI 5 from rfl, iI_le ⟨by decide, by decide⟩ ⟨by omega, by omega⟩]; omega)]
    exact key _ (by rw [show min v1 5 = v1 by omega])
def tlC (tx : Nat → Int) (n p : Nat) : PR Tk := bn (pQ tx n 1 4 12 p) fun c p => bn (pU tx n c p) fun u p => tlB tx n c u p
theorem tr15 {g h : Zh} {tx : Nat → Int} {n tr : Nat} {α : Type} {r : PR α} (m : MR tx n h r) (hk : ∀ a p, r = rt a p → tkK tx n p ≠ 5) (q : RT h tr) (gk : zK g tr = 11) (g76 : zK g 76 = 12) : ∃ h', jX12_readTrick_15 g 76 h = some h' ∧ FR [tr] h h' ∧ MR tx n h' (bn (bn r (pS tx n)) fun _ p => tlC tx n p) ∧ TrG h h' tr (bn (bn r (pS tx n)) fun _ p => tlC tx n p) := by
  have n76 : tr ≠ 76 := by have := q.2.1; omega
  obtain ⟨hA, a1, a2, a3⟩ := goes_m m hk
  generalize bn r (pS tx n) = r1 at *
  obtain ⟨hB, b1, b2, b3⟩ := readPart_m (s := 1) (lo := 4) (hi := 12) a3 (by decide) (by decide) (by decide)
  have hv := vl_pQ (tx := tx) (n := n) (s := 1) (lo := 4) (hi := 12) (r := r1) (by omega)
  obtain ⟨hC, c1, c2, c3⟩ := needs_m (s := 2) b3 (by decide)
  obtain ⟨hD, d1, d2, d3⟩ := bounded_m (lo := 1) (hi := 4) c3 (by decide) (by decide)
  have hu := vl_cN (tx := tx) (n := n) (lo := 1) (hi := 4) (r := bn (bn r1 fun _ p => pQ tx n 1 4 12 p) fun _ p => pP tx n 2 p) (by omega)
  have eX : ∀ F : PR Nat → Nat → PR Tk, (∀ f y c, F (er f y) c = er f y) → (∀ u p c, F (rt u p) c = bn (bn (if c % u = 0 then rt u p else er 4 (skp tx n p)) (pS tx n)) fun _ p => tlB tx n c u p) → F (bn (bn (bn r1 fun _ p => pQ tx n 1 4 12 p) fun _ p => pP tx n 2 p) fun _ p => cN tx n 1 4 p) (vl 4 (bn r1 fun _ p => pQ tx n 1 4 12 p)) = bn r1 fun _ p => tlC tx n p := by
    intro F h1 h2
    rcases r1.cs with ⟨x, y, rfl⟩ | ⟨a, p, rfl⟩
    · exact h1 x y _
    · simp only [bn_rt]
      unfold tlC
      rcases (pQ tx n 1 4 12 p).cs with ⟨x, y, e⟩ | ⟨v, p1, e⟩
      · rw [e]; exact h1 x y _
      · rw [e]
        simp only [bn_rt, vl_rt]
        unfold pU cU
        rcases (pP tx n 2 p1).cs with ⟨x, y, e⟩ | ⟨u0, p2, e⟩
        · rw [e]; exact h1 x y _
        · rw [e]
          simp only [bn_rt]
          rcases (cN tx n 1 4 p2).cs with ⟨x, y, e⟩ | ⟨u, p3, e⟩
          · rw [e]; exact h1 x y _
          · rw [e, h2]
            simp only [bn_rt]
            split <;> rfl
  have hkD : ∀ v p, (bn (bn (bn r1 fun _ p => pQ tx n 1 4 12 p) fun _ p => pP tx n 2 p) fun _ p => cN tx n 1 4 p) = rt v p → tkK tx n p = 2 := fun v p e => (cN_k e).1
  generalize bn (bn (bn r1 fun _ p => pQ tx n 1 4 12 p) fun _ p => pP tx n 2 p) (fun _ p => cN tx n 1 4 p) = rD at *
  generalize vl 4 (bn r1 fun _ p => pQ tx n 1 4 12 p) = v1 at *
  have hr := si_remN (a := v1) (b := vl 1 rD) (by omega) (by omega) (by omega)
  have hlt : v1 % vl 1 rD < vl 1 rD := Nat.mod_lt _ (by omega)
  have hcv : ¬ iI ((vl 1 rD : Nat) : Int) = 0 := by rw [show (0 : Int32) = iI 0 from rfl, iI_eq ⟨by omega, by omega⟩ ⟨by decide, by decide⟩]; omega
  have hz : (iI ((v1 % vl 1 rD : Nat) : Int) = 0) ↔ v1 % vl 1 rD = 0 := by rw [show (0 : Int32) = iI 0 from rfl, iI_eq ⟨by omega, by omega⟩ ⟨by decide, by decide⟩]; omega
  obtain ⟨hE, e1, e2, e3, e4⟩ := cf_m d3 4 (C := v1 % vl 1 rD = 0) (fun u _ => decide (v1 % u = 0)) (fun a p e => by rw [e, decide_eq_true_iff]; exact Iff.rfl)
  have oE : ∀ j, zI hE tr j = zI h tr j := fun j => by rw [e3.o n76 (by simp), d2.o n76 (by simp), c2.o n76 (by simp), b2.o n76 (by simp), a2.o n76 (by simp)]
  obtain ⟨h', g1, g2, g3, g4⟩ := tr53 (g := g) (v1 := v1) (v2 := vl 1 rD) e4 (fun a p e => by
    rcases rD.cs with ⟨x, y, rfl⟩ | ⟨a', p', rfl⟩
    · exact (er_rt e).elim
    · rw [bn_rt] at e
      split at e
      · obtain ⟨-, e2⟩ := rt_in e
        rw [← e2, hkD a' p' rfl]; decide
      · exact (er_rt e).elim) (((((q.fj a2.1).fj b2.1).fj c2.1).fj d2.1).fj e3.1) gk g76 (by omega) (by omega)
  have eR := eX (fun rD v1 => bn (bn (bn rD fun a p => if decide (v1 % a = 0) = true then rt a p else er 4 (skp tx n p)) (pS tx n)) fun _ p => tlB tx n v1 (vl 1 rD) p) (fun f y c => rfl) (fun u p c => by
    simp only [bn_rt, vl_rt, decide_eq_true_iff])
  refine ⟨h', ?_, ((a2.tr (b2.tr (c2.tr (d2.tr e3)))).mono (by simp)).tr g2, by rw [← eR]; exact g3, g4.st (fun j _ => oE j) eR⟩
  unfold jX12_readTrick_15
  rw [a1, Option.bind_some, show fX12_readPart 76 1 (4 : Int32) (12 : Int32) hA = _ from b1, zc2_some, c1, Option.bind_some, show fX12_bounded 76 (1 : Int32) (4 : Int32) hC = _ from d1, zc2_some, if_pos hcv, hr]
  by_cases c : v1 % vl 1 rD = 0
  · rw [if_pos (hz.mpr c), ← e1 c]
    exact g1
  · rw [if_neg (fun z => c (hz.mp z)), show fX12_flaw 76 (4 : Int32) hD = some hE from e2 c, Option.bind_some]
    exact g1
theorem readTrick_m {h : Zh} {tx : Nat → Int} {n p tr : Nat} {S : PS} (m : MR tx n h (rt () p)) (hw : isw tx n p 0 = true) (q : RT h tr) (h0 : Pbg S = false → zI h tr 0 = iI 0) (h1 : Pbg S = true → Tr h tr (Ptk S) ∧ Tok (Ptk S)) : ∃ h', fX12_readTrick 76 h = some h' ∧ FR [tr] h h' ∧ MR tx n h' (pD tx n S p) ∧ (∀ S' y, pD tx n S p = rt S' y → Tr h' tr (Ptk S')) ∧ ∀ j, j = 5 ∨ j = 6 → zI h' tr j = zI h tr j := by
  have n76 : tr ≠ 76 := by have := q.2.1; omega
  have g76 := sK76 m.1
  have hC : zI h tr 0 ≤ (0 : Int32) ↔ (!Pbg S) = true := by
    cases e : Pbg S
    · rw [h0 e]; exact iff_of_true (by decide) rfl
    · obtain ⟨t1, tok⟩ := h1 e
      obtain ⟨bn4, bn12, bu1, bu4, bnu, bk2, bk5, bkn, bp1, bp2, bpk, bH, bsp, bs1, bs4, bT1, bT16, bR1, bR2, bH1, bff, bff1⟩ := tok.b
      rw [t1.2.1]
      refine iff_of_false ?_ (by decide)
      rw [show (0 : Int32) = iI 0 from rfl, iI_le ⟨by omega, by omega⟩ ⟨by decide, by decide⟩]
      omega
  obtain ⟨hA, a1, a2, a3, a4⟩ := cf_m m 3 (C := zI h tr 0 ≤ (0 : Int32)) (fun _ _ => !Pbg S) (fun _ _ _ => hC)
  obtain ⟨h', b1, b2, b3, b4⟩ := tr15 (g := h) a4 (fun a y e => by
    rw [bn_rt] at e
    split at e
    · obtain ⟨-, e2⟩ := rt_in e
      rw [← e2, isw_1 hw]; decide
    · exact (er_rt e).elim) (q.fj a3.1) q.2.2.1 g76
  have eR : sh (bn (bn (bn (rt () p) fun a p => if (!Pbg S) = true then rt a p else er 3 (skp tx n p)) (pS tx n)) fun _ p => tlC tx n p) = sh (pD tx n S p) ∧ ∀ S' y, pD tx n S p = rt S' y → (bn (bn (bn (rt () p) fun a p => if (!Pbg S) = true then rt a p else er 3 (skp tx n p)) (pS tx n)) fun _ p => tlC tx n p) = rt (Ptk S') y := by
    cases e : Pbg S
    · have e1 : (bn (bn (bn (rt () p) fun a p => if (!false) = true then rt a p else er 3 (skp tx n p)) (pS tx n)) fun _ p => tlC tx n p) = tlC tx n (tkN tx n p) := rfl
      have e2 : pD tx n S p = bn (tlC tx n (tkN tx n p)) fun t p => rt (setT S t) p := by
        rw [pD_eq e]
        unfold tlC tlB tlA
        simp only [bn_as, bn_rt]
      rw [e1, e2]
      rcases (tlC tx n (tkN tx n p)).cs with ⟨x, y, e⟩ | ⟨t, y, e⟩
      · rw [e]
        exact ⟨rfl, fun S' y z => (er_rt z).elim⟩
      · rw [e]
        refine ⟨rfl, fun S' y' z => ?_⟩
        obtain ⟨z1, z2⟩ := rt_in (show (rt (setT S t) y : PR PS) = rt S' y' from z)
        rw [← z1, ← z2]
        rfl
    · unfold pD
      rw [e, if_pos rfl]
      exact ⟨rfl, fun S' y z => (er_rt z).elim⟩
  refine ⟨h', ?_, (a3.mono (by simp)).tr b2, mr_sh b3 eR.1, fun S' y e => b4.1 _ _ (eR.2 S' y e), fun j hj => (b4.2 j hj).trans (a3.o n76 (by simp) j)⟩
  unfold fX12_readTrick
  rw [zlet_eq, if_pos g76, q.1, Option.bind_some, if_pos q.2.2.1]
  by_cases c : zI h tr 0 ≤ (0 : Int32)
  · rw [if_pos c, ← a1 c]
    exact a1 c ▸ b1
  · rw [if_neg c, show fX12_flaw 76 (3 : Int32) h = some hA from a2 c, Option.bind_some]
    exact b1
