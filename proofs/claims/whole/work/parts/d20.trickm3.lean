/-! a trick is told: what the model does beside the reading -/
def Ez {α : Type} (r : PR α) : Prop := ∀ f q, r = er f q → 1 ≤ f ∧ f ≤ 7
theorem ez_rt {α : Type} {a : α} {p : Nat} : Ez (rt a p) := fun _ _ h => (rt_er h).elim
theorem ez_er {α : Type} {f q : Nat} (h : 1 ≤ f ∧ f ≤ 7) : Ez (er f q : PR α) := fun g y e => by
  obtain ⟨e1, -⟩ := er_in e
  rw [← e1]; exact h
theorem ez_bn {α β : Type} {r : PR α} {k : α → Nat → PR β} (h : Ez r) (hk : ∀ a q, Ez (k a q)) : Ez (bn r k) := by
  rcases r.cs with ⟨f, q, e⟩ | ⟨a, p, e⟩
  · rw [e, bn_er]
    rw [e] at h
    exact ez_er (h f q rfl)
  · rw [e, bn_rt]; exact hk a p
theorem ez_ite {α : Type} {c : Prop} [Decidable c] {r s : PR α} (h1 : Ez r) (h2 : Ez s) : Ez (if c then r else s) := by
  by_cases q : c
  · rw [if_pos q]; exact h1
  · rw [if_neg q]; exact h2
theorem ez_pP {tx : Nat → Int} {n s p : Nat} : Ez (pP tx n s p) := ez_ite ez_rt (ez_er (by decide))
theorem ez_cN {tx : Nat → Int} {n lo hi p : Nat} : Ez (cN tx n lo hi p) := ez_ite (ez_ite ez_rt (ez_er (by decide))) (ez_er (by decide))
theorem ez_pQ {tx : Nat → Int} {n s lo hi p : Nat} : Ez (pQ tx n s lo hi p) := ez_bn ez_pP fun _ _ => ez_bn ez_cN fun _ _ => ez_rt
theorem ez_pU {tx : Nat → Int} {n c p : Nat} : Ez (pU tx n c p) := ez_bn ez_pP fun _ _ => ez_bn (ez_bn ez_cN fun _ _ => ez_ite ez_rt (ez_er (by decide))) fun _ _ => ez_rt
theorem ez_pD {tx : Nat → Int} {n : Nat} {S : PS} {p : Nat} : Ez (pD tx n S p) := by
  unfold pD pT
  refine ez_ite (ez_er (by decide)) (ez_bn (ez_bn ez_pQ fun _ _ => ez_bn ez_pU fun _ _ => ez_bn ez_pQ fun _ _ => ez_bn ez_pQ fun _ _ => ez_bn (ez_bn ?_ fun _ _ => ez_rt) fun _ _ => ez_bn ez_rt fun _ _ => ez_rt) fun _ _ => ez_rt)
  exact ez_ite (ez_ite ez_rt (ez_er (by decide))) (ez_er (by decide))
theorem ez_cB {tx : Nat → Int} {n : Nat} {S : PS} {a b p : Nat} : Ez (cB tx n S a b p) := ez_ite (ez_ite ez_rt (ez_er (by decide))) (ez_er (by decide))
theorem ez_pO {tx : Nat → Int} {n p : Nat} {o : Option Nat} : Ez (pO tx n o p) := by
  cases o with
  | none => exact ez_er (by decide)
  | some k => exact ez_rt
theorem ez_pK {tx : Nat → Int} {n p : Nat} : Ez (pK tx n p) := ez_ite ez_rt (ez_ite ez_rt (ez_bn ez_pP fun _ _ => ez_bn ez_pO fun _ _ => ez_bn ez_pP fun _ _ => ez_bn ez_pO fun _ _ => ez_rt))
theorem ez_pR {tx : Nat → Int} {n : Nat} {S : PS} {p : Nat} : Ez (pR tx n S p) := ez_bn (ez_bn ez_cB fun _ _ => ez_rt) fun _ _ => ez_bn (ez_ite (ez_ite (ez_er (by decide)) ez_rt) (ez_er (by decide))) fun _ _ => ez_bn ez_pK fun _ _ => ez_rt
theorem ez_cV {tx : Nat → Int} {n bd m p : Nat} : Ez (cV tx n bd m p) := ez_bn ez_cN fun _ _ => ez_ite (ez_er (by decide)) ez_rt
theorem ez_pC {tx : Nat → Int} {n bd : Nat} : ∀ (r i m : Nat) (c : Nat → Nat) (p : Nat), Ez (pC tx n bd r i m c p)
  | 0, _, _, _, _ => ez_rt
  | r + 1, i, m, c, p => ez_bn (ez_ite ez_rt (ez_ite ez_rt (ez_er (by decide)))) fun _ _ => ez_bn ez_cV fun _ _ => ez_pC r _ _ _ _
theorem ez_pL {tx : Nat → Int} {n bd : Nat} : ∀ (f m p : Nat), Ez (pL tx n bd f m p)
  | 0, _, _ => ez_er (by decide)
  | f + 1, m, p => ez_bn ez_cV fun _ _ => ez_ite (ez_pL f _ _) ez_rt
theorem ez_pE {tx : Nat → Int} {n : Nat} {S : PS} {p : Nat} : Ez (pE tx n S p) := ez_bn (ez_bn ez_cB fun _ _ => ez_rt) fun _ _ => ez_bn (ez_pC _ _ _ _ _) fun _ _ => ez_bn ez_pP fun _ _ => ez_bn (ez_pC _ _ _ _ _) fun _ _ => ez_bn (ez_ite (ez_pL _ _ _) ez_rt) fun _ _ => ez_rt
theorem ez_pG {tx : Nat → Int} {n : Nat} {S : PS} {p : Nat} : Ez (pG tx n S p) := ez_ite ez_pD (ez_ite ez_pR (ez_ite ez_pE (ez_er (by decide))))
theorem ez_pA {tx : Nat → Int} {n : Nat} : ∀ (f : Nat) (S : PS) (p : Nat), Ez (pA tx n f S p)
  | 0, _, _ => ez_er (by decide)
  | f + 1, S, p => ez_bn ez_pG fun _ _ => ez_ite ez_rt (ez_ite (ez_pA f _ _) (ez_er (by decide)))
def nwr (h : Zh) (kd len tr j : Nat) : Zh := zsR (znw h kd len len) tr j (some (zN h))
theorem nwr_K {h : Zh} {kd len tr j i : Nat} (hi : i ≠ zN h) : zK (nwr h kd len tr j) i = zK h i := by
  show z1 (zK h) (zN h) kd i = zK h i
  rw [z1_ne _ _ hi]
theorem nwr_L {h : Zh} {kd len tr j i : Nat} (hi : i ≠ zN h) : zL (nwr h kd len tr j) i = zL h i := by
  show z1 (zL h) (zN h) len i = zL h i
  rw [z1_ne _ _ hi]
theorem nwr_Kn {h : Zh} {kd len tr j : Nat} : zK (nwr h kd len tr j) (zN h) = kd := by
  show z1 (zK h) (zN h) kd (zN h) = kd
  rw [z1_self]
theorem nwr_Ln {h : Zh} {kd len tr j : Nat} : zL (nwr h kd len tr j) (zN h) = len := by
  show z1 (zL h) (zN h) len (zN h) = len
  rw [z1_self]
theorem nwr_R {h : Zh} {kd len tr j : Nat} : zR (nwr h kd len tr j) tr j = some (zN h) := by
  show z2 (z1 (zR h) (zN h) (fun _ => none)) tr j (some (zN h)) tr j = _
  rw [z2_at]
theorem nwr_Rj {h : Zh} {kd len tr j k : Nat} (ht : tr ≠ zN h) (hk : k ≠ j) : zR (nwr h kd len tr j) tr k = zR h tr k := by
  show z2 (z1 (zR h) (zN h) (fun _ => none)) tr j (some (zN h)) tr k = _
  rw [z2_k _ _ _ hk, z1_ne _ _ ht]
theorem nwr_I {h : Zh} {kd len tr j i : Nat} (hi : i ≠ zN h) : zI (nwr h kd len tr j) i = zI h i := by
  show z1 (zI h) (zN h) (fun _ => 0) i = zI h i
  rw [z1_ne _ _ hi]
theorem nwr_fc {h : Zh} {kd len tr j : Nat} : Fc (fun i => i = tr) h (nwr h kd len tr j) := (Fc_nw (A := fun i => i = tr) h kd len len).tr (Fc_sR (A := fun i => i = tr) _ j (some (zN h)) rfl) (fun _ _ hi => hi)
theorem nwr_st {h : Zh} {kd len tr j : Nat} (s : St h) (ht : 101 ≤ tr) : St (nwr h kd len tr j) := (s.nw kd len len).sR _ (fun q hq e => by have := rfT_lt q hq; omega)
theorem init_m {h : Zh} {tr : Nat} (s : St h) (ht : 101 ≤ tr) (hk : zK h tr = 11) (hN : zN h = tr + 1) (b1 : tr ≤ 600000) (b2 : zS h ≤ 7000000) : ∃ h', fX11_init tr h = some h' ∧ St h' ∧ Fc (fun i => i = tr) h h' ∧ zN h' = tr + 6 ∧ zS h' = zS h + 107 ∧ zI h' tr = zI h tr ∧ zK h' tr = 11 ∧ zR h' tr 10 = some (tr + 1) ∧ zR h' tr 11 = some (tr + 2) ∧ zR h' tr 12 = some (tr + 3) ∧ zR h' tr 13 = some (tr + 4) ∧ zR h' tr 14 = some (tr + 5) ∧ zK h' (tr + 1) = 100 ∧ zL h' (tr + 1) = 4 ∧ zK h' (tr + 2) = 100 ∧ zL h' (tr + 2) = 45 ∧ zK h' (tr + 3) = 100 ∧ zL h' (tr + 3) = 45 ∧ zK h' (tr + 4) = 100 ∧ zL h' (tr + 4) = 9 ∧ zK h' (tr + 5) = 102 ∧ zL h' (tr + 5) = 4 := by
  have hC : zNC = 601024 := rfl
  have hS : zNS = 7293034 := rfl
  have key : ∀ hA hB hC' hD hE : Zh, nwr h 100 4 tr 10 = hA → nwr hA 100 45 tr 11 = hB → nwr hB 100 45 tr 12 = hC' → nwr hC' 100 9 tr 13 = hD → nwr hD 102 4 tr 14 = hE → fX11_init tr h = some hE ∧ St hE ∧ Fc (fun i => i = tr) h hE ∧ zN hE = tr + 6 ∧ zS hE = zS h + 107 ∧ zI hE tr = zI h tr ∧ zK hE tr = 11 ∧ zR hE tr 10 = some (tr + 1) ∧ zR hE tr 11 = some (tr + 2) ∧ zR hE tr 12 = some (tr + 3) ∧ zR hE tr 13 = some (tr + 4) ∧ zR hE tr 14 = some (tr + 5) ∧ zK hE (tr + 1) = 100 ∧ zL hE (tr + 1) = 4 ∧ zK hE (tr + 2) = 100 ∧ zL hE (tr + 2) = 45 ∧ zK hE (tr + 3) = 100 ∧ zL hE (tr + 3) = 45 ∧ zK hE (tr + 4) = 100 ∧ zL hE (tr + 4) = 9 ∧ zK hE (tr + 5) = 102 ∧ zL hE (tr + 5) = 4 := by
    intro hA hB hC' hD hE eA eB eC eD eE
    have nA : zN hA = tr + 2 := by rw [← eA]; show zN h + 1 = _; omega
    have sA : zS hA = zS h + 4 := by rw [← eA]; rfl
    have nB : zN hB = tr + 3 := by rw [← eB]; show zN hA + 1 = _; omega
    have sB : zS hB = zS h + 49 := by rw [← eB]; show zS hA + 45 = _; omega
    have nC : zN hC' = tr + 4 := by rw [← eC]; show zN hB + 1 = _; omega
    have sC : zS hC' = zS h + 94 := by rw [← eC]; show zS hB + 45 = _; omega
    have nD : zN hD = tr + 5 := by rw [← eD]; show zN hC' + 1 = _; omega
    have sD : zS hD = zS h + 103 := by rw [← eD]; show zS hC' + 9 = _; omega
    have nE : zN hE = tr + 6 := by rw [← eE]; show zN hD + 1 = _; omega
    have sE : zS hE = zS h + 107 := by rw [← eE]; show zS hD + 4 = _; omega
    have kA : ∀ i, i ≠ tr + 1 → zK hA i = zK h i ∧ zL hA i = zL h i := fun i hi => by rw [← eA]; exact ⟨nwr_K (by omega), nwr_L (by omega)⟩
    have kB : ∀ i, i ≠ tr + 2 → zK hB i = zK hA i ∧ zL hB i = zL hA i := fun i hi => by rw [← eB]; exact ⟨nwr_K (by omega), nwr_L (by omega)⟩
    have kC : ∀ i, i ≠ tr + 3 → zK hC' i = zK hB i ∧ zL hC' i = zL hB i := fun i hi => by rw [← eC]; exact ⟨nwr_K (by omega), nwr_L (by omega)⟩
    have kD : ∀ i, i ≠ tr + 4 → zK hD i = zK hC' i ∧ zL hD i = zL hC' i := fun i hi => by rw [← eD]; exact ⟨nwr_K (by omega), nwr_L (by omega)⟩
    have kE : ∀ i, i ≠ tr + 5 → zK hE i = zK hD i ∧ zL hE i = zL hD i := fun i hi => by rw [← eE]; exact ⟨nwr_K (by omega), nwr_L (by omega)⟩
    have wA : zK hA (tr + 1) = 100 ∧ zL hA (tr + 1) = 4 := by rw [← eA, ← hN]; exact ⟨nwr_Kn, nwr_Ln⟩
    have wB : zK hB (tr + 2) = 100 ∧ zL hB (tr + 2) = 45 := by rw [← eB, ← nA]; exact ⟨nwr_Kn, nwr_Ln⟩
    have wC : zK hC' (tr + 3) = 100 ∧ zL hC' (tr + 3) = 45 := by rw [← eC, ← nB]; exact ⟨nwr_Kn, nwr_Ln⟩
    have wD : zK hD (tr + 4) = 100 ∧ zL hD (tr + 4) = 9 := by rw [← eD, ← nC]; exact ⟨nwr_Kn, nwr_Ln⟩
    have wE : zK hE (tr + 5) = 102 ∧ zL hE (tr + 5) = 4 := by rw [← eE, ← nD]; exact ⟨nwr_Kn, nwr_Ln⟩
    have tA : zK hA tr = 11 := by rw [(kA tr (by omega)).1]; exact hk
    have tB : zK hB tr = 11 := by rw [(kB tr (by omega)).1]; exact tA
    have tC : zK hC' tr = 11 := by rw [(kC tr (by omega)).1]; exact tB
    have tD : zK hD tr = 11 := by rw [(kD tr (by omega)).1]; exact tC
    have rA : zR hA tr 10 = some (tr + 1) := by rw [← eA, nwr_R, hN]
    have rB : zR hB tr 11 = some (tr + 2) ∧ ∀ k, k ≠ 11 → zR hB tr k = zR hA tr k := by rw [← eB]; exact ⟨by rw [nwr_R, nA], fun k hk => nwr_Rj (by omega) hk⟩
    have rC : zR hC' tr 12 = some (tr + 3) ∧ ∀ k, k ≠ 12 → zR hC' tr k = zR hB tr k := by rw [← eC]; exact ⟨by rw [nwr_R, nB], fun k hk => nwr_Rj (by omega) hk⟩
    have rD : zR hD tr 13 = some (tr + 4) ∧ ∀ k, k ≠ 13 → zR hD tr k = zR hC' tr k := by rw [← eD]; exact ⟨by rw [nwr_R, nC], fun k hk => nwr_Rj (by omega) hk⟩
    have rE : zR hE tr 14 = some (tr + 5) ∧ ∀ k, k ≠ 14 → zR hE tr k = zR hD tr k := by rw [← eE]; exact ⟨by rw [nwr_R, nD], fun k hk => nwr_Rj (by omega) hk⟩
    have stE : St hE := by
      rw [← eE, ← eD, ← eC, ← eB, ← eA]
      exact nwr_st (nwr_st (nwr_st (nwr_st (nwr_st s ht) ht) ht) ht) ht
    have fE : Fc (fun i => i = tr) h hE := by
      rw [← eE, ← eD, ← eC, ← eB, ← eA]
      exact (((nwr_fc.tr nwr_fc (fun _ _ hi => hi)).tr nwr_fc (fun _ _ hi => hi)).tr nwr_fc (fun _ _ hi => hi)).tr nwr_fc (fun _ _ hi => hi)
    have iE : zI hE tr = zI h tr := by
      rw [← eE, nwr_I (by omega), ← eD, nwr_I (by omega), ← eC, nwr_I (by omega), ← eB, nwr_I (by omega), ← eA, nwr_I (by omega)]
    refine ⟨?_, stE, fE, nE, sE, iE, by rw [(kE tr (by omega)).1]; exact tD, ?_, ?_, ?_, ?_, rE.1, ?_, ?_, ?_, ?_, ?_, ?_, ?_, ?_, wE.1, wE.2⟩
    · unfold fX11_init
      rw [zlet_eq, if_pos (by decide), if_pos (by rw [hC, hS, show ((4 : Int32)).toNatClampNeg = 4 by decide]; omega), zlet_eq, show ((4 : Int32)).toNatClampNeg = 4 by decide, if_pos (show zK (znw h 100 4 4) tr = 11 by rw [zK_nw, z1_ne _ _ (by omega)]; exact hk), zlet_eq, show zsR (znw h 100 4 4) tr 10 (some (zN h)) = hA from eA]
      rw [if_pos (by decide), if_pos (by rw [hC, hS, show ((45 : Int32)).toNatClampNeg = 45 by decide]; omega), zlet_eq, show ((45 : Int32)).toNatClampNeg = 45 by decide, if_pos (show zK (znw hA 100 45 45) tr = 11 by rw [zK_nw, z1_ne _ _ (by omega)]; exact tA), zlet_eq, show zsR (znw hA 100 45 45) tr 11 (some (zN hA)) = hB from eB]
      rw [if_pos (by decide), if_pos (by rw [hC, hS]; omega), zlet_eq, if_pos (show zK (znw hB 100 45 45) tr = 11 by rw [zK_nw, z1_ne _ _ (by omega)]; exact tB), zlet_eq, show zsR (znw hB 100 45 45) tr 12 (some (zN hB)) = hC' from eC]
      rw [if_pos (by decide), if_pos (by rw [hC, hS, show ((9 : Int32)).toNatClampNeg = 9 by decide]; omega), zlet_eq, show ((9 : Int32)).toNatClampNeg = 9 by decide, if_pos (show zK (znw hC' 100 9 9) tr = 11 by rw [zK_nw, z1_ne _ _ (by omega)]; exact tC), zlet_eq, show zsR (znw hC' 100 9 9) tr 13 (some (zN hC')) = hD from eD]
      rw [if_pos (by decide), if_pos (by rw [hC, hS]; omega), zlet_eq, if_pos (show zK (znw hD 102 4 4) tr = 11 by rw [zK_nw, z1_ne _ _ (by omega)]; exact tD), zlet_eq, show zsR (znw hD 102 4 4) tr 14 (some (zN hD)) = hE from eE]
    · rw [rE.2 10 (by decide), rD.2 10 (by decide), rC.2 10 (by decide), rB.2 10 (by decide)]; exact rA
    · rw [rE.2 11 (by decide), rD.2 11 (by decide), rC.2 11 (by decide)]; exact rB.1
    · rw [rE.2 12 (by decide), rD.2 12 (by decide)]; exact rC.1
    · rw [rE.2 13 (by decide)]; exact rD.1
    · rw [(kE _ (by omega)).1, (kD _ (by omega)).1, (kC _ (by omega)).1, (kB _ (by omega)).1]; exact wA.1
    · rw [(kE _ (by omega)).2, (kD _ (by omega)).2, (kC _ (by omega)).2, (kB _ (by omega)).2]; exact wA.2
    · rw [(kE _ (by omega)).1, (kD _ (by omega)).1, (kC _ (by omega)).1]; exact wB.1
    · rw [(kE _ (by omega)).2, (kD _ (by omega)).2, (kC _ (by omega)).2]; exact wB.2
    · rw [(kE _ (by omega)).1, (kD _ (by omega)).1]; exact wC.1
    · rw [(kE _ (by omega)).2, (kD _ (by omega)).2]; exact wC.2
    · rw [(kE _ (by omega)).1]; exact wD.1
    · rw [(kE _ (by omega)).2]; exact wD.2
  exact ⟨_, key _ _ _ _ _ rfl rfl rfl rfl rfl⟩
theorem ev133 {g h : Zh} {t : Tk} {tr el : Nat} {c s : Nat → Nat → Nat} {m : Nat → Nat} (tok : Tok t) (st : St h) (r3 : zR h 76 3 = some tr) (h101 : 101 ≤ tr) (q : Tr h tr t) (cd : Cd h t) (h43 : zI h 76 43 = iI el) (hel : el ≤ 9) (r11 : zR h tr 11 = some (tr + 2)) (r12 : zR h tr 12 = some (tr + 3)) (r13 : zR h tr 13 = some (tr + 4)) (k2 : zK h (tr + 2) = 100) (l2 : zL h (tr + 2) = 45) (k3 : zK h (tr + 3) = 100) (l3 : zL h (tr + 3) = 45) (k4 : zK h (tr + 4) = 100) (l4 : zL h (tr + 4) = 9) (ev : ∀ e, e < el → (∀ i, i < tk t → zI h (tr + 2) (5 * e + i) = iI (c e i)) ∧ (∀ i, i < tsh t → zI h (tr + 3) (5 * e + i) = iI (s e i)) ∧ zI h (tr + 4) e = iI (m e)) (ek : ∀ e, e < el → EvK t (c e) (s e) (m e)) : ∃ h', lp (fun q : Int32 × Zh => bX12_trick_133 g 76 q.1 q.2) zB ((0 : Int32), h) = some (1, (iI el, h')) ∧ Fm [94, 95] h h' ∧ ∀ e, e < el → zI h' 94 e = iI (hix t (c e)) ∧ zI h' 95 e = iI (erw t (s e) (m e)) := by
  obtain ⟨bn4, bn12, bu1, bu4, bnu, bk2, bk5, bkn, bp1, bp2, bpk, bH, bsp, bs1, bs4, bT1, bT16, bR1, bR2, bH1, bff, bff1⟩ := tok.b
  have := lp_cnt (body := fun q : Int32 × Zh => bX12_trick_133 g 76 q.1 q.2) el
    (fun i z => ∃ h1, z = ((iI (i : Nat), h1) : Int32 × Zh) ∧ Fm [94, 95] h h1 ∧ ∀ e, e < i → zI h1 94 e = iI (hix t (c e)) ∧ zI h1 95 e = iI (erw t (s e) (m e)))
    (fun e z => e = 1 ∧ z.1 = iI el ∧ Fm [94, 95] h z.2 ∧ ∀ e, e < el → zI z.2 94 e = iI (hix t (c e)) ∧ zI z.2 95 e = iI (erw t (s e) (m e)))
    ?_ ?_ (by omega) (s := ((0 : Int32), h)) ⟨h, rfl, Fm.rf, fun e he => by omega⟩
  · obtain ⟨e, ⟨z1, z2⟩, l1, l2, l3, l4, l5⟩ := this
    have e0 : e = 0 := by omega
    subst e0
    have l3' : z1 = iI el := l3
    rw [l3'] at l1
    exact ⟨z2, l1, l4, l5⟩
  · intro i z hi ⟨h1, ez, fm, cl⟩
    subst ez
    refine Or.inl ?_
    show ∃ s', bX12_trick_133 g 76 (iI i) h1 = some (0, s') ∧ _
    have s1 := st.fm fm
    have q1 := q.fm fm (by simp; omega)
    have cd1 : Cd h1 t := by
      unfold Cd at cd ⊢
      rw [fm.I (by decide), fm.I (by decide)]
      exact cd
    obtain ⟨v1, v2, v3⟩ := ev i hi
    obtain ⟨w1, w2, w3, w4, w5⟩ := ek i hi
    have e5 : (5 : Int32) * iI (i : Int) = iI ((5 * i : Nat) : Int) := by
      rw [show (5 : Int32) = iI 5 from rfl, iI_mul]
      exact congrArg iI (by omega)
    have R3 : zR h1 76 3 = some tr := by rw [fm.R]; exact r3
    have en := fX12_handNumber_eq (tr := tr) (r1 := tr + 2) (fr := 5 * i) (L := 45) (w := c i) s1 R3 q1 cd1 tok (by rw [fm.K]; exact k2) (by rw [fm.L]; exact l2) (by decide) (by omega) (fun j hj => ⟨by rw [fm.I (by simp; omega)]; exact v1 j hj, w1 j hj⟩) w2
    have hle : ¬ iI (el : Int) ≤ iI (i : Int) := by rw [iI_le ⟨by omega, by omega⟩ ⟨by omega, by omega⟩]; omega
    have g1 : Fm [94] h1 (zsI h1 94 i (iI (hix t (c i)))) := Fm_sI _ _ _ (by simp)
    have a1 : zI (zsI h1 94 i (iI (hix t (c i)))) 94 i = iI (hix t (c i)) := by rw [zI_sI, z2_at]
    have aj : ∀ j, j ≠ i → zI (zsI h1 94 i (iI (hix t (c i)))) 94 j = zI h1 94 j := fun j hj => by rw [zI_sI, z2_k _ _ _ hj]
    unfold bX12_trick_133
    rw [if_pos (sK76 s1), fm.o (by simp), h43, if_neg hle, sR76_37 s1, Option.bind_some, R3, Option.bind_some, if_pos q1.1, fm.R, r11, Option.bind_some, e5, en, zc2_some, if_pos (sK94 s1), if_pos (by rw [sL94 s1]; exact zin_N (by omega) (by decide)), clN (by omega), zlet_eq]
    generalize zsI h1 94 i (iI (hix t (c i))) = hA at *
    have sA := s1.fm g1
    have fA : Fm [94, 95] h hA := fm.tr (g1.mono (by simp))
    have qA := q.fm fA (by simp; omega)
    have RA : zR hA = zR h := fA.R
    have er := fX12_rowNumber_eq (tr := tr) (r1 := tr + 3) (fr := 5 * i) (L := 45) (w := s i) sA (by rw [RA]; exact r3) qA tok (by rw [fA.K]; exact k3) (by rw [fA.L]; exact l3) (by decide) (by omega) (fun j hj => ⟨by rw [fA.I (by simp; omega)]; exact v2 j hj, w3 j hj⟩) w4
    have et := fX11_tilts_eq qA tok
    have ei : iI (i : Int) + (1 : Int32) = iI ((i + 1 : Nat) : Int) := by
      rw [show (1 : Int32) = iI 1 from rfl, iI_add]; rfl
    have ee : iI ((rowN (tn t) (s i) (tsh t) : Nat) : Int) * iI (tT t) + iI (m i) = iI (erw t (s i) (m i)) := by
      rw [iI_mul, iI_add]
      unfold erw
      exact congrArg iI (by rw [Int.natCast_add, Int.natCast_mul])
    rw [if_pos (sK76 sA), sR76_38 sA, Option.bind_some, RA, r3, Option.bind_some, if_pos qA.1, r12, Option.bind_some, er, zc2_some, if_pos (sK76 sA), RA, r3, Option.bind_some, if_pos qA.1, et, zc2_some, if_pos (sK76 sA), RA, r3, Option.bind_some, if_pos qA.1, r13, Option.bind_some, if_pos (by rw [fA.K]; exact k4), if_pos (by rw [fA.L, l4]; exact zin_N (by omega) (by decide)), if_pos (sK95 sA), if_pos (by rw [sL95 sA]; exact zin_N (by omega) (by decide)), fA.o (x := tr + 4) (by simp; omega), v3, ee, zlet_eq, zlet_eq, ei]
    refine ⟨_, rfl, _, rfl, fA.tr (Fm_sI _ _ _ (by simp)), fun e he => ?_⟩
    by_cases ce : e = i
    · rw [ce, zI_sI, z2_a _ _ _ _ (by decide), z2_at]
      exact ⟨a1, rfl⟩
    · rw [zI_sI, z2_a _ _ _ _ (by decide), z2_k _ _ _ ce, aj e ce, g1.o (by decide)]
      exact cl e (by omega)
  · intro z ⟨h1, ez, fm, cl⟩
    subst ez
    have s1 := st.fm fm
    refine ⟨0, (iI el, h1), ?_, rfl, rfl, fm, cl⟩
    show bX12_trick_133 g 76 (iI el) h1 = _
    unfold bX12_trick_133
    rw [if_pos (sK76 s1), fm.o (by simp), h43, if_pos (Int32.le_refl _)]
