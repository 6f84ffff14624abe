/-! the class's reader: the trick's line, all of it -/
theorem cr_bn {α β : Type} {o : Option (Int32 × Zh)} {K : Int32 → Zh → Option (Int32 × Zh)} {h : Zh} {S1 S : List Nat} {b1 b2 : Int} {r : PR α} {k : α → Nat → PR β} {G1 : α → Nat → Int32 → Zh → Prop} {G2 : β → Nat → Int32 → Zh → Prop} (m : CRt o h S1 b1 r G1) (hS : ∀ x, x ∈ S1 → x ∈ S) (hb : ∀ h', Fm S1 h h' → ∃ h'', K (iI b1) h' = some (iI b2, h'') ∧ Fm S h' h'' ∧ zI h'' 2 0 = zI h' 2 0 ∧ zI h'' 2 1 = zI h' 2 1) (hk : ∀ a p w h', r = rt a p → G1 a p w h' → Fm S1 h h' → CRt (K w h') h' S b2 (k a p) G2) : CRt (zc2 o K) h S b2 (bn r k) G2 := by
  obtain ⟨w, h1, e, f, m⟩ := m
  rw [e, zc2_some]
  rcases m with ⟨x, y, z1, z2, z3, z4⟩ | ⟨a, p, z1, z2⟩
  · obtain ⟨h2, g1, g2, g3, g4⟩ := hb h1 f
    rw [z1, bn_er, z2]
    exact CRt.er g1 ((f.mono hS).tr g2) (by rw [g3]; exact z3) (by rw [g4]; exact z4)
  · obtain ⟨w2, h2, g1, g2, g3⟩ := hk a p w h1 z1 z2 f
    rw [z1, bn_rt]
    exact ⟨w2, h2, g1, (f.mono hS).tr g2, g3⟩
theorem cr_st {α : Type} {o : Option (Int32 × Zh)} {h h1 : Zh} {S1 S : List Nat} {b : Int} {r : PR α} {G : α → Nat → Int32 → Zh → Prop} (f : Fm S1 h h1) (hS : ∀ x, x ∈ S1 → x ∈ S) (m : CRt o h1 S b r G) : CRt o h S b r G := by
  obtain ⟨w2, h2, g1, g2, g3⟩ := m
  exact ⟨w2, h2, g1, (f.mono hS).tr g2, g3⟩
theorem cr_mono {α : Type} {o : Option (Int32 × Zh)} {h : Zh} {S1 S : List Nat} {b : Int} {r : PR α} {G G' : α → Nat → Int32 → Zh → Prop} (m : CRt o h S1 b r G) (hS : ∀ x, x ∈ S1 → x ∈ S) (hg : ∀ a p w h', r = rt a p → Fm S1 h h' → G a p w h' → G' a p w h') : CRt o h S b r G' := by
  obtain ⟨w2, h2, g1, g2, g3⟩ := m
  refine ⟨w2, h2, g1, g2.mono hS, ?_⟩
  rcases g3 with g3 | ⟨a, p, z1, z2⟩
  · exact Or.inl g3
  · exact Or.inr ⟨a, p, z1, hg a p w2 h2 z1 g2 z2⟩
/-- nothing more behind a fault -/
theorem cr_nb {S1 S : List Nat} {b1 b2 : Int} {h : Zh} {K : Int32 → Zh → Option (Int32 × Zh)} (hK : ∀ h', K (iI b1) h' = some (iI b2, h')) : ∀ h', Fm S1 h h' → ∃ h'', K (iI b1) h' = some (iI b2, h'') ∧ Fm S h' h'' ∧ zI h'' 2 0 = zI h' 2 0 ∧ zI h'' 2 1 = zI h' 2 1 := fun h' _ => ⟨h', hK h', Fm.rf, rfl, rfl⟩
theorem pQ_p {tx : Nat → Int} {n s lo hi p : Nat} : Pz (pQ tx n s lo hi p) (fun v _ => lo ≤ v ∧ v ≤ hi) := by
  unfold pQ
  refine Pz.bn (Q := fun _ _ => True) (fun _ _ _ => trivial) fun a q _ => ?_
  unfold pN
  exact Pz.bn cN_p fun v q hv => Pz.rt ⟨hv.2.2.2.1, hv.2.2.2.2⟩
theorem pU_p {tx : Nat → Int} {n c p : Nat} : Pz (pU tx n c p) (fun u _ => 1 ≤ u ∧ u ≤ 4 ∧ c % u = 0) := by
  unfold pU
  refine Pz.bn (Q := fun _ _ => True) (fun _ _ _ => trivial) fun a q _ => ?_
  refine Pz.bn (Q := fun u _ => 1 ≤ u ∧ u ≤ 4 ∧ c % u = 0) ?_ fun u q hu => Pz.rt hu
  unfold cU
  exact Pz.bn cN_p fun v q hv => Pz.ite (fun c => Pz.rt ⟨hv.2.2.2.1, hv.2.2.2.2, c⟩) (fun _ => Pz.er)
theorem pWy_p {tx : Nat → Int} {n c k p : Nat} : Pz (pWy tx n c k p) (fun a _ => hnd c k (!a.1) ≤ 2000 ∧ (a.1 = true → a.2.1 = false)) := by
  unfold pWy
  refine Pz.bn (Q := fun a _ => hnd c k (!a) ≤ 2000) ?_ fun st q hs => ?_
  · unfold cW
    refine Pz.bn (Q := fun a _ => hnd c k (!a) ≤ 2000) ?_ fun u q hu => Pz.rt hu
    exact Pz.ite (fun _ => Pz.ite (fun c => Pz.rt c) (fun _ => Pz.er)) (fun _ => Pz.er)
  · unfold pX
    refine Pz.rt ⟨hs, ?_⟩
    show st = true → (!st && isw tx n q 7) = false
    intro e
    rw [e]
    rfl
theorem settle74 {g h : Zh} {dk : Nat} {t : Tk} (tok : Tok t) (hkg : zK g dk = 0) (hk : zK h dk = 0) (h0 : zI h dk 0 = iI (tn t)) (h3 : zI h dk 3 = iI (tk t)) (h5 : zI h dk 5 = iI (tsh t)) (h6 : zI h dk 6 = iI (bI (tst t))) : ∃ h', jX0_settle_74 g dk (iI (tT t)) dk h = some h' ∧ Fm [dk] h h' ∧ zI h' dk 12 = iI (tT t) ∧ zI h' dk 9 = iI (tH t) ∧ zI h' dk 10 = iI (tR t) ∧ ∀ j, j ≠ 9 → j ≠ 10 → j ≠ 12 → zI h' dk j = zI h dk j := by
  obtain ⟨bn4, bn12, bu1, bu4, bnu, bk2, bk5, bkn, bp1, bp2, bpk, bH, bsp, bs1, bs4, bT1, bT16, bR1, bR2, bH1, bff, bff1⟩ := tok.b
  have e1 := fX0_falling_eq (n := (tn t : Int)) (k := tsh t) ⟨by omega, by omega⟩ (by omega)
  rw [((ff_ok (tn t) (by omega) (tsh t) (by omega)).2 (by omega)).2] at e1
  have f1 : Fm [dk] h (zsI h dk 12 (iI (tT t))) := Fm_sI _ _ _ (by simp)
  have v12 : zI (zsI h dk 12 (iI (tT t))) dk 12 = iI (tT t) := by rw [zI_sI, z2_at]
  have vj : ∀ j, j ≠ 12 → zI (zsI h dk 12 (iI (tT t))) dk j = zI h dk j := fun j hj => by rw [zI_sI, z2_k _ _ _ hj]
  unfold jX0_settle_74
  rw [if_pos hkg, zlet_eq]
  generalize zsI h dk 12 (iI (tT t)) = h9 at *
  have e2 := hOf_c (d := dk) (n := tn t) (k := tk t) (st := tst t) (h := h9) (by rw [f1.K]; exact hk) (by rw [vj 3 (by decide)]; exact h3) (by rw [vj 6 (by decide)]; exact h6) bn12 bk5 bkn
  rw [vj 0 (by decide), h0, e2, zc2_some, zlet_eq, jI_int]
  have f2 : Fm [dk] h9 (zsI h9 dk 9 (iI (tH t))) := Fm_sI _ _ _ (by simp)
  have v9 : zI (zsI h9 dk 9 (iI (tH t))) dk 9 = iI (tH t) := by rw [zI_sI, z2_at]
  have wj : ∀ j, j ≠ 9 → zI (zsI h9 dk 9 (iI (tH t))) dk j = zI h9 dk j := fun j hj => by rw [zI_sI, z2_k _ _ _ hj]
  show ∃ h', (zc2 (fX0_falling (zI (zsI h9 dk 9 (iI (tH t))) dk 0) (zI (zsI h9 dk 9 (iI (tH t))) dk 5) (zsI h9 dk 9 (iI (tH t)))) fun v14 h13 => zlet (zsI h13 dk 10 (v14.toInt32 * (zI h13 dk 12))) fun h15 => some h15) = some h' ∧ _
  generalize zsI h9 dk 9 (iI (tH t)) = h12 at *
  have ee : iI ((ff (tn t) (tsh t) : Nat) : Int) * iI (tT t) = iI (tR t) := by
    rw [iI_mul]
    unfold tR
    rw [Int.natCast_mul]
  rw [wj 0 (by decide), vj 0 (by decide), h0, wj 5 (by decide), vj 5 (by decide), h5, e1, zc2_some, zlet_eq, jI_int, wj 12 (by decide), v12, ee]
  refine ⟨_, rfl, f1.tr (f2.tr (Fm_sI _ _ _ (by simp))), ?_, ?_, ?_, fun j a b c => ?_⟩
  · rw [zI_sI, z2_k _ _ _ (by decide), wj 12 (by decide), v12]
  · rw [zI_sI, z2_k _ _ _ (by decide), v9]
  · rw [zI_sI, z2_at]
  · rw [zI_sI, z2_k _ _ _ b, wj j a, vj j c]
theorem settle_c {h : Zh} {dk : Nat} {t : Tk} (tok : Tok t) (hk : zK h dk = 0) (h0 : zI h dk 0 = iI (tn t)) (h1 : zI h dk 1 = iI (tu t)) (h3 : zI h dk 3 = iI (tk t)) (h4 : zI h dk 4 = iI (tp t)) (h6 : zI h dk 6 = iI (bI (tst t))) (h7 : zI h dk 7 = iI (bI (thd t))) (h8 : zI h dk 8 = iI (bI (tti t))) : ∃ h', fX0_settle dk h = some h' ∧ Fm [dk] h h' ∧ Dk h' dk t := by
  obtain ⟨bn4, bn12, bu1, bu4, bnu, bk2, bk5, bkn, bp1, bp2, bpk, bH, bsp, bs1, bs4, bT1, bT16, bR1, bR2, bH1, bff, bff1⟩ := tok.b
  have u1 : ¬ iI (tu t : Int) ≤ 0 := by rw [show (0 : Int32) = iI 0 from rfl, iI_le ⟨by omega, by omega⟩ ⟨by decide, by decide⟩]; omega
  have u2 : ¬ iI (tu t : Int) = 0 := by rw [show (0 : Int32) = iI 0 from rfl, iI_eq ⟨by omega, by omega⟩ ⟨by decide, by decide⟩]; omega
  have e1 := fX0_falling_eq (n := (tsh t : Int)) (k := tsh t) ⟨by omega, by omega⟩ (by omega)
  rw [((ff_ok (tsh t) (by omega) (tsh t) (by omega)).2 (by omega)).2] at e1
  have ed := si_divN (a := tn t) (b := tu t) (by omega) (by omega) (by omega)
  unfold fX0_settle
  rw [zlet_eq, if_pos hk, h1, if_neg u1, if_pos u2, h0, ed]
  unfold jX0_settle_24
  have f1 : Fm [dk] h (zsI h dk 2 (iI ((tn t / tu t : Nat) : Int))) := Fm_sI _ _ _ (by simp)
  have v2 : zI (zsI h dk 2 (iI ((tn t / tu t : Nat) : Int))) dk 2 = iI ((tn t / tu t : Nat) : Int) := by rw [zI_sI, z2_at]
  have vj : ∀ j, j ≠ 2 → zI (zsI h dk 2 (iI ((tn t / tu t : Nat) : Int))) dk j = zI h dk j := fun j hj => by rw [zI_sI, z2_k _ _ _ hj]
  rw [if_pos hk, zlet_eq]
  generalize zsI h dk 2 (iI ((tn t / tu t : Nat) : Int)) = hA at *
  have es : iI (tk t : Int) - iI (tp t : Int) = iI (tsh t) := by
    rw [iI_sub]
    exact congrArg iI (by omega)
  rw [vj 3 (by decide), vj 4 (by decide), h3, h4, es, zlet_eq]
  have f2 : Fm [dk] hA (zsI hA dk 5 (iI (tsh t))) := Fm_sI _ _ _ (by simp)
  have v5 : zI (zsI hA dk 5 (iI (tsh t))) dk 5 = iI (tsh t) := by rw [zI_sI, z2_at]
  have wj : ∀ j, j ≠ 5 → zI (zsI hA dk 5 (iI (tsh t))) dk j = zI hA dk j := fun j hj => by rw [zI_sI, z2_k _ _ _ hj]
  generalize zsI hA dk 5 (iI (tsh t)) = hB at *
  rw [v5, e1, zc2_some, jI_int, zlet_eq]
  have f3 : Fm [dk] hB (zsI hB dk 11 (iI (ff (tsh t) (tsh t)))) := Fm_sI _ _ _ (by simp)
  have v11 : zI (zsI hB dk 11 (iI (ff (tsh t) (tsh t)))) dk 11 = iI (ff (tsh t) (tsh t)) := by rw [zI_sI, z2_at]
  have xj : ∀ j, j ≠ 11 → zI (zsI hB dk 11 (iI (ff (tsh t) (tsh t)))) dk j = zI hB dk j := fun j hj => by rw [zI_sI, z2_k _ _ _ hj]
  generalize zsI hB dk 11 (iI (ff (tsh t) (tsh t))) = hC at *
  have all : ∀ j, j ≠ 2 → j ≠ 5 → j ≠ 11 → zI hC dk j = zI h dk j := fun j a b c => by rw [xj j c, wj j b, vj j a]
  have w5 : zI hC dk 5 = iI (tsh t) := by rw [xj 5 (by decide), v5]
  obtain ⟨h', g1, g2, g3, g4, g5, g6⟩ := settle74 (g := h) (h := hC) tok hk (by rw [f3.K, f2.K, f1.K]; exact hk) (by rw [all 0 (by decide) (by decide) (by decide)]; exact h0) (by rw [all 3 (by decide) (by decide) (by decide)]; exact h3) w5 (by rw [all 6 (by decide) (by decide) (by decide)]; exact h6)
  have w8 : zI hC dk 8 = iI (bI (tti t)) := by rw [all 8 (by decide) (by decide) (by decide)]; exact h8
  have eT : (if zI hC dk 8 = 0 then jX0_settle_74 h dk (1 : Int32) dk hC else jX0_settle_74 h dk ((1 : Int32) <<< ((zI hC dk 5) &&& 31)) dk hC) = jX0_settle_74 h dk (iI (tT t)) dk hC := by
    rw [w8, w5]
    unfold tT
    cases e : tti t
    · rw [if_pos (by decide), if_neg (by decide)]
      rfl
    · rw [if_neg (by decide), if_pos rfl, iI_one (by omega)]
  rw [eT]
  refine ⟨h', g1, f1.tr (f2.tr (f3.tr g2)), by rw [g2.K, f3.K, f2.K, f1.K]; exact hk, ?_, ?_, ?_, ?_, ?_, ?_, ?_, ?_, ?_, g4, g5, ?_, g3⟩
  · rw [g6 0 (by decide) (by decide) (by decide), all 0 (by decide) (by decide) (by decide)]; exact h0
  · rw [g6 1 (by decide) (by decide) (by decide), all 1 (by decide) (by decide) (by decide)]; exact h1
  · rw [g6 2 (by decide) (by decide) (by decide), xj 2 (by decide), wj 2 (by decide)]; exact v2
  · rw [g6 3 (by decide) (by decide) (by decide), all 3 (by decide) (by decide) (by decide)]; exact h3
  · rw [g6 4 (by decide) (by decide) (by decide), all 4 (by decide) (by decide) (by decide)]; exact h4
  · rw [g6 5 (by decide) (by decide) (by decide)]; exact w5
  · rw [g6 6 (by decide) (by decide) (by decide), all 6 (by decide) (by decide) (by decide)]; exact h6
  · rw [g6 7 (by decide) (by decide) (by decide), all 7 (by decide) (by decide) (by decide)]; exact h7
  · rw [g6 8 (by decide) (by decide) (by decide)]; exact w8
  · rw [g6 11 (by decide) (by decide) (by decide)]; exact v11
theorem pD_eq {tx : Nat → Int} {n : Nat} {S : PS} {p : Nat} (hb : Pbg S = false) : pD tx n S p = bn (pQ tx n 1 4 12 (tkN tx n p)) fun c p => bn (pU tx n c p) fun u p => bn (pQ tx n 3 2 (min c 5) p) fun k p => bn (pQ tx n 4 1 (min (k - 1) 2) p) fun e p => bn (pWy tx n c k p) fun w p => rt (setT S (c, u, k, e, w.1, w.2.1, w.2.2)) p := by
  unfold pD pT pWy
  rw [hb, if_neg (by decide)]
  simp only [bn_as, bn_rt]
theorem min5 {c : Nat} (h : c ≤ 12) : (if iI (c : Int) < (5 : Int32) then iI (c : Int) else (5 : Int32)) = iI ((min c 5 : Nat) : Int) := by
  have : ∀ c : Nat, c < 13 → (if iI (c : Int) < (5 : Int32) then iI (c : Int) else (5 : Int32)) = iI ((min c 5 : Nat) : Int) := by decide +kernel
  exact this c (by omega)
theorem min2 {k : Nat} (h : k ≤ 5) (h1 : 1 ≤ k) : (if iI (k : Int) - (1 : Int32) < (2 : Int32) then iI (k : Int) - (1 : Int32) else (2 : Int32)) = iI ((min (k - 1) 2 : Nat) : Int) := by
  have : ∀ c : Nat, c < 6 → 1 ≤ c → (if iI (c : Int) - (1 : Int32) < (2 : Int32) then iI (c : Int) - (1 : Int32) else (2 : Int32)) = iI ((min (c - 1) 2 : Nat) : Int) := by decide +kernel
  exact this k (by omega) h1
theorem nneg {c : Nat} (h : c < 1000) : ¬ iI (c : Int) < (0 : Int32) ∧ (0 : Int32) ≤ iI (c : Int) := by
  rw [show (0 : Int32) = iI 0 from rfl, iI_lt ⟨by omega, by omega⟩ ⟨by decide, by decide⟩, iI_le ⟨by decide, by decide⟩ ⟨by omega, by omega⟩]
  omega
theorem readTrick_c {h : Zh} {tx : Nat → Int} {n p ts : Nat} {S : PS} (q : RD h tx n p) (hts : ts = 13 ∨ ts = 19) (r4 : zR h 2 4 = some ts) (bg : zI h ts 0 = iI (bI (Pbg S))) : CRt (fX7_readTrick 2 h) h [2, ts, ts + 1] 0 (pD tx n S p) (fun S' p' w h' => w = iI 1 ∧ RD h' tx n p' ∧ zI h' ts 0 = iI 1 ∧ (∀ j, j ≠ 0 → zI h' ts j = zI h ts j) ∧ Dk h' (ts + 1) (Ptk S') ∧ Tok (Ptk S') ∧ S' = setT S (Ptk S')) := by
  have k2 := sK2 q.1
  obtain ⟨kt, rt1, -, -, kd, -⟩ := tdS q.1 hts
  have hdk : ts + 1 = 14 ∨ ts + 1 = 20 := by omega
  have n2 : ts + 1 ∉ [2] := by simp; omega
  have m2 : ts ∉ [2] := by simp; omega
  have md : ts ∉ [2, ts + 1] := by simp; omega
  cases e : Pbg S
  · rw [e] at bg
    rw [pD_eq e]
    obtain ⟨h4, s1, s2, s3⟩ := step_c q
    unfold fX7_readTrick
    rw [zlet_eq, if_pos k2, r4, Option.bind_some, if_pos kt, bg, if_pos (by decide), s1, Option.bind_some, s2.R, r4, Option.bind_some, if_pos kt, rt1, Option.bind_some]
    refine cr_st s2 (by simp) ?_
    have ht4 := fun j => s2.o m2 j
    have kd4 : zK h4 (ts + 1) = 0 := by rw [s2.K]; exact kd
    have rr4 : zR h4 2 4 = some ts := by rw [s2.R]; exact r4
    refine cr_bn (passWhole_c (s := 1) (lo := 4) (hi := 12) s3 (by decide) (by decide) (by decide)) (by simp) ?_ ?_
    · intro h' _
      refine ⟨zsI h' (ts + 1) 0 (iI (-1)), ?_, Fm_sI _ _ _ (by simp), by rw [zI_sI, z2_a _ _ _ _ (by omega)], by rw [zI_sI, z2_a _ _ _ _ (by omega)]⟩
      rw [if_pos kd, zlet_eq, zI_sI, z2_at, if_pos (by decide)]
      rfl
    intro c p1 w h8 ec ⟨ew, q8⟩ f8
    obtain ⟨c4, c12⟩ := pQ_p c p1 ec
    subst ew
    have g1 : Fm [ts + 1] h8 (zsI h8 (ts + 1) 0 (iI c)) := Fm_sI _ _ _ (by simp)
    have v0 : zI (zsI h8 (ts + 1) 0 (iI c)) (ts + 1) 0 = iI c := by rw [zI_sI, z2_at]
    rw [if_pos kd, zlet_eq, v0, if_neg (nneg (by omega)).1]
    generalize zsI h8 (ts + 1) 0 (iI c) = hA at *
    refine cr_st g1 (by simp) ?_
    refine cr_bn (readSuits_c (dk := ts + 1) (c := c) (q8.fm g1 (by simp; omega) (by simp; omega)) hdk (by rw [g1.K, f8.K]; exact kd4) v0 c12) (by simp) (fun h' _ => ⟨h', by rw [if_pos (by decide)]; rfl, Fm.rf, rfl, rfl⟩) ?_
    intro u p2 w hB eu ⟨ew, q9, w1, wj⟩ f9
    obtain ⟨u1, u4, cu⟩ := pU_p u p2 eu
    subst ew
    have b0 : zI hB (ts + 1) 0 = iI c := by rw [wj 0 (by decide)]; exact v0
    rw [if_neg (by decide), b0, min5 c12]
    refine cr_bn (passWhole_c (s := 3) (lo := 2) (hi := min c 5) q9 (by decide) (by decide) (by omega)) (by simp) ?_ ?_
    · intro h' _
      refine ⟨zsI h' (ts + 1) 3 (iI (-1)), ?_, Fm_sI _ _ _ (by simp), by rw [zI_sI, z2_a _ _ _ _ (by omega)], by rw [zI_sI, z2_a _ _ _ _ (by omega)]⟩
      rw [zlet_eq, zI_sI, z2_at, if_neg (by decide)]
      rfl
    intro k p3 w hC ek ⟨ew, q10⟩ f10
    obtain ⟨k1, k5⟩ := pQ_p k p3 ek
    subst ew
    have g2 : Fm [ts + 1] hC (zsI hC (ts + 1) 3 (iI k)) := Fm_sI _ _ _ (by simp)
    have v3 : zI (zsI hC (ts + 1) 3 (iI k)) (ts + 1) 3 = iI k := by rw [zI_sI, z2_at]
    have cj : ∀ j, j ≠ 3 → zI (zsI hC (ts + 1) 3 (iI k)) (ts + 1) j = zI hB (ts + 1) j := fun j hj => by rw [zI_sI, z2_k _ _ _ hj, f10.o n2]
    rw [zlet_eq, v3, if_pos (nneg (by omega)).2, min2 (by omega) (by omega)]
    generalize zsI hC (ts + 1) 3 (iI k) = hD at *
    refine cr_st g2 (by simp) ?_
    refine cr_bn (passWhole_c (s := 4) (lo := 1) (hi := min (k - 1) 2) (q10.fm g2 (by simp; omega) (by simp; omega)) (by decide) (by decide) (by omega)) (by simp) ?_ ?_
    · intro h' _
      refine ⟨zsI h' (ts + 1) 4 (iI (-1)), ?_, Fm_sI _ _ _ (by simp), by rw [zI_sI, z2_a _ _ _ _ (by omega)], by rw [zI_sI, z2_a _ _ _ _ (by omega)]⟩
      rw [zlet_eq, zI_sI, z2_at, if_pos (by decide)]
      rfl
    intro e1 p4 w hE ee ⟨ew, q11⟩ f11
    obtain ⟨e2, e3⟩ := pQ_p e1 p4 ee
    subst ew
    have g3 : Fm [ts + 1] hE (zsI hE (ts + 1) 4 (iI e1)) := Fm_sI _ _ _ (by simp)
    have v4 : zI (zsI hE (ts + 1) 4 (iI e1)) (ts + 1) 4 = iI e1 := by rw [zI_sI, z2_at]
    have dj : ∀ j, j ≠ 4 → zI (zsI hE (ts + 1) 4 (iI e1)) (ts + 1) j = zI hD (ts + 1) j := fun j hj => by rw [zI_sI, z2_k _ _ _ hj, f11.o n2]
    rw [zlet_eq, v4, if_neg (nneg (by omega)).1]
    generalize zsI hE (ts + 1) 4 (iI e1) = hF at *
    refine cr_st g3 (by simp) ?_
    have kF : zK hF (ts + 1) = 0 := by rw [g3.K, f11.K, g2.K, f10.K, f9.K, g1.K, f8.K]; exact kd4
    have F0 : zI hF (ts + 1) 0 = iI c := by rw [dj 0 (by decide), cj 0 (by decide)]; exact b0
    have F1 : zI hF (ts + 1) 1 = iI u := by rw [dj 1 (by decide), cj 1 (by decide)]; exact w1
    have F3 : zI hF (ts + 1) 3 = iI k := by rw [dj 3 (by decide)]; exact v3
    refine cr_bn (readWay_c (dk := ts + 1) (c := c) (k := k) (q11.fm g3 (by simp; omega) (by simp; omega)) hdk kF F0 F3 c12 (by omega) (by omega)) (by simp) (fun h' _ => ⟨h', by rw [if_pos (by decide)]; rfl, Fm.rf, rfl, rfl⟩) ?_
    intro a p5 w hG ea ⟨ew, q12, a6, a7, a8, aj⟩ f12
    obtain ⟨y1, y2⟩ := pWy_p a p5 ea
    subst ew
    have tok : Tok (c, u, k, e1, a.1, a.2.1, a.2.2) := ⟨c4, c12, u1, u4, cu, k1, by show k ≤ 5; omega, by show k ≤ c; omega, e2, by show e1 ≤ 2; omega, by show e1 < k; omega, y1, y2⟩
    obtain ⟨hH, z1, z2, z3⟩ := settle_c (h := hG) (dk := ts + 1) tok (by rw [f12.K]; exact kF) (by rw [aj 0 (by decide) (by decide) (by decide)]; exact F0) (by rw [aj 1 (by decide) (by decide) (by decide)]; exact F1) (by rw [aj 3 (by decide) (by decide) (by decide)]; exact F3) (by rw [aj 4 (by decide) (by decide) (by decide)]; exact v4) a6 a7 a8
    have rR : zR hH 2 4 = some ts := by rw [z2.R, f12.R, g3.R, f11.R, g2.R, f10.R, f9.R, g1.R, f8.R]; exact rr4
    rw [if_neg (by decide), z1, Option.bind_some, rR, Option.bind_some, if_pos kt, zlet_eq]
    have g4 : Fm [ts] hH (zsI hH ts 0 (iI 1)) := Fm_sI _ _ _ (by simp)
    have nt : ts ∉ [ts + 1] := by simp
    refine CRt.rt (h' := zsI hH ts 0 (iI 1)) (w := iI 1) rfl ((z2.mono (by simp)).tr (g4.mono (by simp))) ⟨rfl, ?_, by rw [zI_sI, z2_at], fun j hj => ?_, z3.fm g4 (by simp), tok, rfl⟩
    · exact ((q12.fm z2 (by simp; omega) (by simp; omega)).fm g4 (by simp; omega) (by simp; omega))
    · rw [zI_sI, z2_k _ _ _ hj, z2.o nt, f12.o md, g3.o nt, f11.o m2, g2.o nt, f10.o m2, f9.o md, g1.o nt, f8.o m2, ht4]
  · rw [e] at bg
    obtain ⟨h', f1, f2, f3, f4⟩ := fail_c q 3
    unfold pD
    rw [e, if_pos rfl]
    refine CRt.er (h' := h') ?_ (f2.mono (by simp)) f3 f4
    unfold fX7_readTrick
    rw [zlet_eq, if_pos k2, r4, Option.bind_some, if_pos kt, bg, if_neg (by decide)]
    refine (zc_of f1 _).trans ?_
    rfl
