/-! the class's reader: cards and tilts -/
theorem isUntold_c {h : Zh} {tx : Nat → Int} {n p bd m : Nat} (q : RD h tx n p) (hb : 1 ≤ bd) (hb12 : bd ≤ 12) (hm : m < 4096) : CRt (fX7_isUntold 2 (iI bd) (iI m) h) h [2] 0 (cV tx n bd m p) (fun v p' w h' => w = iI 1 ∧ h' = h ∧ p' = p ∧ zI h 2 11 = iI v ∧ v < bd ∧ m.testBit v = false ∧ tkK tx n p = 2) := by
  have k2 := sK2 q.1
  have e1 : iI (bd : Int) - (1 : Int32) = iI ((bd - 1 : Nat) : Int) := by
    rw [show (1 : Int32) = iI 1 from rfl, iI_sub]
    exact congrArg iI (by omega)
  unfold fX7_isUntold cV
  rw [zlet_eq, if_pos k2, e1]
  refine cr_bn (isWhole_c (lo := 0) (hi := bd - 1) q (by decide) (by omega)) (by simp) (fun h' _ => ⟨h', by rw [if_pos (by decide)]; rfl, Fm.rf, rfl, rfl⟩) ?_
  intro v p1 w h' ea ⟨ew, eh, e11⟩ _
  subst ew eh
  obtain ⟨p1e, p2, p3, p4, p5⟩ := cN_p v p1 ea
  rw [← p2] at e11
  rw [p1e, if_neg (by decide), e11]
  have hbit := si_bit0 (m := m) (c := v) (by omega) (by omega)
  cases c : m.testBit v
  · rw [if_neg (show ¬ false = true by decide), if_pos (show (iI (m : Int) >>> (iI (v : Int) &&& 31)) &&& (1 : Int32) = 0 from hbit.mpr c)]
    exact CRt.rt rfl Fm.rf ⟨rfl, rfl, rfl, rfl, by omega, c, p3⟩
  · have nb : ¬ (iI (m : Int) >>> (iI (v : Int) &&& 31)) &&& (1 : Int32) = 0 := fun z => by
      have := hbit.mp z
      rw [c] at this; cases this
    rw [if_pos (show true = true from rfl), if_neg nb]
    obtain ⟨hg, g1, g2, g3, g4⟩ := fail_c q 3
    exact CRt.er ((zc_of g1 _).trans rfl) g2 g3 g4
theorem or_lt {m v bd : Nat} (hm : m < 2 ^ bd) (hv : v < bd) : m ||| 2 ^ v < 2 ^ bd := Nat.or_lt_two_pow hm (Nat.pow_lt_pow_right (by decide) hv)
theorem p12 {bd : Nat} (h : bd ≤ 12) : 2 ^ bd ≤ 4096 := by
  have : 2 ^ bd ≤ 2 ^ 12 := Nat.pow_le_pow_right (by decide) h
  exact this
theorem cards31 {g h1 : Zh} {tx : Nat → Int} {n p bd m ts i : Nat} {x1 : Int32} (sg : St g) (q : RD h1 tx n p) (hts : ts = 13 ∨ ts = 19) (r4 : zR h1 2 4 = some ts) (d0 : zI h1 (ts + 1) 0 = iI bd) (hb : 1 ≤ bd) (hb12 : bd ≤ 12) (hm : m < 2 ^ bd) (hi : i < 5) : (∃ f y h2, cV tx n bd m p = er f y ∧ jX7_readCards_31 g 2 x1 (iI m) (iI i) h1 = some (2, (iI m, (iI i, h2))) ∧ Fm [2] h1 h2 ∧ zI h2 2 0 = iI f ∧ zI h2 2 1 = iI y) ∨ ∃ v h2, cV tx n bd m p = rt v p ∧ v < bd ∧ m.testBit v = false ∧ jX7_readCards_31 g 2 x1 (iI m) (iI i) h1 = some (0, (iI ((m ||| 2 ^ v : Nat) : Int), (iI ((i + 1 : Nat) : Int), h2))) ∧ Fm [2, 12] h1 h2 ∧ RD h2 tx n (tkN tx n p) ∧ zI h2 12 i = iI v ∧ ∀ j, j ≠ i → zI h2 12 j = zI h1 12 j := by
  have s1 := q.1
  obtain ⟨kt, -, -, -, kd, -⟩ := tdS sg hts
  obtain ⟨-, rt1, -⟩ := tdS s1 hts
  have hp12 := p12 hb12
  obtain ⟨w, h2, e1, f1, m1⟩ := isUntold_c (bd := bd) (m := m) q hb hb12 (by omega)
  have e0 : jX7_readCards_31 g 2 x1 (iI m) (iI i) h1 = if w = 0 then some (2, (iI m, (iI i, h2))) else (zR h2 2 7).bind fun r_8 => if zK g r_8 = 100 then if zin (iI i) (zL g r_8) then zlet (zsI h2 r_8 (iI (i : Int)).toNatClampNeg (zI h2 2 11)) fun h11 => zlet (iI m ||| (((1 : Int32)) <<< ((zI h11 2 11) &&& 31))) fun y12 => (fX7_step 2 h11).bind fun h13 => zlet (iI i + (1 : Int32)) fun y14 => some (0, (y12, (y14, h13))) else none else none := by
    unfold jX7_readCards_31
    rw [if_pos (sK2 sg), r4, Option.bind_some, if_pos kt, rt1, Option.bind_some, if_pos kd, d0]
    exact zc_of e1 _
  rw [e0]
  rcases m1 with ⟨f, y, z1, z2, z3, z4⟩ | ⟨v, y, z1, z2, z3, z4, z5, z6, z7, z8⟩
  · refine Or.inl ⟨f, y, h2, z1, ?_, f1, z3, z4⟩
    rw [z2]
    rfl
  · subst z3
    rw [z4] at z1
    refine Or.inr ⟨v, ?_⟩
    have g1 : Fm [12] h2 (zsI h2 12 i (iI v)) := Fm_sI _ _ _ (by simp)
    have v1 : zI (zsI h2 12 i (iI v)) 12 i = iI v := by rw [zI_sI, z2_at]
    have vj : ∀ j, j ≠ i → zI (zsI h2 12 i (iI v)) 12 j = zI h2 12 j := fun j hj => by rw [zI_sI, z2_k _ _ _ hj]
    rw [z2, if_neg (by decide), sR2_7 s1, Option.bind_some, if_pos (sK12 sg), if_pos (by rw [sL12 sg]; exact zin_N hi (by decide)), clN (by omega), z5, zlet_eq]
    generalize zsI h2 12 i (iI v) = hA at *
    obtain ⟨h5, t1, t2, t3⟩ := step_c (q.fm g1 (by decide) (by decide))
    refine ⟨h5, z1, z6, z7, ?_, (g1.mono (by simp)).tr (t2.mono (by simp)), t3, by rw [t2.o (by decide)]; exact v1, fun j hj => by rw [t2.o (by decide)]; exact vj j hj⟩
    rw [g1.o (by decide), z5, zlet_eq, t1, Option.bind_some, zlet_eq, iI_one (by omega), iI_or]
    show some (0, (_, (iI (i : Int) + iI 1, h5))) = _
    rw [iI_add]
    rfl
theorem readCards_c {h : Zh} {tx : Nat → Int} {n p bd ts cnt : Nat} (q : RD h tx n p) (hts : ts = 13 ∨ ts = 19) (r4 : zR h 2 4 = some ts) (d0 : zI h (ts + 1) 0 = iI bd) (hb : 1 ≤ bd) (hb12 : bd ≤ 12) (hc : cnt ≤ 5) : CRt (fX7_readCards 2 (iI cnt) h) h [2, 12] 0 (pC tx n bd cnt 0 0 (fun _ => 0) p) (fun c p' w h' => w = iI 1 ∧ RD h' tx n p' ∧ ∀ i, i < cnt → zI h' 12 i = iI (c i)) := by
  have s := q.1
  have nt : ts + 1 ∉ [2, 12] := by simp; omega
  have := lp_cnt (body := fun q : Int32 × Int32 × Zh => bX7_readCards_4 h 2 (iI cnt) q.1 q.2.1 q.2.2) cnt
    (fun i z => ∃ h1 m c p1, z = ((iI (m : Nat), (iI (i : Nat), h1)) : Int32 × Int32 × Zh) ∧ Fm [2, 12] h h1 ∧ RD h1 tx n p1 ∧ m < 2 ^ bd ∧ pC tx n bd cnt 0 0 (fun _ => 0) p = pC tx n bd (cnt - i) i m c p1 ∧ ∀ j, j < i → zI h1 12 j = iI (c j))
    (fun e z => (e = 1 ∧ Fm [2, 12] h z.2.2 ∧ ∃ p1, RD z.2.2 tx n p1 ∧ pC tx n bd cnt 0 0 (fun _ => 0) p = er 1 (skp tx n p1)) ∨ (e = 2 ∧ Fm [2, 12] h z.2.2 ∧ ∃ f y, pC tx n bd cnt 0 0 (fun _ => 0) p = er f y ∧ zI z.2.2 2 0 = iI f ∧ zI z.2.2 2 1 = iI y) ∨ (e = 3 ∧ Fm [2, 12] h z.2.2 ∧ ∃ c p1, pC tx n bd cnt 0 0 (fun _ => 0) p = rt c p1 ∧ RD z.2.2 tx n p1 ∧ ∀ i, i < cnt → zI z.2.2 12 i = iI (c i)))
    ?_ ?_ (by omega) (s := ((0 : Int32), ((0 : Int32), h))) ⟨h, 0, fun _ => 0, p, rfl, Fm.rf, q, Nat.two_pow_pos _, rfl, fun j hj => by omega⟩
  · obtain ⟨e, ⟨z1, z2, z3⟩, l1, l2⟩ := this
    unfold fX7_readCards
    rw [zlet_eq, l1, Option.bind_some]
    show CRt (kX7_readCards_4 h 2 (e + 1) z1 z2 z3) _ _ _ _ _
    rcases l2 with ⟨a1, a2, p1, a3, a4⟩ | ⟨a1, a2, f, y, a3, a4, a5⟩ | ⟨a1, a2, c, p1, a3, a4, a5⟩
    · obtain ⟨hg, g1, g2, g3, g4⟩ := fail_c a3 1
      rw [a4]
      have e0 : e = 0 := by omega
      subst e0
      refine CRt.er (h' := hg) ?_ (Fm.tr (show Fm [2, 12] h z3 from a2) (g2.mono (by simp))) g3 g4
      unfold kX7_readCards_4
      rw [if_pos rfl, if_pos (sK2 s)]
      exact (zc_of g1 _).trans rfl
    · rw [a3]
      have e0 : e = 1 := by omega
      subst e0
      exact CRt.er (h' := z3) rfl a2 a4 a5
    · rw [a3]
      have e0 : e = 2 := by omega
      subst e0
      exact CRt.rt (h' := z3) (w := iI 1) rfl a2 ⟨rfl, a4, a5⟩
  · intro i z hi ⟨h1, m, c, p1, ez, fm, q1, hm, hpc, hcell⟩
    subst ez
    show (∃ s', bX7_readCards_4 h 2 (iI cnt) (iI m) (iI i) h1 = some (0, s') ∧ _) ∨ ∃ e s', bX7_readCards_4 h 2 (iI cnt) (iI m) (iI i) h1 = some (e + 1, s') ∧ _
    have r41 : zR h1 2 4 = some ts := by rw [fm.R]; exact r4
    have hle : ¬ iI (cnt : Int) ≤ iI (i : Int) := by rw [iI_le ⟨by omega, by omega⟩ ⟨by omega, by omega⟩]; omega
    obtain ⟨r, hr⟩ : ∃ r, cnt - i = r + 1 := ⟨cnt - i - 1, by omega⟩
    have hr2 : cnt - (i + 1) = r := by omega
    rw [hr] at hpc
    have hpc1 : pC tx n bd cnt 0 0 (fun _ => 0) p = bn (pCm tx n i p1) fun _ p => bn (cV tx n bd m p) fun v p => pC tx n bd r (i + 1) (m ||| 2 ^ v) (fun j => if j = i then v else c j) (tkN tx n p) := hpc
    rw [hpc1, hr2]
    have key : ∀ p2 h2, RD h2 tx n p2 → Fm [2, 12] h h2 → (∀ j, j < i → zI h2 12 j = iI (c j)) → pCm tx n i p1 = rt () p2 → bX7_readCards_4 h 2 (iI cnt) (iI m) (iI i) h1 = jX7_readCards_31 h 2 (iI cnt) (iI m) (iI i) h2 → (∃ s', bX7_readCards_4 h 2 (iI cnt) (iI m) (iI i) h1 = some (0, s') ∧ ∃ h1 m_1 c_1 p1_1, s' = ((iI (m_1 : Nat), (iI ((i + 1 : Nat) : Int), h1)) : Int32 × Int32 × Zh) ∧ Fm [2, 12] h h1 ∧ RD h1 tx n p1_1 ∧ m_1 < 2 ^ bd ∧ (bn (pCm tx n i p1) fun _ p => bn (cV tx n bd m p) fun v p => pC tx n bd r (i + 1) (m ||| 2 ^ v) (fun j => if j = i then v else c j) (tkN tx n p)) = pC tx n bd r (i + 1) m_1 c_1 p1_1 ∧ ∀ j, j < i + 1 → zI h1 12 j = iI (c_1 j)) ∨ ∃ e s', bX7_readCards_4 h 2 (iI cnt) (iI m) (iI i) h1 = some (e + 1, s') ∧ ((e + 1 = 1 ∧ Fm [2, 12] h s'.2.2 ∧ ∃ p1_1, RD s'.2.2 tx n p1_1 ∧ (bn (pCm tx n i p1) fun _ p => bn (cV tx n bd m p) fun v p => pC tx n bd r (i + 1) (m ||| 2 ^ v) (fun j => if j = i then v else c j) (tkN tx n p)) = er 1 (skp tx n p1_1)) ∨ (e + 1 = 2 ∧ Fm [2, 12] h s'.2.2 ∧ ∃ f y, (bn (pCm tx n i p1) fun _ p => bn (cV tx n bd m p) fun v p => pC tx n bd r (i + 1) (m ||| 2 ^ v) (fun j => if j = i then v else c j) (tkN tx n p)) = er f y ∧ zI s'.2.2 2 0 = iI f ∧ zI s'.2.2 2 1 = iI y) ∨ (e + 1 = 3 ∧ Fm [2, 12] h s'.2.2 ∧ ∃ c_1 p1_1, (bn (pCm tx n i p1) fun _ p => bn (cV tx n bd m p) fun v p => pC tx n bd r (i + 1) (m ||| 2 ^ v) (fun j => if j = i then v else c j) (tkN tx n p)) = rt c_1 p1_1 ∧ RD s'.2.2 tx n p1_1 ∧ ∀ i, i < cnt → zI s'.2.2 12 i = iI (c_1 i))) := by
      intro p2 h2 q2 fm2 cell2 ep eb
      rw [ep, bn_rt, eb]
      rcases cards31 (g := h) (h1 := h2) (bd := bd) (m := m) (i := i) (x1 := iI cnt) s q2 hts (by rw [fm2.R]; exact r4) (by rw [fm2.o nt]; exact d0) hb hb12 hm (by omega) with ⟨f, y, h3, y1, y2, y3, y4, y5⟩ | ⟨v, h3, y1, y2, y3, y4, y5, y6, y7, y8⟩
      · refine Or.inr ⟨1, _, y2, Or.inr (Or.inl ⟨rfl, fm2.tr (y3.mono (by simp)), f, y, ?_, y4, y5⟩)⟩
        rw [y1, bn_er]
      · refine Or.inl ⟨_, y4, h3, m ||| 2 ^ v, fun j => if j = i then v else c j, tkN tx n p2, rfl, fm2.tr y5, y6, or_lt hm y2, by rw [y1, bn_rt], fun j hj => ?_⟩
        show zI h3 12 j = iI ((if j = i then v else c j : Nat) : Int)
        by_cases ej : j = i
        · rw [ej, y7, if_pos rfl]
        · rw [y8 j ej, if_neg ej]
          exact cell2 j (by omega)
    by_cases ci : i = 0
    · refine key p1 h1 q1 fm hcell (by unfold pCm; rw [if_pos ci]) ?_
      unfold bX7_readCards_4
      rw [if_neg hle, if_pos (by rw [ci]; exact Int32.le_refl _)]
    · have hi0 : ¬ iI (i : Int) ≤ (0 : Int32) := by rw [show (0 : Int32) = iI 0 from rfl, iI_le ⟨by omega, by omega⟩ ⟨by decide, by decide⟩]; omega
      have r8 := q1.2.1.2.2.1
      have hkb := tkK_b tx n p1
      by_cases c4 : tkK tx n p1 = 4
      · obtain ⟨h2, t1, t2, t3⟩ := step_c q1
        refine key _ h2 t3 (fm.tr (t2.mono (by simp))) (fun j hj => by rw [t2.o (by decide)]; exact hcell j hj) (by unfold pCm; rw [if_neg ci, if_pos c4]) ?_
        unfold bX7_readCards_4
        rw [if_neg hle, if_neg hi0, if_pos (sK2 s), if_pos (by rw [r8, c4]; rfl)]
        exact bd_of t1 _
      · refine Or.inr ⟨0, (iI m, (iI i, h1)), ?_, Or.inl ⟨rfl, fm, p1, q1, ?_⟩⟩
        · have n8 : ¬ zI h1 2 8 = (4 : Int32) := by
            rw [r8, show (4 : Int32) = iI 4 from rfl, iI_eq ⟨by omega, by omega⟩ ⟨by decide, by decide⟩]; omega
          unfold bX7_readCards_4
          rw [if_neg hle, if_neg hi0, if_pos (sK2 s), if_neg n8]
        · unfold pCm
          rw [if_neg ci, if_neg c4, bn_er]
  · intro z ⟨h1, m, c, p1, ez, fm, q1, hm, hpc, hcell⟩
    subst ez
    refine ⟨2, (iI m, (iI cnt, h1)), ?_, Or.inr (Or.inr ⟨rfl, fm, c, p1, ?_, q1, hcell⟩)⟩
    · show bX7_readCards_4 h 2 (iI cnt) (iI m) (iI cnt) h1 = _
      unfold bX7_readCards_4
      rw [if_pos (Int32.le_refl _)]
    · rw [hpc, Nat.sub_self]
      rfl
theorem readTilts_c {h : Zh} {tx : Nat → Int} {n p bd : Nat} (q : RD h tx n p) (hb : 1 ≤ bd) (hb12 : bd ≤ 4) : CRt (fX7_readTilts 2 (iI bd) h) h [2] (-1) (pL tx n bd (n + 1) 0 p) (fun m p' w h' => w = iI m ∧ m < 2 ^ bd ∧ RD h' tx n p') := by
  have s := q.1
  obtain ⟨hp, hn⟩ := q.p
  have hp12 := p12 (bd := bd) (by omega)
  have := lp_cnt (body := fun q : Int32 × Int32 × Zh => bX7_readTilts_4 h 2 (iI bd) q.1 q.2.1 q.2.2) (n + 1)
    (fun i z => ∃ h1 m p1 f, z = ((iI (m : Nat), (iI (i : Nat), h1)) : Int32 × Int32 × Zh) ∧ Fm [2] h h1 ∧ RD h1 tx n p1 ∧ m < 2 ^ bd ∧ pL tx n bd (n + 1) 0 p = pL tx n bd f m p1 ∧ i ≤ p1 ∧ n < f + p1)
    (fun e z => Fm [2] h z.2.2 ∧ ((e = 1 ∧ ∃ f y, pL tx n bd (n + 1) 0 p = er f y ∧ zI z.2.2 2 0 = iI f ∧ zI z.2.2 2 1 = iI y) ∨ (e = 2 ∧ ∃ m p1, z.1 = iI (m : Nat) ∧ m < 2 ^ bd ∧ pL tx n bd (n + 1) 0 p = rt m p1 ∧ RD z.2.2 tx n p1)))
    ?_ ?_ (by omega) (s := ((0 : Int32), ((0 : Int32), h))) ⟨h, 0, p, n + 1, rfl, Fm.rf, q, Nat.two_pow_pos _, rfl, Nat.zero_le _, by omega⟩
  · obtain ⟨e, ⟨z1, z2, z3⟩, l1, l2, l3⟩ := this
    unfold fX7_readTilts
    rw [zlet_eq, l1, Option.bind_some]
    show CRt (kX7_readTilts_4 h (e + 1) z1 z2 z3) _ _ _ _ _
    rcases l3 with ⟨a1, f, y, a3, a4, a5⟩ | ⟨a1, m, p1, a2, a3, a4, a5⟩
    · rw [a3]
      have e0 : e = 0 := by omega
      subst e0
      exact CRt.er (h' := z3) rfl l2 a4 a5
    · rw [a4]
      have e0 : e = 1 := by omega
      subst e0
      exact CRt.rt (h' := z3) (w := z1) rfl l2 ⟨a2, a3, a5⟩
  · intro i z hi ⟨h1, m, p1, f, ez, fm, q1, hm, hpl, hip, hf⟩
    subst ez
    show (∃ s', bX7_readTilts_4 h 2 (iI bd) (iI m) (iI i) h1 = some (0, s') ∧ _) ∨ ∃ e s', bX7_readTilts_4 h 2 (iI bd) (iI m) (iI i) h1 = some (e + 1, s') ∧ _
    obtain ⟨hp1, -⟩ := q1.p
    obtain ⟨f', rfl⟩ : ∃ f', f = f' + 1 := ⟨f - 1, by omega⟩
    have hpl1 : pL tx n bd (n + 1) 0 p = bn (cV tx n bd m p1) fun v p => if tkK tx n (tkN tx n p) = 4 then pL tx n bd f' (m ||| 2 ^ v) (tkN tx n (tkN tx n p)) else rt (m ||| 2 ^ v) (tkN tx n p) := hpl
    have r3 : zI h1 2 3 = iI n := q1.2.1.2.1.2.1
    have hlt : ¬ iI (n : Int) < iI (i : Int) := by rw [iI_lt ⟨by omega, by omega⟩ ⟨by omega, by omega⟩]; omega
    obtain ⟨w, h2, e1, f1, m1⟩ := isUntold_c (bd := bd) (m := m) q1 hb (by omega) (by omega)
    have e0 : bX7_readTilts_4 h 2 (iI bd) (iI m) (iI i) h1 = if w = 0 then some (1, (iI m, (iI i, h2))) else zlet (iI m ||| (((1 : Int32)) <<< ((zI h2 2 11) &&& 31))) fun y4 => (fX7_step 2 h2).bind fun h5 => if (zI h5 2 8) = ((4 : Int32)) then (fX7_step 2 h5).bind fun h6 => zlet (iI i + (1 : Int32)) fun y7 => some (0, (y4, (y7, h6))) else some (2, (y4, (iI i, h5))) := by
      unfold bX7_readTilts_4
      rw [if_pos (sK2 s), r3, if_neg hlt]
      exact zc_of e1 _
    rw [e0, hpl1]
    rcases m1 with ⟨f, y, z1, z2, z3, z4⟩ | ⟨v, y, z1, z2, z3, z4, z5, z6, z7, z8⟩
    · refine Or.inr ⟨0, (iI m, (iI i, h2)), ?_, fm.tr f1, Or.inl ⟨rfl, f, y, ?_, z3, z4⟩⟩
      · rw [z2]; rfl
      · rw [z1, bn_er]
    · subst z3
      rw [z1, bn_rt, z4, z2, if_neg (by decide), zlet_eq, z5, iI_one (by omega), iI_or]
      obtain ⟨h5, t1, t2, t3⟩ := step_c q1
      have r8 := t3.2.1.2.2.1
      have hkb := tkK_b tx n (tkN tx n p1)
      have hnn := nx_b tx hp1
      rw [t1, Option.bind_some]
      by_cases c4 : tkK tx n (tkN tx n p1) = 4
      · obtain ⟨h6, u1, u2, u3⟩ := step_c t3
        have hb2 := sgn_N (Or.inr c4)
        have hb3 := skp_b tx t3.p.1
        rw [if_pos c4, if_pos (show zI h5 2 8 = (4 : Int32) by rw [r8, c4]; rfl), u1, Option.bind_some, zlet_eq]
        refine Or.inl ⟨_, rfl, h6, m ||| 2 ^ v, tkN tx n (tkN tx n p1), f', ?_, fm.tr (t2.tr u2), u3, or_lt hm z6, rfl, by omega, by omega⟩
        show ((_, (iI (i : Int) + iI 1, h6)) : Int32 × Int32 × Zh) = _
        rw [iI_add]
        rfl
      · have n8 : ¬ zI h5 2 8 = (4 : Int32) := by
          rw [r8, show (4 : Int32) = iI 4 from rfl, iI_eq ⟨by omega, by omega⟩ ⟨by decide, by decide⟩]; omega
        rw [if_neg c4, if_neg n8]
        exact Or.inr ⟨1, _, rfl, fm.tr t2, Or.inr ⟨rfl, m ||| 2 ^ v, tkN tx n p1, rfl, or_lt hm z6, rfl, t3⟩⟩
  · intro z ⟨h1, m, p1, f, ez, fm, q1, hm, hpl, hip, hf⟩
    have := q1.p
    omega
