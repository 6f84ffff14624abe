/-! calls on both: feed -/
def bv (x : Int32) (s : Int) : Int32 := ((x >>> (iI s &&& iI 31)).toInt8.toInt32).toInt8.toInt32
theorem bv_b (x : Int32) (s : Int) : -128 ≤ (bv x s).toInt ∧ (bv x s).toInt < 128 := by
  unfold bv
  generalize ((x >>> (iI s &&& iI 31)).toInt8.toInt32).toInt8 = y
  rw [Int8.toInt_toInt32]
  exact ⟨Int8.le_toInt y, Int8.toInt_lt y⟩
theorem put_3 {g h0 : Zh} {x : Int32} {n : Nat} (sg : St g) (s0 : St h0) (hn : n + 4 ≤ 900) (h1 : zI h0 0 1 = iI n) : ∃ x' h', lp (fun q : Int32 × Zh => bX10_putBytes_3 g 0 x q.1 q.2) zB (iI 24, h0) = some (1, (x', h')) ∧ Fm [0, 1] h0 h' ∧ (∀ j, j ≠ 1 → zI h' 0 j = zI h0 0 j) ∧ zI h' 0 1 = iI ((n + 4 : Nat) : Int) ∧ (∀ k, k < 4 → zI h' 1 (n + k) = bv x ((24 : Int) - 8 * (k : Nat))) ∧ ∀ j, j < n → zI h' 1 j = zI h0 1 j := by
  have := lp_cnt (body := fun q : Int32 × Zh => bX10_putBytes_3 g 0 x q.1 q.2) 4 (fun k z => ∃ h, z = ((iI ((24 : Int) - 8 * (k : Nat)), h) : Int32 × Zh) ∧ Fm [0, 1] h0 h ∧ (∀ j, j ≠ 1 → zI h 0 j = zI h0 0 j) ∧ zI h 0 1 = iI ((n + k : Nat) : Int) ∧ (∀ i, i < k → zI h 1 (n + i) = bv x ((24 : Int) - 8 * (i : Nat))) ∧ ∀ j, j < n → zI h 1 j = zI h0 1 j) (fun e z => e = 1 ∧ Fm [0, 1] h0 z.2 ∧ (∀ j, j ≠ 1 → zI z.2 0 j = zI h0 0 j) ∧ zI z.2 0 1 = iI ((n + 4 : Nat) : Int) ∧ (∀ k, k < 4 → zI z.2 1 (n + k) = bv x ((24 : Int) - 8 * (k : Nat))) ∧ ∀ j, j < n → zI z.2 1 j = zI h0 1 j) ?_ ?_ (by omega) (s := (iI 24, h0)) ⟨h0, rfl, Fm.rf, fun _ _ => rfl, h1, fun i hi => by omega, fun _ _ => rfl⟩
  · obtain ⟨e, z, l1, l2, l3, l4, l5, l6, l7⟩ := this
    have e0 : e = 0 := by omega
    subst e0
    exact ⟨z.1, z.2, l1, l3, l4, l5, l6, l7⟩
  · intro k z hk ⟨h, ez, fm, k1, k2, k3, k4⟩
    subst ez
    have s1 := s0.fm fm
    have ee : ((n + k : Nat) : Int) + 1 = ((n + (k + 1) : Nat) : Int) := by omega
    have e8 : (24 : Int) - 8 * (k : Nat) + -8 = (24 : Int) - 8 * ((k + 1 : Nat) : Int) := by omega
    refine Or.inl ⟨(iI ((24 : Int) - 8 * ((k + 1 : Nat) : Int)), zsI (zsI h 1 (n + k) (bv x ((24 : Int) - 8 * (k : Nat)))) 0 1 (iI ((n + (k + 1) : Nat) : Int))), ?_, _, rfl, (fm.tr (Fm_sI _ _ _ (by simp))).tr (Fm_sI _ _ _ (by simp)), fun j hj => ?_, by rw [zI_sI, z2_at], fun i hi => ?_, fun j hj => ?_⟩
    · show bX10_putBytes_3 g 0 x (iI ((24 : Int) - 8 * (k : Nat))) h = _
      have hlt : ¬ iI ((24 : Int) - 8 * (k : Nat)) < 0 := by
        rw [show (0 : Int32) = iI ((0 : Nat) : Int) from rfl, iI_lt ⟨by omega, by omega⟩ ⟨by decide, by decide⟩]
        omega
      have hin : zin (iI ((n + k : Nat) : Int)) 900 := zin_N (by omega) (by decide)
      have hL := sL1 sg
      have hcl : (iI ((n + k : Nat) : Int)).toNatClampNeg = n + k := iI_clampN (by omega)
      unfold bX10_putBytes_3
      rw [if_neg hlt, if_pos (sK0 sg), bd_of (sR0_0 s1), if_pos (sK1 sg), k2, hL, if_pos hin, zlet_eq, hcl, zlet_eq, zlet_eq, zI_sI, z2_a _ _ _ _ (by decide), k2, iI_lit, iI_add]
      show some (0, (iI _ + (-8 : Int32), _)) = _
      rw [show (-8 : Int32) = iI (-8) from rfl, iI_add, e8]
      rfl
    · rw [zI_sI, z2_k _ _ _ hj, zI_sI, z2_a _ _ _ _ (by decide)]
      exact k1 j hj
    · rw [zI_sI, z2_a _ _ _ _ (by decide), zI_sI]
      by_cases q : i = k
      · rw [q, z2_at]
      · rw [z2_k _ _ _ (by omega)]
        exact k3 i (by omega)
    · rw [zI_sI, z2_a _ _ _ _ (by decide), zI_sI, z2_k _ _ _ (by omega)]
      exact k4 j hj
  · intro z ⟨h, ez, fm, k1, k2, k3, k4⟩
    subst ez
    refine ⟨0, (iI ((24 : Int) - 8 * ((4 : Nat) : Int)), h), ?_, rfl, fm, k1, k2, k3, k4⟩
    show bX10_putBytes_3 g 0 x (iI ((24 : Int) - 8 * ((4 : Nat) : Int))) h = _
    unfold bX10_putBytes_3
    rw [if_pos (by decide)]
theorem put_c {h0 : Zh} {x : Int32} {n : Nat} (s0 : St h0) (hn : n + 4 ≤ 900) (h1 : zI h0 0 1 = iI n) : ∃ h', fX10_putBytes 0 x h0 = some h' ∧ Fm [0, 1] h0 h' ∧ (∀ j, j ≠ 1 → zI h' 0 j = zI h0 0 j) ∧ zI h' 0 1 = iI ((n + 4 : Nat) : Int) ∧ (∀ k, k < 4 → zI h' 1 (n + k) = bv x ((24 : Int) - 8 * (k : Nat))) ∧ ∀ j, j < n → zI h' 1 j = zI h0 1 j := by
  obtain ⟨x', h', e, r⟩ := put_3 (g := h0) (x := x) s0 s0 hn h1
  refine ⟨h', ?_, r⟩
  unfold fX10_putBytes
  rw [zlet_eq]
  exact (lp_bd e)
def fdA (a b c d e : Int32) (k : Nat) : Int32 := if k < 4 then a else if k < 8 then b else if k < 12 then c else if k < 16 then d else e
def fdB (a b c d e : Int32) (k : Nat) : Int32 := bv (fdA a b c d e k) ((24 : Int) - 8 * ((k % 4 : Nat) : Int))
def Vw.fed (v : Vw) (a b c d e : Int32) : Vw := mkV (v.tl + 20) (fun j => if j < v.tl then v.tp j else (fdB a b c d e (j - v.tl)).toInt) v.ft v.fp v.on v.td v.t v.rc v.ru v.el v.eh v.er v.sd v.ic v.il v.ik v.ih v.ir
theorem feed_c {h : Zh} {v : Vw} {u tr ra : Nat} {a b c d e : Int32} (ok : VOK v) (cc : KC h v u tr ra) (hl : v.tl + 20 ≤ 900) : ∃ h1, fX10_feed 0 a b c d e h = some (iI ((v.tl + 20 : Nat) : Int), h1) ∧ KC h1 (v.fed a b c d e) u tr ra ∧ Fc (CFr tr ra) h h1 ∧ zI h1 0 8 = zI h 0 8 := by
  have s := cc.1
  have h1 := cc.2.1
  obtain ⟨h2, p1, p2, p3, p4, p5, p6⟩ := put_c (x := a) s (by omega) h1
  have s2 := s.fm p2
  obtain ⟨h3, q1, q2, q3, q4, q5, q6⟩ := put_c (x := b) s2 (by omega) p4
  have s3 := s2.fm q2
  obtain ⟨h4, r1, r2, r3, r4, r5, r6⟩ := put_c (x := c) s3 (by omega) q4
  have s4 := s3.fm r2
  obtain ⟨h5, t1, t2, t3, t4, t5, t6⟩ := put_c (x := d) s4 (by omega) r4
  have s5 := s4.fm t2
  obtain ⟨h6, w1, w2, w3, w4, w5, w6⟩ := put_c (x := e) s5 (by omega) t4
  have fm : Fm [0, 1] h h6 := (((p2.tr q2).tr r2).tr t2).tr w2
  have g0 : ∀ j, j ≠ 1 → zI h6 0 j = zI h 0 j := fun j hj => by rw [w3 j hj, t3 j hj, r3 j hj, q3 j hj, p3 j hj]
  have g1 : ∀ k, k < 20 → zI h6 1 (v.tl + k) = fdB a b c d e k := by
    intro k hk
    unfold fdB fdA
    by_cases c1 : k < 4
    · rw [if_pos c1, w6 _ (by omega), t6 _ (by omega), r6 _ (by omega), q6 _ (by omega), p5 k c1, Nat.mod_eq_of_lt c1]
    · rw [if_neg c1]
      by_cases c2 : k < 8
      · rw [if_pos c2, w6 _ (by omega), t6 _ (by omega), r6 _ (by omega), show v.tl + k = v.tl + 4 + (k - 4) by omega, q5 (k - 4) (by omega), show k % 4 = k - 4 by omega]
      · rw [if_neg c2]
        by_cases c3 : k < 12
        · rw [if_pos c3, w6 _ (by omega), t6 _ (by omega), show v.tl + k = v.tl + 4 + 4 + (k - 8) by omega, r5 (k - 8) (by omega), show k % 4 = k - 8 by omega]
        · rw [if_neg c3]
          by_cases c4 : k < 16
          · rw [if_pos c4, w6 _ (by omega), show v.tl + k = v.tl + 4 + 4 + 4 + (k - 12) by omega, t5 (k - 12) (by omega), show k % 4 = k - 12 by omega]
          · rw [if_neg c4, show v.tl + k = v.tl + 4 + 4 + 4 + 4 + (k - 16) by omega, w5 (k - 16) (by omega), show k % 4 = k - 16 by omega]
  have g2 : ∀ j, j < v.tl → zI h6 1 j = zI h 1 j := fun j hj => by rw [w6 _ (by omega), t6 _ (by omega), r6 _ (by omega), q6 _ (by omega), p6 _ hj]
  have e6 : zI h6 0 1 = iI ((v.tl + 20 : Nat) : Int) := by rw [w4]
  refine ⟨h6, ?_, ?_, fm.c.mono (fun i _ hi => by simp at hi; unfold CFr; omega), g0 8 (by decide)⟩
  · unfold fX10_feed
    rw [zlet_eq, if_pos (sK0 s), h1, iI_lit, iI_add, iI_lit, if_pos (by rw [iI_le ⟨by omega, by omega⟩ ⟨by decide, by decide⟩]; show (v.tl : Int) + 20 ≤ 900; omega), bd_of p1, bd_of q1, bd_of r1, bd_of t1, bd_of w1, e6]
  · obtain ⟨a1, a2, a3, a4, a5, a6, a7, a8, a9, a10, a11, a12, a13, CR, OW, se, sp, b1, b2, b3, b4, b5, b6, b7, b8, b9⟩ := cc
    have hN := a1.1
    have htd := ok.2.1
    have hic := ok.2.2.2.2.1
    have nA : ∀ i, 2 ≤ i → i ∉ [0, 1] := fun i hi => by simp; omega
    have ee : ∀ i, 2 ≤ i → zI h6 i = zI h i := fun i hi => fm.I (nA i hi)
    refine ⟨a1.fm fm, e6, fun j hj => ?_, by rw [g0 9 (by decide)]; exact a4, by rw [g0 10 (by decide)]; exact a5, by rw [fm.R]; exact a6, by rw [fm.R]; exact a7, by rw [g0 7 (by decide)]; exact a8, a9.fc fm.c (by show v.td + 3 + 2 < zN h; omega) (nA _ (by show 2 ≤ v.td + 3; omega)) (nA _ (by show 2 ≤ v.td + 3 + 1; omega)) (nA _ (by show 2 ≤ v.td + 3 + 2; omega)), fun k hk => (a10 k hk).fc fm.c (by have hk' : k < v.ic := hk; omega) (nA _ (by omega)) (nA _ (by omega)) (nA _ (by omega)), by rw [fm.N]; exact a11, by rw [fm.N]; exact a12, fun i hi => by rw [ee _ (by omega)]; exact a13 i hi, CR, OW, se, sp, b1, b2, b3, by rw [fm.N]; exact b4, ?_, b6.fc fm.c hN (nA _ (by omega)) (nA _ (by omega)), b7.fc fm.c hN (nA _ (by omega)) (nA _ (by omega)), fun q => ?_, fun q => ?_⟩
    · have hj' : j < v.tl + 20 := hj
      show zI h6 1 j = iI (if j < v.tl then v.tp j else (fdB a b c d e (j - v.tl)).toInt)
      by_cases q : j < v.tl
      · rw [if_pos q, g2 j q]; exact a3 j q
      · rw [if_neg q, iI_of, ← g1 (j - v.tl) (by omega), show v.tl + (j - v.tl) = j by omega]
    · unfold Pot at b5 ⊢
      rw [fm.S, fm.L]
      exact b5
    · show zI h6 v.td 0 = iI 0 ∧ zI h6 v.td 3 = iI 0 ∧ ∀ j, j < 11 → zI h6 (v.td + 1) j = iI 0
      rw [ee _ (by omega), ee _ (by omega)]
      exact b8 q
    · obtain ⟨rdy, lg⟩ := b9 q
      exact ⟨rdy, lg.fc (a1.fm fm) fm.c (fun i hi => by simp at hi; omega)⟩
