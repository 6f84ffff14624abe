/-! calls on both: feed -/
def bv (x : Int32) (s : Int) : Int32 := ((x >>> (iI s &&& iI 31)).toInt8.toInt32).toInt8.toInt32
theorem bv_b (x : Int32) (s : Int) : -128 ≤ (bv x s).toInt ∧ (bv x s).toInt < 128 := by
  unfold bv
  generalize ((x >>> (iI s &&& iI 31)).toInt8.toInt32).toInt8 = y
  rw [Int8.toInt_toInt32]
  exact ⟨Int8.le_toInt y, Int8.toInt_lt y⟩
theorem put_3 {g h0 : Zh} {x : Int32} {n : Nat} (sg : St g) (s0 : St h0) (hn : n + 4 ≤ 900) (h1 : zI h0 0 1 = iI n) : ∃ x' h', lp (fun q : Int32 × Zh => bX10_putBytes_3 g 0 x q.1 q.2) zB (iI 24, h0) = some (1, (x', h')) ∧ Fm [0, 1] h0 h' ∧ (∀ j, j ≠ 1 → zI h' 0 j = zI h0 0 j) ∧ zI h' 0 1 = iI ((n + 4 : Nat) : Int) ∧ (∀ k, k < 4 → zI h' 1 (n + k) = bv x ((24 : Int) - 8 * (k : Nat))) ∧ ∀ j, j < n → zI h' 1 j = zI h0 1 j := by
  have := lp_cnt (body := fun q : Int32 × Zh => bX10_putBytes_3 g 0 x q.1 q.2) 4 (fun k z => ∃ h, z = ((iI ((24 : Int) - 8 * (k : Nat)), h) : Int32 × Zh) ∧ Fm [0, 1] h0 h ∧ (∀ j, j ≠ 1 → zI h 0 j = zI h0 0 j) ∧ zI h 0 1 = iI ((n + k : Nat) : Int) ∧ (∀ i, i < k → zI h 1 (n + i) = bv x ((24 : Int) - 8 * (i : Nat))) ∧ ∀ j, j < n → zI h 1 j = zI h0 1 j) (fun e z => e = 1 ∧ Fm [0, 1] h0 z.2 ∧ (∀ j, j ≠ 1 → zI z.2 0 j = zI h0 0 j) ∧ zI z.2 0 1 = iI ((n + 4 : Nat) : Int) ∧ (∀ k, k < 4 → zI z.2 1 (n + k) = bv x ((24 : Int) - 8 * (k : Nat))) ∧ ∀ j, j < n → zI z.2 1 j = zI h0 1 j) ?_ ?_ (by omega) (s := (iI 24, h0)) ⟨h0, rfl, Fm.rf, fun _ _ => rfl, h1, fun i hi => by omega, fun _ _ => rfl⟩
  · obtain ⟨e, z, l1, l2, l3, l4, l5, l6, l7⟩ := this
    have e0 : e = 0 := by omega
    subst e0
    exact ⟨z.1, z.2, l1, l3, l4, l5, l6, l7⟩
  · intro k z hk ⟨h, ez, fm, k1, k2, k3, k4⟩
    subst ez
    have s1 := s0.fm fm
    have ee : ((n + k : Nat) : Int) + 1 = ((n + (k + 1) : Nat) : Int) := by omega
    have e8 : (24 : Int) - 8 * (k : Nat) + -8 = (24 : Int) - 8 * ((k + 1 : Nat) : Int) := by omega
    refine Or.inl ⟨(iI ((24 : Int) - 8 * ((k + 1 : Nat) : Int)), zsI (zsI h 1 (n + k) (bv x ((24 : Int) - 8 * (k : Nat)))) 0 1 (iI ((n + (k + 1) : Nat) : Int))), ?_, _, rfl, (fm.tr (Fm_sI _ _ _ (by simp))).tr (Fm_sI _ _ _ (by simp)), fun j hj => ?_, by rw [zI_sI, z2_at], fun i hi => ?_, fun j hj => ?_⟩
    · show bX10_putBytes_3 g 0 x (iI ((24 : Int) - 8 * (k : Nat))) h = _
      have hlt : ¬ iI ((24 : Int) - 8 * (k : Nat)) < 0 := by
        rw [show (0 : Int32) = iI ((0 : Nat) : Int) from rfl, iI_lt ⟨by omega, by omega⟩ ⟨by decide, by decide⟩]
        omega
      have hin : zin (iI ((n + k : Nat) : Int)) 900 := zin_N (by omega) (by decide)
      have hL := sL1 sg
      have hcl : (iI ((n + k : Nat) : Int)).toNatClampNeg = n + k := iI_clampN (by omega)
      have h9 : iI ((n + k : Nat) : Int) + 1 = iI ((n + (k + 1) : Nat) : Int) := by rw [show (1 : Int32) = iI 1 from rfl, iI_add, ee]
      have h10 : iI ((24 : Int) - 8 * (k : Nat)) + (-8 : Int32) = iI ((24 : Int) - 8 * ((k + 1 : Nat) : Int)) := by rw [show (-8 : Int32) = iI (-8) from rfl, iI_add, e8]
      unfold bX10_putBytes_3
      rw [if_neg hlt, if_pos (sK0 sg), bd_of (sR0_0 s1), if_pos (sK1 sg), k2, hL, if_pos hin, zlet_eq, hcl, zlet_eq, zlet_eq, zI_sI, z2_a _ _ _ _ (by decide), k2, h9, h10]
      rfl
    · rw [zI_sI, z2_k _ _ _ hj, zI_sI, z2_a _ _ _ _ (by decide)]
      exact k1 j hj
    · rw [zI_sI, z2_a _ _ _ _ (by decide), zI_sI]
      by_cases q : i = k
      · rw [q, z2_at]
      · rw [z2_k _ _ _ (by omega)]
        exact k3 i (by omega)
    · rw [zI_sI, z2_a _ _ _ _ (by decide), zI_sI, z2_k _ _ _ (by omega)]
      exact k4 j hj
  · intro z ⟨h, ez, fm, k1, k2, k3, k4⟩
    subst ez
    refine ⟨0, (iI ((24 : Int) - 8 * ((4 : Nat) : Int)), h), ?_, rfl, fm, k1, k2, k3, k4⟩
    show bX10_putBytes_3 g 0 x (iI ((24 : Int) - 8 * ((4 : Nat) : Int))) h = _
    unfold bX10_putBytes_3
    rw [if_pos (by decide)]
theorem put_c {h0 : Zh} {x : Int32} {n : Nat} (s0 : St h0) (hn : n + 4 ≤ 900) (h1 : zI h0 0 1 = iI n) : ∃ h', fX10_putBytes 0 x h0 = some h' ∧ Fm [0, 1] h0 h' ∧ (∀ j, j ≠ 1 → zI h' 0 j = zI h0 0 j) ∧ zI h' 0 1 = iI ((n + 4 : Nat) : Int) ∧ (∀ k, k < 4 → zI h' 1 (n + k) = bv x ((24 : Int) - 8 * (k : Nat))) ∧ ∀ j, j < n → zI h' 1 j = zI h0 1 j := by
  obtain ⟨x', h', e, r⟩ := put_3 (g := h0) (x := x) s0 s0 hn h1
  refine ⟨h', ?_, r⟩
  unfold fX10_putBytes
  rw [zlet_eq]
  exact (lp_bd e)
def fdA (a b c d e : Int32) (k : Nat) : Int32 := if k < 4 then a else if k < 8 then b else if k < 12 then c else if k < 16 then d else e
def fdB (a b c d e : Int32) (k : Nat) : Int32 := bv (fdA a b c d e k) ((24 : Int) - 8 * ((k % 4 : Nat) : Int))
def Vw.fed (v : Vw) (a b c d e : Int32) : Vw := mkV (v.tl + 20) (fun j => if j < v.tl then v.tp j else (fdB a b c d e (j - v.tl)).toInt) v.ft v.fp v.on v.td v.t v.rc v.ru v.el v.eh v.er v.sd v.ic v.il v.ik v.ih v.ir
theorem feed_c {h : Zh} {v : Vw} {u tr ra : Nat} {a b c d e : Int32} (ok : VOK v) (cc : KC h v u tr ra) (hl : v.tl + 20 ≤ 900) : ∃ h1, fX10_feed 0 a b c d e h = some (iI ((v.tl + 20 : Nat) : Int), h1) ∧ KC h1 (v.fed a b c d e) u tr ra ∧ Fc (CFr tr ra) h h1 ∧ zI h1 0 8 = zI h 0 8 := by
  have s := cc.1
  have h1 := cc.2.1
  obtain ⟨h2, p1, p2, p3, p4, p5, p6⟩ := put_c (x := a) s (by omega) h1
  have s2 := s.fm p2
  obtain ⟨h3, q1, q2, q3, q4, q5, q6⟩ := put_c (x := b) s2 (by omega) p4
  have s3 := s2.fm q2
  obtain ⟨h4, r1, r2, r3, r4, r5, r6⟩ := put_c (x := c) s3 (by omega) q4
  have s4 := s3.fm r2
  obtain ⟨h5, t1, t2, t3, t4, t5, t6⟩ := put_c (x := d) s4 (by omega) r4
  have s5 := s4.fm t2
  obtain ⟨h6, w1, w2, w3, w4, w5, w6⟩ := put_c (x := e) s5 (by omega) t4
  have fm : Fm [0, 1] h h6 := (((p2.tr q2).tr r2).tr t2).tr w2
  have g0 : ∀ j, j ≠ 1 → zI h6 0 j = zI h 0 j := fun j hj => by rw [w3 j hj, t3 j hj, r3 j hj, q3 j hj, p3 j hj]
  have g1 : ∀ k, k < 20 → zI h6 1 (v.tl + k) = fdB a b c d e k := by
    intro k hk
    unfold fdB fdA
    by_cases c1 : k < 4
    · rw [if_pos c1, w6 _ (by omega), t6 _ (by omega), r6 _ (by omega), q6 _ (by omega), p5 k c1, Nat.mod_eq_of_lt c1]
    · rw [if_neg c1]
      by_cases c2 : k < 8
      · rw [if_pos c2, w6 _ (by omega), t6 _ (by omega), r6 _ (by omega), show v.tl + k = v.tl + 4 + (k - 4) by omega, q5 (k - 4) (by omega), show k % 4 = k - 4 by omega]
      · rw [if_neg c2]
        by_cases c3 : k < 12
        · rw [if_pos c3, w6 _ (by omega), t6 _ (by omega), show v.tl + k = v.tl + 4 + 4 + (k - 8) by omega, r5 (k - 8) (by omega), show k % 4 = k - 8 by omega]
        · rw [if_neg c3]
          by_cases c4 : k < 16
          · rw [if_pos c4, w6 _ (by omega), show v.tl + k = v.tl + 4 + 4 + 4 + (k - 12) by omega, t5 (k - 12) (by omega), show k % 4 = k - 12 by omega]
          · rw [if_neg c4, show v.tl + k = v.tl + 4 + 4 + 4 + 4 + (k - 16) by omega, w5 (k - 16) (by omega), show k % 4 = k - 16 by omega]
  have g2 : ∀ j, j < v.tl → zI h6 1 j = zI h 1 j := fun j hj => by rw [w6 _ (by omega), t6 _ (by omega), r6 _ (by omega), q6 _ (by omega), p6 _ hj]
  have e6 : zI h6 0 1 = iI ((v.tl + 20 : Nat) : Int) := by rw [w4]
  refine ⟨h6, ?_, ?_, fm.c.mono (fun i _ hi => by simp at hi; unfold CFr; omega), g0 8 (by decide)⟩
  · unfold fX10_feed
    rw [zlet_eq, if_pos (sK0 s), h1, iI_lit, iI_add, iI_lit, if_pos (by rw [iI_le ⟨by omega, by omega⟩ ⟨by decide, by decide⟩]; show (v.tl : Int) + 20 ≤ 900; omega), bd_of p1, bd_of q1, bd_of r1, bd_of t1, bd_of w1, e6]
  · obtain ⟨a1, a2, a3, a4, a5, a6, a7, a8, a9, a10, a11, a12, a13, CR, OW, se, sp, b1, b2, b3, b4, b5, b6, b7, b8, b9⟩ := cc
    have hN := a1.1
    have htd := ok.2.1
    have hic := ok.2.2.2.2.1
    have nA : ∀ i, 2 ≤ i → i ∉ [0, 1] := fun i hi => by simp; omega
    have ee : ∀ i, 2 ≤ i → zI h6 i = zI h i := fun i hi => fm.I (nA i hi)
    refine ⟨a1.fm fm, e6, fun j hj => ?_, by rw [g0 9 (by decide)]; exact a4, by rw [g0 10 (by decide)]; exact a5, by rw [fm.R]; exact a6, by rw [fm.R]; exact a7, by rw [g0 7 (by decide)]; exact a8, a9.fc fm.c (by show v.td + 3 + 2 < zN h; omega) (nA _ (by show 2 ≤ v.td + 3; omega)) (nA _ (by show 2 ≤ v.td + 3 + 1; omega)) (nA _ (by show 2 ≤ v.td + 3 + 2; omega)), fun k hk => (a10 k hk).fc fm.c (by have hk' : k < v.ic := hk; omega) (nA _ (by omega)) (nA _ (by omega)) (nA _ (by omega)), by rw [fm.N]; exact a11, by rw [fm.N]; exact a12, fun i hi => by rw [ee _ (by omega)]; exact a13 i hi, CR, OW, se, sp, b1, b2, b3, by rw [fm.N]; exact b4, ?_, b6.fc fm.c hN (nA _ (by omega)) (nA _ (by omega)), b7.fc fm.c hN (nA _ (by omega)) (nA _ (by omega)), fun q => ?_, fun q => ?_⟩
    · have hj' : j < v.tl + 20 := hj
      show zI h6 1 j = iI (if j < v.tl then v.tp j else (fdB a b c d e (j - v.tl)).toInt)
      by_cases q : j < v.tl
      · rw [if_pos q, g2 j q]; exact a3 j q
      · rw [if_neg q, iI_of, ← g1 (j - v.tl) (by omega), show v.tl + (j - v.tl) = j by omega]
    · unfold Pot at b5 ⊢
      rw [fm.S, fm.L]
      exact b5
    · show zI h6 v.td 0 = iI 0 ∧ zI h6 v.td 3 = iI 0 ∧ ∀ j, j < 11 → zI h6 (v.td + 1) j = iI 0
      rw [ee _ (by omega), ee _ (by omega)]
      exact b8 q
    · obtain ⟨rdy, lg⟩ := b9 q
      exact ⟨rdy, lg.fc (a1.fm fm) fm.c (fun i hi => by simp at hi; omega)⟩
theorem feed_23 {g h0 : Zh} {a b c d e : Int32} {n : Nat} (sg : St g) (s0 : St h0) (hn : n + 20 ≤ 900) (h6 : zI h0 76 6 = iI n) : ∃ x' h', lp (fun q : Int32 × Zh => bX12_feed_23 g 76 a b c d e q.1 q.2) zB (iI 0, h0) = some (1, (x', h')) ∧ Fm [76, 77] h0 h' ∧ (∀ j, j ≠ 6 → zI h' 76 j = zI h0 76 j) ∧ zI h' 76 6 = iI ((n + 20 : Nat) : Int) ∧ (∀ k, k < 20 → zI h' 77 (n + k) = fdB a b c d e k) ∧ ∀ j, j < n → zI h' 77 j = zI h0 77 j := by
  have := lp_cnt (body := fun q : Int32 × Zh => bX12_feed_23 g 76 a b c d e q.1 q.2) 20 (fun k z => ∃ h, z = ((iI (k : Int), h) : Int32 × Zh) ∧ Fm [76, 77] h0 h ∧ (∀ j, j ≠ 6 → zI h 76 j = zI h0 76 j) ∧ zI h 76 6 = iI ((n + k : Nat) : Int) ∧ (∀ i, i < k → zI h 77 (n + i) = fdB a b c d e i) ∧ ∀ j, j < n → zI h 77 j = zI h0 77 j) (fun e' z => e' = 1 ∧ Fm [76, 77] h0 z.2 ∧ (∀ j, j ≠ 6 → zI z.2 76 j = zI h0 76 j) ∧ zI z.2 76 6 = iI ((n + 20 : Nat) : Int) ∧ (∀ k, k < 20 → zI z.2 77 (n + k) = fdB a b c d e k) ∧ ∀ j, j < n → zI z.2 77 j = zI h0 77 j) ?_ ?_ (by omega) (s := (iI 0, h0)) ⟨h0, rfl, Fm.rf, fun _ _ => rfl, h6, fun i hi => by omega, fun _ _ => rfl⟩
  · obtain ⟨e', z, l1, l2, l3, l4, l5, l6, l7⟩ := this
    have e0 : e' = 0 := by omega
    subst e0
    exact ⟨z.1, z.2, l1, l3, l4, l5, l6, l7⟩
  · intro k z hk ⟨h, ez, fm, k1, k2, k3, k4⟩
    subst ez
    have s1 := s0.fm fm
    have ee : ((n + k : Nat) : Int) + 1 = ((n + (k + 1) : Nat) : Int) := by omega
    refine Or.inl ⟨(iI ((k + 1 : Nat) : Int), zsI (zsI h 77 (n + k) (fdB a b c d e k)) 76 6 (iI ((n + (k + 1) : Nat) : Int))), ?_, _, rfl, (fm.tr (Fm_sI _ _ _ (by simp))).tr (Fm_sI _ _ _ (by simp)), fun j hj => ?_, by rw [zI_sI, z2_at], fun i hi => ?_, fun j hj => ?_⟩
    · show bX12_feed_23 g 76 a b c d e (iI k) h = _
      have hz : zrem (iI (k : Int)) (4 : Int32) = iI ((k % 4 : Nat) : Int) := by
        rw [show (4 : Int32) = iI 4 from rfl, iI_rem ⟨by omega, by omega⟩ ⟨by decide, by decide⟩ (by omega) (by decide)]
        rfl
      have hsh : (24 : Int32) - (8 : Int32) * zrem (iI (k : Int)) (4 : Int32) = iI ((24 : Int) - 8 * ((k % 4 : Nat) : Int)) := by
        rw [hz, show (8 : Int32) = iI 8 from rfl, iI_mul, show (24 : Int32) = iI 24 from rfl, iI_sub]
      have hin : zin (iI ((n + k : Nat) : Int)) 900 := zin_N (by omega) (by decide)
      have hL := sL77 sg
      have hcl : (iI ((n + k : Nat) : Int)).toNatClampNeg = n + k := iI_clampN (by omega)
      have h9 : iI ((n + k : Nat) : Int) + 1 = iI ((n + (k + 1) : Nat) : Int) := by rw [show (1 : Int32) = iI 1 from rfl, iI_add, ee]
      have h10 : iI (k : Int) + 1 = iI ((k + 1 : Nat) : Int) := by rw [show (1 : Int32) = iI 1 from rfl, iI_add]; rfl
      have hj : ∀ t0 : Int32, jX12_feed_76 g 76 a b c d e (iI k) t0 h = some (0, (iI ((k + 1 : Nat) : Int), zsI (zsI h 77 (n + k) (bv t0 ((24 : Int) - 8 * ((k % 4 : Nat) : Int)))) 76 6 (iI ((n + (k + 1) : Nat) : Int)))) := fun t0 => by
        unfold jX12_feed_76
        rw [bd_of (sR76_5 s1), if_pos (by decide), if_pos (sK77 sg), k2, hL, if_pos hin, zlet_eq, hcl, zlet_eq, zlet_eq, zI_sI, z2_a _ _ _ _ (by decide), k2, h9, h10, hsh]
        rfl
      have le : ∀ m : Nat, m < 100 → ((iI (m : Int) ≤ iI (k : Int)) ↔ m ≤ k) := fun m hm => by
        rw [iI_le ⟨by omega, by omega⟩ ⟨by omega, by omega⟩]; omega
      have l20 := le 20 (by decide)
      have l4 := le 4 (by decide)
      have l8 := le 8 (by decide)
      have l12 := le 12 (by decide)
      have l16 := le 16 (by decide)
      unfold bX12_feed_23 fdB fdA
      rw [if_neg (show ¬ (20 : Int32) ≤ iI (k : Int) from fun q => by have := l20.mp q; omega)]
      by_cases c1 : k < 4
      · rw [if_neg (show ¬ (4 : Int32) ≤ iI (k : Int) from fun q => by have := l4.mp q; omega), if_pos c1, hj]
      · rw [if_pos (show (4 : Int32) ≤ iI (k : Int) from l4.mpr (by omega)), if_neg c1]
        by_cases c2 : k < 8
        · rw [if_neg (show ¬ (8 : Int32) ≤ iI (k : Int) from fun q => by have := l8.mp q; omega), if_pos c2, hj]
        · rw [if_pos (show (8 : Int32) ≤ iI (k : Int) from l8.mpr (by omega)), if_neg c2]
          by_cases c3 : k < 12
          · rw [if_neg (show ¬ (12 : Int32) ≤ iI (k : Int) from fun q => by have := l12.mp q; omega), if_pos c3, hj]
          · rw [if_pos (show (12 : Int32) ≤ iI (k : Int) from l12.mpr (by omega)), if_neg c3]
            by_cases c4 : k < 16
            · rw [if_neg (show ¬ (16 : Int32) ≤ iI (k : Int) from fun q => by have := l16.mp q; omega), if_pos c4, hj]
            · rw [if_pos (show (16 : Int32) ≤ iI (k : Int) from l16.mpr (by omega)), if_neg c4, hj]
    · rw [zI_sI, z2_k _ _ _ hj, zI_sI, z2_a _ _ _ _ (by decide)]
      exact k1 j hj
    · rw [zI_sI, z2_a _ _ _ _ (by decide), zI_sI]
      by_cases q : i = k
      · rw [q, z2_at]
      · rw [z2_k _ _ _ (by omega)]
        exact k3 i (by omega)
    · rw [zI_sI, z2_a _ _ _ _ (by decide), zI_sI, z2_k _ _ _ (by omega)]
      exact k4 j hj
  · intro z ⟨h, ez, fm, k1, k2, k3, k4⟩
    subst ez
    refine ⟨0, (iI ((20 : Nat) : Int), h), ?_, rfl, fm, k1, k2, k3, k4⟩
    show bX12_feed_23 g 76 a b c d e (iI ((20 : Nat) : Int)) h = _
    unfold bX12_feed_23
    rw [if_pos (by decide)]
theorem op_feed {h : Zh} {u : Nat} {a b c d e : Int32} (inv : Inv h u) (hu : u ≤ 59000) : OpR (fX10_feed 0 a b c d e) (fX12_feed 76 a b c d e) h u := by
  obtain ⟨v, tb, tr, ra, ok, cc, m, w1, w2, w3⟩ := id inv
  have s := cc.1
  have h1 := cc.2.1
  have h6 := m.2.1
  have htl := ok.1.1
  have le9 : ∀ hh : Zh, True := fun _ => trivial
  by_cases p : v.tl + 20 ≤ 900
  · obtain ⟨h2, e1, c2, f2, e8⟩ := feed_c (a := a) (b := b) (c := c) (d := d) (e := e) ok cc p
    have s2 := c2.1
    have htr := cc.2.2.2.2.2.2.2.2.2.2.1
    have hra := cc.2.2.2.2.2.2.2.2.2.2.2.1
    have m2 := m.fc s2 f2 htr hra
    have m0 := m2.s76 (j := 0) (x := iI 0) (by decide)
    obtain ⟨x', h3, l1, l2, l3, l4, l5, l6⟩ := feed_23 (g := h2) (a := a) (b := b) (c := c) (d := d) (e := e) s2 m0.1 p m0.2.1
    have ok' : VOK (v.fed a b c d e) := by
      obtain ⟨o1, o2⟩ := ok
      refine ⟨⟨p, fun j hj => ?_⟩, o2⟩
      have hj' : j < v.tl + 20 := hj
      show -128 ≤ (if j < v.tl then v.tp j else (fdB a b c d e (j - v.tl)).toInt) ∧ (if j < v.tl then v.tp j else (fdB a b c d e (j - v.tl)).toInt) < 128
      by_cases q : j < v.tl
      · rw [if_pos q]; exact o1.2 j q
      · rw [if_neg q]; exact bv_b _ _
    have fz : MFz h2 h3 := (MFz.sI _ _).tr (MFz.of l2 (by simp))
    have m3 : KM h3 (v.fed a b c d e) tr ra := by
      obtain ⟨a1, a2, a3, a4, a5, a6⟩ := m0
      refine ⟨a1.fm l2, l4, fun j hj => ?_, by rw [l3 13 (by decide)]; exact a4, by rw [l2.R]; exact a5, fun on => ?_⟩
      · have hj' : j < v.tl + 20 := hj
        show zI h3 77 j = iI (if j < v.tl then v.tp j else (fdB a b c d e (j - v.tl)).toInt)
        by_cases q : j < v.tl
        · rw [if_pos q, l6 j q]; exact a3 j q
        · rw [if_neg q, iI_of, ← l5 (j - v.tl) (by omega), show v.tl + (j - v.tl) = j by omega]
      · obtain ⟨b1, b2, b3, b4, b5, b6⟩ := a6 on
        obtain ⟨c1, c2, c3, c4, c5, c6, c7, c8, c9⟩ := b1
        have htr1 := c1.2.1
        have ntr : tr ∉ [76, 77] := by simp; omega
        have nra : ra ∉ [76, 77] := by simp; omega
        refine ⟨⟨c1.fm2 l2 (l3 17 (by decide)) (l3 24 (by decide)) (by simp), by rw [l2.R]; exact c2, c3, by rw [l2.K]; exact c4, by rw [l2.L]; exact c5, by rw [l2.I ntr]; exact c6, c7, by rw [l2.I nra]; exact c8, ?_⟩, by rw [l3 43 (by decide)]; exact b2, by rw [l3 45 (by decide)]; exact b3, by rw [l3 44 (by decide)]; exact b4, by rw [l2.I (by decide), l2.I (by decide)]; exact b5, by rw [l2.I (by decide), l2.I (by decide), l2.I (by decide), l2.I (by decide)]; exact b6⟩
        unfold KT at c9 ⊢
        rw [l3 35 (by decide), l3 36 (by decide), l2.I (by decide)]
        exact c9
    refine ⟨iI ((v.tl + 20 : Nat) : Int), h2, h3, e1, ?_, v.fed a b c d e, tb, tr, ra, ok', (c2.mz ok' fz).mono (by omega), m3, ?_, ?_, ?_⟩
    · unfold fX12_feed
      rw [zlet_eq, if_pos (sK76 s2), zlet_eq, show zI (zsI h2 76 0 0) 76 6 = iI v.tl from m0.2.1, if_pos (by rw [show (20 : Int32) = iI 20 from rfl, iI_add, show (900 : Int32) = iI 900 from rfl, iI_le ⟨by omega, by omega⟩ ⟨by decide, by decide⟩]; omega)]
      refine (lp_bd l1).trans ?_
      show some (zI h3 76 6, h3) = _
      rw [l4]
    · obtain ⟨S, fS, hS⟩ := fz
      rw [fS.I (fun q => by have := hS _ q; omega), e8]; exact w1
    · rw [l3 1 (by decide), zI_sI, z2_k _ _ _ (by decide)]
      have := f2.I (i := 76) (by have := s.1; omega) (by unfold CFr; omega)
      rw [this]; exact w2
    · rw [l3 2 (by decide), zI_sI, z2_k _ _ _ (by decide)]
      have := f2.I (i := 76) (by have := s.1; omega) (by unfold CFr; omega)
      rw [this]; exact w3
  · refine OpR.idle (r := iI (-1)) inv ?_ ?_
    · unfold fX10_feed
      rw [zlet_eq, if_pos (sK0 s), h1, if_neg (by rw [show (20 : Int32) = iI 20 from rfl, iI_add, show (900 : Int32) = iI 900 from rfl, iI_le ⟨by omega, by omega⟩ ⟨by decide, by decide⟩]; omega)]
      rfl
    · unfold fX12_feed
      rw [zlet_eq, if_pos (sK76 s), zlet_eq, show zI (zsI h 76 0 0) 76 6 = iI v.tl from h6, if_neg (by rw [show (20 : Int32) = iI 20 from rfl, iI_add, show (900 : Int32) = iI 900 from rfl, iI_le ⟨by omega, by omega⟩ ⟨by decide, by decide⟩]; omega)]
      rfl
