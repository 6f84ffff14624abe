/-! the class's reader: the text -/
theorem Fm.s {S : List Nat} {a b : Zh} (f : Fm S a b) {x : Nat} (hx : x ∈ S) (k : Nat) (v : Int32) : Fm S a (zsI b x k v) := f.tr (Fm_sI _ _ _ hx)
theorem clear0_c {h : Zh} {d : Nat} (hk : zK h d = 0) : ∃ h', fX0_clear d h = some h' ∧ Fm [d] h h' := by
  unfold fX0_clear
  rw [zlet_eq, if_pos hk]
  simp only [zlet_eq]
  have m : d ∈ [d] := by simp
  exact ⟨_, rfl, Fm.rf.s m _ _ |>.s m _ _ |>.s m _ _ |>.s m _ _ |>.s m _ _ |>.s m _ _ |>.s m _ _ |>.s m _ _ |>.s m _ _ |>.s m _ _ |>.s m _ _ |>.s m _ _ |>.s m _ _⟩
theorem clear9_c {h : Zh} {ts : Nat} (s : St h) (hts : ts = 13 ∨ ts = 19) : ∃ h', fX9_clear ts h = some h' ∧ Fm [ts, ts + 1, ts + 3] h h' ∧ zI h' ts 0 = iI 0 ∧ zI h' ts 3 = iI 0 ∧ zI h' (ts + 3) 2 = iI 0 ∧ zI h' (ts + 3) 3 = iI 0 := by
  obtain ⟨kt, rt1, rt2, rt4, kd, kr, lr, k3, -⟩ := tdS s hts
  have f1 : Fm [ts] h (zsI h ts 0 (iI 0)) := Fm_sI _ _ _ (by simp)
  have v0 : zI (zsI h ts 0 (iI 0)) ts 0 = iI 0 := by rw [zI_sI, z2_at]
  unfold fX9_clear
  rw [zlet_eq, if_pos kt, zlet_eq, show (0 : Int32) = iI 0 from rfl]
  generalize zsI h ts 0 (iI 0) = hA at *
  obtain ⟨hB, e2, f2⟩ := clear0_c (h := hA) (d := ts + 1) (by rw [f1.K]; exact kd)
  rw [show zR hA ts 1 = some (ts + 1) by rw [f1.R]; exact rt1, Option.bind_some, if_pos kd, e2, Option.bind_some, zlet_eq]
  have f3 : Fm [ts] hB (zsI hB ts 3 (iI 0)) := Fm_sI _ _ _ (by simp)
  have w3 : zI (zsI hB ts 3 (iI 0)) ts 3 = iI 0 := by rw [zI_sI, z2_at]
  have w0 : zI (zsI hB ts 3 (iI 0)) ts 0 = iI 0 := by rw [zI_sI, z2_k _ _ _ (by decide), f2.o (by simp)]; exact v0
  generalize zsI hB ts 3 (iI 0) = hC at *
  have e3 : fX1_clear (ts + 3) hC = some (zsI (zsI hC (ts + 3) 2 (iI 0)) (ts + 3) 3 (iI 0)) := by
    unfold fX1_clear
    rw [zlet_eq, if_pos (by rw [f3.K, f2.K, f1.K]; exact k3)]
    rfl
  rw [show zR hC ts 4 = some (ts + 3) by rw [f3.R, f2.R, f1.R]; exact rt4, Option.bind_some, if_pos k3, e3, Option.bind_some]
  have f4 : Fm [ts + 3] hC (zsI (zsI hC (ts + 3) 2 (iI 0)) (ts + 3) 3 (iI 0)) := (Fm_sI _ _ _ (by simp)).tr (Fm_sI _ _ _ (by simp))
  refine ⟨_, rfl, (f1.mono (by simp)).tr ((f2.mono (by simp)).tr ((f3.mono (by simp)).tr (f4.mono (by simp)))), ?_, ?_, ?_, ?_⟩
  · rw [f4.o (by simp)]; exact w0
  · rw [f4.o (by simp)]; exact w3
  · rw [zI_sI, z2_k _ _ _ (by decide), zI_sI, z2_at]
  · rw [zI_sI, z2_at]
def S0 : PS := (false, (0, 0, 0, 0, false, false, false), 0, fun _ => 0, fun _ => 0, 0, fun _ _ => 0, fun _ _ => 0, fun _ => 0)
theorem S0_k (n : Nat) : PSk n S0 := ⟨fun z => (by cases z), fun _ => ⟨rfl, rfl⟩, by decide, fun i hi => absurd hi (Nat.not_lt_zero _), by decide, fun i hi => absurd hi (Nat.not_lt_zero _)⟩
theorem CS.st {h h' : Zh} {ts : Nat} {tx : Nat → Int} {n p p' : Nat} {S : PS} (cs : CS h ts tx n p S) (f : Fm [2] h h') (q' : RD h' tx n p') : CS h' ts tx n p' S := by
  obtain ⟨q, hts, r4, bg, dk, t3, ru, l2, l3, ev⟩ := cs
  have o : ∀ x, x ≠ 2 → ∀ j, zI h' x j = zI h x j := fun x hx j => f.o (by simp [hx]) j
  refine ⟨q', hts, by rw [f.R]; exact r4, by rw [o _ (by omega)]; exact bg, fun b => (dk b).fm f (by simp <;> omega), by rw [o _ (by omega)]; exact t3, fun i hi => ?_, by rw [o _ (by omega)]; exact l2, by rw [o _ (by omega)]; exact l3, fun e he => ?_⟩
  · rw [o _ (by omega), o 10 (by omega), o 11 (by omega)]; exact ru i hi
  · rw [o _ (by omega), o (ts + 5) (by omega)]; exact ev e he
theorem pA_s (tx : Nat → Int) (n f : Nat) (S : PS) (p : Nat) : pA tx n (f + 1) S p = bn (pG tx n S p) fun S q => if tkK tx n q = 0 then rt S q else if tkK tx n q = 3 then pA tx n f S (tkN tx n q) else er 1 (skp tx n q) := rfl
def hT0 (h : Zh) (n ts : Nat) : Zh := zsR (zsI (zsR h 2 2 (some 1)) 2 3 (iI n)) 2 4 (some ts)
theorem readText_c {h : Zh} {ts n : Nat} {tx : Nat → Int} (s : St h) (hts : ts = 13 ∨ ts = 19) (hn : n ≤ 900) (htx : ∀ j, j < n → zI h 1 j = iI (tx j) ∧ -128 ≤ tx j ∧ tx j < 128) : CRt (fX7_readText 2 1 (iI n) ts h) (hT0 h n ts) (cl6 ts) 0 (pA tx n (n + 1) S0 0) (fun S p w h' => w = iI 1 ∧ CS h' ts tx n p S ∧ PSk n S) := by
  have sT : St (hT0 h n ts) := ((s.sR _ (by decide)).fm (Fm_sI (S := [2]) _ _ _ (by simp))).sR _ (by decide)
  have T2 : zR (hT0 h n ts) 2 2 = some 1 := by
    show z2 (z2 (zR h) 2 2 (some 1)) 2 4 (some ts) 2 2 = some 1
    rw [z2_k _ _ _ (by decide), z2_at]
  have T4 : zR (hT0 h n ts) 2 4 = some ts := by
    show z2 (z2 (zR h) 2 2 (some 1)) 2 4 (some ts) 2 4 = some ts
    rw [z2_at]
  have T3 : zI (hT0 h n ts) 2 3 = iI n := by
    show z2 (zI h) 2 3 (iI n) 2 3 = iI n
    rw [z2_at]
  have T1 : ∀ j, zI (hT0 h n ts) 1 j = zI h 1 j := fun j => by
    show z2 (zI h) 2 3 (iI n) 1 j = _
    rw [z2_a _ _ _ _ (by decide)]
  have emin : (if Int32.ofNat (zL h 1) < iI (n : Int) then Int32.ofNat (zL h 1) else iI (n : Int)) = iI (n : Int) := by
    rw [sL1 s, show Int32.ofNat 900 = iI 900 from rfl, if_neg]
    rw [iI_lt ⟨by decide, by decide⟩ ⟨by omega, by omega⟩]; omega
  obtain ⟨kt, -⟩ := tdS s hts
  obtain ⟨hA, a1, a2, a3, a4, a5, a6⟩ := clear9_c sT hts
  have e0 : fX7_readText 2 1 (iI n) ts h = (fX7_step 2 (zsI (zsI (zsI hA 2 0 (iI 0)) 2 1 (iI 0)) 2 10 (iI 0))).bind fun h12 => (lp (fun q : Int32 × Zh => bX7_readText_49 h 2 q.1 q.2) zB ((0 : Int32), h12)).bind fun q => kX7_readText_49 h 2 q.1 q.2.1 q.2.2 := by
    unfold fX7_readText
    rw [zlet_eq, if_pos (sK2 s), zlet_eq, if_pos (sK1 s), zlet_eq, emin, zlet_eq]
    show ((zR (hT0 h n ts) 2 4).bind fun r_6 => if zK h r_6 = 9 then (fX9_clear r_6 (hT0 h n ts)).bind _ else none) = _
    rw [T4, Option.bind_some, if_pos kt, a1, Option.bind_some]
    rfl
  have f2 : Fm [2] hA (zsI (zsI (zsI hA 2 0 (iI 0)) 2 1 (iI 0)) 2 10 (iI 0)) := ((Fm_sI _ _ _ (by simp)).tr (Fm_sI _ _ _ (by simp))).tr (Fm_sI _ _ _ (by simp))
  have b0 : zI (zsI (zsI (zsI hA 2 0 (iI 0)) 2 1 (iI 0)) 2 10 (iI 0)) 2 0 = iI 0 := by rw [zI_sI, z2_k _ _ _ (by decide), zI_sI, z2_k _ _ _ (by decide), zI_sI, z2_at]
  have b1 : zI (zsI (zsI (zsI hA 2 0 (iI 0)) 2 1 (iI 0)) 2 10 (iI 0)) 2 1 = iI 0 := by rw [zI_sI, z2_k _ _ _ (by decide), zI_sI, z2_at]
  have b10 : zI (zsI (zsI (zsI hA 2 0 (iI 0)) 2 1 (iI 0)) 2 10 (iI 0)) 2 10 = iI ((0 : Nat) : Int) := by rw [zI_sI, z2_at]; rfl
  have b3 : zI (zsI (zsI (zsI hA 2 0 (iI 0)) 2 1 (iI 0)) 2 10 (iI 0)) 2 3 = iI n := by rw [zI_sI, z2_k _ _ _ (by decide), zI_sI, z2_k _ _ _ (by decide), zI_sI, z2_k _ _ _ (by decide), a2.o (by simp <;> omega)]; exact T3
  rw [e0]
  generalize zsI (zsI (zsI hA 2 0 (iI 0)) 2 1 (iI 0)) 2 10 (iI 0) = hB at *
  have sB : St hB := (sT.fm a2).fm f2
  have RB : zR hB = zR (hT0 h n ts) := by rw [f2.R, a2.R]
  have tc : TxC hB tx n := ⟨hn, b3, by rw [RB]; exact T2, fun j hj => by
    rw [f2.o (by decide), a2.o (by simp <;> omega), T1]
    exact htx j hj⟩
  obtain ⟨hC, c1, c2, c3, c4⟩ := fX7_step_eq sB tc (Nat.zero_le _) b10
  have qC : RD hC tx n 0 := ⟨sB.fm c2, c4, by rw [c3 0 (by unfold R4; omega)]; exact b0, by rw [c3 1 (by unfold R4; omega)]; exact b1⟩
  have fT : Fm (cl6 ts) (hT0 h n ts) hC := (a2.mono (by simp [cl6])).tr ((f2.mono (by simp [cl6])).tr (c2.mono (by simp [cl6])))
  have oC : ∀ x, x ≠ 2 → ∀ j, zI hC x j = zI hA x j := fun x hx j => by rw [c2.o (by simp [hx]), f2.o (by simp [hx])]
  have cs : CS hC ts tx n 0 S0 := ⟨qC, hts, by rw [c2.R, RB]; exact T4, by rw [oC _ (by omega)]; exact a3, fun z => (by cases z), by rw [oC _ (by omega)]; exact a4, fun i hi => absurd hi (Nat.not_lt_zero _), by rw [oC _ (by omega)]; exact a5, by rw [oC _ (by omega)]; exact a6, fun i hi => absurd hi (Nat.not_lt_zero _)⟩
  rw [c1, Option.bind_some]
  refine cr_st fT (fun x hx => hx) ?_
  have := lp_cnt (body := fun q : Int32 × Zh => bX7_readText_49 h 2 q.1 q.2) (n + 1)
    (fun i z => ∃ h1 S p1, z = ((iI (i : Nat), h1) : Int32 × Zh) ∧ Fm (cl6 ts) hC h1 ∧ CS h1 ts tx n p1 S ∧ PSk n S ∧ pA tx n (n + 1) S0 0 = pA tx n (n + 1 - i) S p1)
    (fun e z => Fm (cl6 ts) hC z.2 ∧ ((e = 1 ∧ ∃ f y, pA tx n (n + 1) S0 0 = er f y ∧ zI z.2 2 0 = iI f ∧ zI z.2 2 1 = iI y) ∨ (e = 2 ∧ ∃ S p1, pA tx n (n + 1) S0 0 = rt S p1 ∧ CS z.2 ts tx n p1 S ∧ PSk n S) ∨ ((e = 3 ∨ e = 4) ∧ ∃ p1, RD z.2 tx n p1 ∧ pA tx n (n + 1) S0 0 = er 1 (skp tx n p1))))
    ?_ ?_ (by omega) (s := ((0 : Int32), hC)) ⟨hC, S0, 0, rfl, Fm.rf, cs, S0_k n, rfl⟩
  · obtain ⟨e, ⟨z1, z2⟩, l1, l2, l3⟩ := this
    have l2' : Fm (cl6 ts) hC z2 := l2
    rw [l1, Option.bind_some]
    show CRt (kX7_readText_49 h 2 (e + 1) z1 z2) _ _ _ _ _
    rcases l3 with ⟨a1, f, y, a3, a4, a5⟩ | ⟨a1, S, p1, a3, a4, a5⟩ | ⟨a1, p1, a3, a4⟩
    · rw [a3]
      have e0 : e = 0 := by omega
      subst e0
      exact CRt.er (h' := z2) rfl l2' a4 a5
    · rw [a3]
      have e0 : e = 1 := by omega
      subst e0
      exact CRt.rt (h' := z2) (w := iI 1) rfl l2' ⟨rfl, a4, a5⟩
    · obtain ⟨hg, g1, g2, g3, g4⟩ := fail_c a3 1
      rw [a4]
      refine CRt.er (h' := hg) ?_ (l2'.tr (g2.mono (by simp [cl6]))) g3 g4
      unfold kX7_readText_49
      rw [if_neg (by omega), if_neg (by omega)]
      by_cases c : e + 1 = 3
      · rw [if_pos c]
        exact (zc_of g1 _).trans rfl
      · rw [if_neg c]
        exact (zc_of g1 _).trans rfl
  · intro i z hi ⟨h1, S, p1, ez, fm, cs1, ok1, hpa⟩
    subst ez
    show (∃ s', bX7_readText_49 h 2 (iI i) h1 = some (0, s') ∧ _) ∨ ∃ e s', bX7_readText_49 h 2 (iI i) h1 = some (e + 1, s') ∧ _
    have q1 := cs1.1
    have r3 : zI h1 2 3 = iI n := q1.2.1.2.1.2.1
    have hlt : ¬ iI (n : Int) < iI (i : Int) := by rw [iI_lt ⟨by omega, by omega⟩ ⟨by omega, by omega⟩]; omega
    rw [show n + 1 - i = (n - i) + 1 by omega, pA_s tx n (n - i) S p1] at hpa
    rw [hpa, show n + 1 - (i + 1) = n - i by omega]
    obtain ⟨w, h2, g1, g2, g3⟩ := readLine_c cs1 ok1
    have eb : bX7_readText_49 h 2 (iI i) h1 = if w = 0 then some (1, (iI i, h2)) else if (zI h2 2 8) = 0 then some (2, (iI i, h2)) else if (zI h2 2 8) = ((3 : Int32)) then (fX7_step 2 h2).bind fun h15 => zlet (iI i + (1 : Int32)) fun y16 => some (0, (y16, h15)) else some (3, (iI i, h2)) := by
      unfold bX7_readText_49
      rw [r3, if_neg hlt]
      exact zc_of g1 _
    rw [eb]
    rcases g3 with ⟨f, y, z1, z2, z3, z4⟩ | ⟨S', y, z1, z2, z3⟩
    · rw [z1, bn_er, z2]
      exact Or.inr ⟨0, (iI i, h2), rfl, fm.tr g2, Or.inl ⟨rfl, f, y, rfl, z3, z4⟩⟩
    · obtain ⟨hy, ok2⟩ := pG_k q1.p.1 ok1 S' y z1
      rw [z1, bn_rt, z2, if_neg (by decide)]
      have q2 := z3.1
      have r8 := q2.2.1.2.2.1
      have hkb := tkK_b tx n y
      by_cases c0 : tkK tx n y = 0
      · rw [if_pos c0, if_pos (show zI h2 2 8 = 0 by rw [r8, c0]; rfl)]
        exact Or.inr ⟨1, (iI i, h2), rfl, fm.tr g2, Or.inr (Or.inl ⟨rfl, S', y, rfl, z3, ok2⟩)⟩
      · have n0 : ¬ zI h2 2 8 = 0 := by rw [r8, show (0 : Int32) = iI 0 from rfl, iI_eq ⟨by omega, by omega⟩ ⟨by decide, by decide⟩]; omega
        rw [if_neg c0, if_neg n0]
        by_cases c3 : tkK tx n y = 3
        · obtain ⟨h5, t1, t2, t3⟩ := step_c q2
          rw [if_pos c3, if_pos (show zI h2 2 8 = (3 : Int32) by rw [r8, c3]; rfl), t1, Option.bind_some, zlet_eq]
          refine Or.inl ⟨_, rfl, h5, S', tkN tx n y, ?_, fm.tr (g2.tr (t2.mono (by simp [cl6]))), z3.st t2 t3, ok2, rfl⟩
          show ((iI (i : Int) + iI 1, h5) : Int32 × Zh) = _
          rw [iI_add]
          rfl
        · have n3 : ¬ zI h2 2 8 = (3 : Int32) := by rw [r8, show (3 : Int32) = iI 3 from rfl, iI_eq ⟨by omega, by omega⟩ ⟨by decide, by decide⟩]; omega
          rw [if_neg c3, if_neg n3]
          exact Or.inr ⟨2, (iI i, h2), rfl, fm.tr g2, Or.inr (Or.inr ⟨Or.inl rfl, y, q2, rfl⟩)⟩
  · intro z ⟨h1, S, p1, ez, fm, cs1, ok1, hpa⟩
    subst ez
    rw [Nat.sub_self] at hpa
    have q1 := cs1.1
    have r3 : zI h1 2 3 = iI n := q1.2.1.2.1.2.1
    have hlt : iI (n : Int) < iI ((n + 1 : Nat) : Int) := by rw [iI_lt ⟨by omega, by omega⟩ ⟨by omega, by omega⟩]; omega
    refine ⟨3, (iI ((n + 1 : Nat) : Int), h1), ?_, fm, Or.inr (Or.inr ⟨Or.inr rfl, p1, q1, hpa⟩)⟩
    show bX7_readText_49 h 2 (iI ((n + 1 : Nat) : Int)) h1 = _
    unfold bX7_readText_49
    rw [r3, if_pos hlt]
