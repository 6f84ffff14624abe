/-! a trick is told: the class's side -/
def rdB (td i : Nat) : Prop := i = 2 ∨ i = 10 ∨ i = 11 ∨ i = 12 ∨ (32 - td ≤ i ∧ i ≤ 37 - td)
def rdA (td i : Nat) : Prop := i = 0 ∨ rdB td i
theorem LG.fc3 {A : Nat → Prop} {h h' : Zh} {td : Nat} {t : Tk} {rc : Nat} {ru : Nat → Nat} {CR OW se sp : Nat} {rdy : Bool} (q : LG h td t rc ru CR OW se sp rdy) (s : St h') (f : Fc A h h') (hA : ∀ i, A i → rdA td i) : LG h' td t rc ru CR OW se sp rdy := by
  obtain ⟨a1, a2, a3, a4, a5, a6, a7, a8, a9⟩ := q
  have hN := a1.1
  have htd := a3.1
  have nA : ∀ i, ¬ rdA td i → ¬ A i := fun i hi m => hi (hA i m)
  unfold rdA rdB at nA
  obtain ⟨b1, b2, b3, b4, b5, b6⟩ := a3
  refine ⟨s, by rw [f.R (by omega) (nA _ (by omega))]; exact a2, ⟨b1, by rw [f.I (by omega) (nA _ (by omega))]; exact b2, b3.fc f (by omega) (nA _ (by omega)), by rw [f.I (by omega) (nA _ (by omega))]; exact b4, b5, by rw [f.I (by omega) (nA _ (by omega))]; exact b6⟩, a4.fc f hN (nA _ (by omega)), a5.fc f hN (nA _ (by omega)) (nA _ (by omega)), a6.fc f hN (nA _ (by omega)) (nA _ (by omega)), a7.fc f hN (nA _ (by omega)) (nA _ (by omega)), fun i hi => (a8 i hi).fc f (by omega) (nA _ (by omega)) (nA _ (by omega)), a9.fc f hN (nA _ (by omega)) (nA _ (by omega)) (nA _ (by omega))⟩
def Vw.flt (v : Vw) (f q : Nat) : Vw := mkV 0 v.tp f q v.on v.td v.t v.rc v.ru v.el v.eh v.er v.sd v.ic v.il v.ik v.ih v.ir
def Vw.tld (v : Vw) (S : PS) : Vw := mkV 0 v.tp 0 0 true (32 - v.td) (Ptk S) (Prc S) (Pru S) (Pel S) (fun e => hix (Ptk S) (Pec S e)) (fun e => erw (Ptk S) (Pes S e) (Pet S e)) 0 0 v.il v.ik v.ih v.ir
theorem flt_ok {v : Vw} (ok : VOK v) (f q : Nat) : VOK (v.flt f q) := by
  obtain ⟨a, b⟩ := ok
  exact ⟨⟨Nat.zero_le _, fun j hj => absurd hj (Nat.not_lt_zero _)⟩, b⟩
theorem erw_b {t : Tk} {s : Nat → Nat} {m : Nat} (hs : ∀ i, i < tsh t → s i < tn t) (hd : dst s (tsh t)) (hm : m < tT t) : erw t s m < tR t := by
  have h1 := rowN_lt (n := tn t) (w := s) (tsh t) hd hs
  have h2 : (rowN (tn t) s (tsh t) + 1) * tT t ≤ ff (tn t) (tsh t) * tT t := Nat.mul_le_mul_right _ h1
  unfold erw tR
  rw [Nat.add_mul, Nat.one_mul] at h2
  omega
theorem tld_ok {v : Vw} {n : Nat} {S : PS} (ok : VOK v) (k : PSk n S) (bg : Pbg S = true) : VOK (v.tld S) := by
  obtain ⟨-, htd, -⟩ := ok
  obtain ⟨o1, o2, o3, o4, o5, o6⟩ := k
  have tok := o1 bg
  refine ⟨⟨Nat.zero_le _, fun j hj => absurd hj (Nat.not_lt_zero _)⟩, ?_, ?_, Nat.zero_le _, Nat.zero_le _, fun z => (by cases z), fun _ => ⟨tok, o3, fun i hi => (o4 i hi).1, fun e he => ?_, fun k hk => absurd hk (Nat.not_lt_zero _)⟩⟩
  · show 32 - v.td = 13 ∨ 32 - v.td = 19
    omega
  · show Pel S ≤ 20
    omega
  · obtain ⟨e1, e2, e3, e4, e5⟩ := o6 e he
    exact ⟨(hix_ok tok e1 e2).1, erw_b e3 e4 e5⟩
theorem KC.flt {h h1 : Zh} {v : Vw} {u tr ra f q : Nat} (ok : VOK v) (c : KC h v u tr ra) (s1 : St h1) (fc : Fc (rdA v.td) h h1) (hN1 : zN h1 = zN h) (hS : zS h1 = zS h) (hL : zL h1 = zL h) (e1 : zI h1 0 1 = iI 0) (e9 : zI h1 0 9 = iI f) (e10 : zI h1 0 10 = iI q) (e7 : zI h1 0 7 = zI h 0 7) (R0 : zR h1 0 = zR h 0) : KC h1 (v.flt f q) u tr ra := by
  obtain ⟨a1, a2, a3, a4, a5, a6, a7, a8, a9, a10, a11, a12, a13, CR, OW, se, sp, b1, b2, b3, b4, b5, b6, b7, b8, b9⟩ := c
  have hN := a1.1
  have htd := ok.2.1
  have hic := ok.2.2.2.2.1
  have nA : ∀ i, ¬ (i = 0 ∨ (i = 2 ∨ i = 10 ∨ i = 11 ∨ i = 12 ∨ (32 - v.td ≤ i ∧ i ≤ 37 - v.td))) → ¬ rdA v.td i := fun i hi m => hi m
  have e : ∀ i, i < 101 → ¬ (i = 0 ∨ (i = 2 ∨ i = 10 ∨ i = 11 ∨ i = 12 ∨ (32 - v.td ≤ i ∧ i ≤ 37 - v.td))) → zI h1 i = zI h i := fun i h100 hi => fc.I (by omega) (nA i hi)
  refine ⟨s1, e1, fun j hj => absurd hj (Nat.not_lt_zero _), e9, e10, by rw [R0]; exact a6, by rw [R0]; exact a7, by rw [e7]; exact a8, a9.fc fc (by omega) (nA _ (by omega)) (nA _ (by omega)) (nA _ (by omega)), fun k hk => (a10 k hk).fc fc (by have hk' : k < v.ic := hk; omega) (nA _ (by omega)) (nA _ (by omega)) (nA _ (by omega)), by rw [hN1]; exact a11, by rw [hN1]; exact a12, fun i hi => by rw [e _ (by omega) (by omega)]; exact a13 i hi, CR, OW, se, sp, b1, b2, b3, by rw [hN1]; exact b4, ?_, b6.fc fc hN (nA _ (by omega)) (nA _ (by omega)), b7.fc fc hN (nA _ (by omega)) (nA _ (by omega)), fun z => ?_, fun z => ?_⟩
  · unfold Pot at b5 ⊢
    rw [hS, hL]
    exact b5
  · show zI h1 v.td 0 = iI 0 ∧ zI h1 v.td 3 = iI 0 ∧ ∀ j, j < 11 → zI h1 (v.td + 1) j = iI 0
    rw [e v.td (by omega) (by omega), e (v.td + 1) (by omega) (by omega)]
    exact b8 z
  · obtain ⟨rdy, lg⟩ := b9 z
    exact ⟨rdy, lg.fc3 s1 fc (fun i hi => hi)⟩
theorem pG_b {tx : Nat → Int} {n : Nat} {S : PS} {p : Nat} : Pz (pG tx n S p) (fun S' _ => Pbg S' = true) := by
  have hb : ∀ (a b : Nat), Pz (bn (cB tx n S a b p) (pS tx n)) (fun _ _ => Pbg S = true) := fun a b => by
    unfold cB
    exact Pz.bn (Q := fun _ _ => Pbg S = true) (Pz.ite (fun c => Pz.ite (fun c2 => Pz.rt c) (fun _ => Pz.er)) (fun _ => Pz.er)) fun _ q hq => Pz.rt hq
  have tr : ∀ {α : Type} {r : PR α}, Pz r (fun _ _ => True) := fun _ _ _ => trivial
  unfold pG
  refine Pz.ite (fun _ => ?_) (fun _ => Pz.ite (fun _ => ?_) (fun _ => Pz.ite (fun _ => ?_) (fun _ => Pz.er)))
  · unfold pD
    exact Pz.ite (fun _ => Pz.er) (fun _ => Pz.bn tr fun t q _ => Pz.rt rfl)
  · unfold pR
    refine Pz.bn (hb _ _) fun _ q b => Pz.bn tr fun _ q _ => Pz.bn tr fun k q _ => Pz.rt b
  · unfold pE
    exact Pz.bn (hb _ _) fun _ q b => Pz.bn tr fun _ q _ => Pz.bn tr fun k q _ => Pz.bn tr fun _ q _ => Pz.bn tr fun _ q _ => Pz.rt b
theorem pA_b {tx : Nat → Int} {n : Nat} : ∀ (f : Nat) (S : PS) (p : Nat), Pz (pA tx n f S p) (fun S' _ => Pbg S' = true)
  | 0, S, p => Pz.er
  | f + 1, S, p => by
    rw [pA_s]
    exact Pz.bn pG_b fun S' q b => Pz.ite (fun _ => Pz.rt b) (fun _ => Pz.ite (fun _ => pA_b f _ _) (fun _ => Pz.er))
theorem hT0_fc (h : Zh) (n ts : Nat) : Fc (fun i => i = 2) h (hT0 h n ts) := by
  have a : Fc (fun i => i = 2) h (zsR h 2 2 (some 1)) := Fc_sR (A := fun i => i = 2) h 2 (some 1) rfl
  have b : Fc (fun i => i = 2) (zsR h 2 2 (some 1)) (zsI (zsR h 2 2 (some 1)) 2 3 (iI n)) := (Fm_sI (S := [2]) _ _ _ (by simp)).c.mono (fun i _ hi => by simpa using hi)
  have c : Fc (fun i => i = 2) (zsI (zsR h 2 2 (some 1)) 2 3 (iI n)) (hT0 h n ts) := Fc_sR (A := fun i => i = 2) _ 4 (some ts) rfl
  exact (a.tr b (fun i _ hi => hi)).tr c (fun i _ hi => hi)
theorem trick_c {h : Zh} {v : Vw} {u tr ra n : Nat} (ok : VOK v) (c : KC h v u tr ra) (hn : n ≤ v.tl) : ∃ h1, Fc (CFr tr ra) h h1 ∧ ((∃ f q, pA v.tp n (n + 1) S0 0 = er f q ∧ fX10_trick 0 (iI n) h = some (iI (-1), zsI h1 0 8 (iI 4)) ∧ KC h1 (v.flt f q) u tr ra) ∨ ∃ S p, pA v.tp n (n + 1) S0 0 = rt S p ∧ PSk n S ∧ fX10_trick 0 (iI n) h = some (iI (Prc S), zsI h1 0 8 (iI 0)) ∧ KC h1 (v.tld S) u tr ra) := by
  have c0 := c
  obtain ⟨a1, a2, a3, a4, a5, a6, a7, a8, a9, a10, a11, a12, a13, CR, OW, se, sp, b1, b2, b3, b4, b5, b6, b7, b8, b9⟩ := c
  have hN := a1.1
  have htd := ok.2.1
  obtain ⟨htl, htp⟩ := ok.1
  have hts : 32 - v.td = 13 ∨ 32 - v.td = 19 := by omega
  have f1 : Fm [0] h (zsI h 0 1 (iI 0)) := Fm_sI _ _ _ (by simp)
  have v1 : zI (zsI h 0 1 (iI 0)) 0 1 = iI 0 := by rw [zI_sI, z2_at]
  have vj : ∀ j, j ≠ 1 → zI (zsI h 0 1 (iI 0)) 0 j = zI h 0 j := fun j hj => by rw [zI_sI, z2_k _ _ _ hj]
  have x0 : ¬ iI (n : Int) < (0 : Int32) := by rw [show (0 : Int32) = iI 0 from rfl, iI_lt ⟨by omega, by omega⟩ ⟨by decide, by decide⟩]; omega
  have x1 : iI (n : Int) ≤ iI (v.tl : Int) := by rw [iI_le ⟨by omega, by omega⟩ ⟨by omega, by omega⟩]; omega
  unfold fX10_trick
  rw [zlet_eq, if_neg x0, if_pos (sK0 a1), a2, if_pos x1, zlet_eq, show (0 : Int32) = iI 0 from rfl]
  generalize zsI h 0 1 (iI 0) = h5 at *
  have s5 := a1.fm f1
  rw [sR0_2 s5, Option.bind_some, sR0_0 s5, Option.bind_some, show zR h5 0 4 = some (32 - v.td) by rw [f1.R]; exact a7, Option.bind_some, if_pos (sK2 a1)]
  obtain ⟨w, h10, e1, fm, m⟩ := readText_c (ts := 32 - v.td) (n := n) (tx := v.tp) s5 hts (by omega) (fun j hj => ⟨by rw [f1.o (by decide)]; exact a3 j (by omega), (htp j (by omega)).1, (htp j (by omega)).2⟩)
  rw [e1, zc2_some]
  have fT := hT0_fc h5 n (32 - v.td)
  have fB : Fc (rdB v.td) h5 h10 := (fT.mono (fun i _ hi => Or.inl hi)).tr fm.c (fun i _ hi => by
    unfold cl6 at hi
    show i = 2 ∨ i = 10 ∨ i = 11 ∨ i = 12 ∨ (32 - v.td ≤ i ∧ i ≤ 37 - v.td)
    simp only [List.mem_cons, List.not_mem_nil, or_false] at hi
    omega)
  have nB0 : ¬ rdB v.td 0 := fun z => by unfold rdB at z; omega
  have N5 : zN h5 = zN h := f1.N
  have I0 : zI h10 0 = zI h5 0 := fB.I (by omega) nB0
  have R0 : zR h10 0 = zR h 0 := by rw [fB.R (by omega) nB0, f1.R]
  have NN : zN h10 = zN h := by rw [fm.N]; exact N5
  have SS : zS h10 = zS h := by rw [fm.S]; exact f1.S
  have LL : zL h10 = zL h := by rw [fm.L]; exact f1.L
  have s10 : St h10 := by
    refine St.fm ?_ fm
    exact ((s5.sR _ (by decide)).fm (Fm_sI (S := [2]) _ _ _ (by simp))).sR _ (by decide)
  have r02 : zR h10 0 2 = some 2 := sR0_2 s10
  rw [r02, Option.bind_some, if_pos (sK2 a1), zlet_eq]
  have g1 : Fm [0] h10 (zsI h10 0 9 (zI h10 2 0)) := Fm_sI _ _ _ (by simp)
  rw [show zR (zsI h10 0 9 (zI h10 2 0)) 0 2 = some 2 from r02, Option.bind_some, if_pos (sK2 a1), zlet_eq, show zI (zsI h10 0 9 (zI h10 2 0)) 2 1 = zI h10 2 1 by rw [zI_sI, z2_a _ _ _ _ (by decide)]]
  have g2 : Fm [0] h10 (zsI (zsI h10 0 9 (zI h10 2 0)) 0 10 (zI h10 2 1)) := g1.tr (Fm_sI _ _ _ (by simp))
  have y9 : zI (zsI (zsI h10 0 9 (zI h10 2 0)) 0 10 (zI h10 2 1)) 0 9 = zI h10 2 0 := by rw [zI_sI, z2_k _ _ _ (by decide), zI_sI, z2_at]
  have y10 : zI (zsI (zsI h10 0 9 (zI h10 2 0)) 0 10 (zI h10 2 1)) 0 10 = zI h10 2 1 := by rw [zI_sI, z2_at]
  have yj : ∀ j, j ≠ 9 → j ≠ 10 → zI (zsI (zsI h10 0 9 (zI h10 2 0)) 0 10 (zI h10 2 1)) 0 j = zI h5 0 j := fun j j9 j10 => by rw [zI_sI, z2_k _ _ _ j10, zI_sI, z2_k _ _ _ j9, I0]
  generalize zsI (zsI h10 0 9 (zI h10 2 0)) 0 10 (zI h10 2 1) = h17 at *
  have s17 := s10.fm g2
  have R17 : zR h17 = zR h10 := g2.R
  have fB' : Fc (rdA v.td) h5 h10 := fB.mono (fun i _ hi => Or.inr hi)
  have g2' : Fc (rdA v.td) h10 h17 := g2.c.mono (fun i _ hi => Or.inl (by simpa using hi))
  have f1' : Fc (rdA v.td) h h5 := f1.c.mono (fun i _ hi => Or.inl (by simpa using hi))
  have fA : Fc (rdA v.td) h h17 := (f1'.tr fB' (fun i _ hi => hi)).tr g2' (fun i _ hi => hi)
  have aC : ∀ i, rdA v.td i → CFr tr ra i := fun i hi => by
    unfold rdA rdB at hi
    unfold CFr
    omega
  have N17 : zN h17 = zN h := by rw [g2.N]; exact NN
  have S17 : zS h17 = zS h := by rw [g2.S]; exact SS
  have L17 : zL h17 = zL h := by rw [g2.L]; exact LL
  rcases m with ⟨f, q, z1, zw, z3, z4⟩ | ⟨S, p, z1, zw, cs, k⟩
  · refine ⟨h17, fA.mono (fun i _ hi => aC i hi), Or.inl ⟨f, q, z1, ?_, ?_⟩⟩
    · rw [zw, if_pos (by decide), show fX10_refuse 0 (4 : Int32) h17 = _ from refuse_c s17 4]
      rfl
    · exact c0.flt ok s17 fA N17 S17 L17 (by rw [yj 1 (by decide) (by decide)]; exact v1) (by rw [y9]; exact z3) (by rw [y10]; exact z4) (by rw [yj 7 (by decide) (by decide), vj 7 (by decide)]) (by rw [R17, R0])
  · have bg := pA_b _ _ _ S p z1
    obtain ⟨o1, o2, o3, o4, o5, o6⟩ := id k
    have tok := o1 bg
    obtain ⟨q, -, r4, bg0, dk, t3, ru, l2, l3, ev⟩ := cs
    have r03 : zR h17 0 3 = some v.td := by rw [R17, R0]; exact a6
    have r04 : zR h17 0 4 = some (32 - v.td) := by rw [R17, R0]; exact a7
    have k17 : ∀ x, x ≠ 0 → ∀ j, zI h17 x j = zI h10 x j := fun x hx j => g2.o (by simp [hx]) j
    rw [zw, if_neg (by decide), r03, Option.bind_some, r04, Option.bind_some, zlet_eq, zlet_eq, zlet_eq]
    have s22 : St (zsI (zsR (zsR h17 0 3 (some (32 - v.td))) 0 4 (some v.td)) 0 7 (iI 0)) := ((s17.sR _ (by decide)).sR _ (by decide)).fm (Fm_sI (S := [0]) _ _ _ (by simp))
    have f22 : Fc (rdA v.td) h17 (zsI (zsR (zsR h17 0 3 (some (32 - v.td))) 0 4 (some v.td)) 0 7 (iI 0)) := ((Fc_sR (A := rdA v.td) h17 3 (some (32 - v.td)) (Or.inl rfl)).tr (Fc_sR (A := rdA v.td) _ 4 (some v.td) (Or.inl rfl)) (fun i _ hi => hi)).tr ((Fm_sI (S := [0]) _ _ _ (by simp)).c.mono (B := rdA v.td) (fun i _ hi => Or.inl (by simpa using hi))) (fun i _ hi => hi)
    have q03 : zR (zsI (zsR (zsR h17 0 3 (some (32 - v.td))) 0 4 (some v.td)) 0 7 (iI 0)) 0 3 = some (32 - v.td) := by
      show z2 (z2 (zR h17) 0 3 (some (32 - v.td))) 0 4 (some v.td) 0 3 = _
      rw [z2_k _ _ _ (by decide), z2_at]
    have q04 : zR (zsI (zsR (zsR h17 0 3 (some (32 - v.td))) 0 4 (some v.td)) 0 7 (iI 0)) 0 4 = some v.td := by
      show z2 (z2 (zR h17) 0 3 (some (32 - v.td))) 0 4 (some v.td) 0 4 = _
      rw [z2_at]
    have k22 : ∀ x, x ≠ 0 → ∀ j, zI (zsI (zsR (zsR h17 0 3 (some (32 - v.td))) 0 4 (some v.td)) 0 7 (iI 0)) x j = zI h10 x j := fun x hx j => by
      rw [zI_sI, z2_a _ _ _ _ hx, zI_sR, zI_sR, k17 x hx]
    have w7 : zI (zsI (zsR (zsR h17 0 3 (some (32 - v.td))) 0 4 (some v.td)) 0 7 (iI 0)) 0 7 = iI 0 := by rw [zI_sI, z2_at]
    have wj : ∀ j, j ≠ 7 → zI (zsI (zsR (zsR h17 0 3 (some (32 - v.td))) 0 4 (some v.td)) 0 7 (iI 0)) 0 j = zI h17 0 j := fun j hj => by
      rw [zI_sI, z2_k _ _ _ hj, zI_sR, zI_sR]
    have N22 : zN (zsI (zsR (zsR h17 0 3 (some (32 - v.td))) 0 4 (some v.td)) 0 7 (iI 0)) = zN h17 := rfl
    have S22 : zS (zsI (zsR (zsR h17 0 3 (some (32 - v.td))) 0 4 (some v.td)) 0 7 (iI 0)) = zS h17 := rfl
    have L22 : zL (zsI (zsR (zsR h17 0 3 (some (32 - v.td))) 0 4 (some v.td)) 0 7 (iI 0)) = zL h17 := rfl
    have K22 : zK (zsI (zsR (zsR h17 0 3 (some (32 - v.td))) 0 4 (some v.td)) 0 7 (iI 0)) = zK h17 := rfl
    have K17 : zK h17 = zK h10 := g2.K
    generalize zsI (zsR (zsR h17 0 3 (some (32 - v.td))) 0 4 (some v.td)) 0 7 (iI 0) = h22 at *
    have fA22 : Fc (rdA v.td) h h22 := fA.tr f22 (fun i _ hi => hi)
    have nA : ∀ i, ¬ (i = 0 ∨ (i = 2 ∨ i = 10 ∨ i = 11 ∨ i = 12 ∨ (32 - v.td ≤ i ∧ i ≤ 37 - v.td))) → ¬ rdA v.td i := fun i hi m => hi m
    have td22 : TD h22 (32 - v.td) (Ptk S) (Prc S) (Pru S) := by
      refine ⟨hts, by rw [k22 _ (by omega), bg0, bg]; rfl, ?_, by rw [k22 _ (by omega)]; exact t3, o3, fun i hi => ⟨by rw [k22 _ (by omega)]; exact (ru i hi).1, (o4 i hi).1⟩⟩
      have d := dk bg
      unfold Dk at d ⊢
      have e : ∀ j, zI h22 (32 - v.td + 1) j = zI h10 (32 - v.td + 1) j := fun j => k22 _ (by omega) j
      rw [K22, K17]
      simp only [e]
      exact d
    obtain ⟨h26, d1, lg, d3, d4, d5, d6⟩ := fX4_begin_eq (td := 32 - v.td) tok s22 td22 (b6.fc fA22 hN (nA _ (by omega)) (nA _ (by omega))) (b7.fc fA22 hN (nA _ (by omega)) (nA _ (by omega))) (fun i hi => by rw [fA22.I (by omega) (nA _ (by omega))]; exact a13 i hi)
    have s26 := lg.1
    have nb0 : ¬ bgA 0 := fun z => by unfold bgA at z; omega
    have I26 : ∀ x, x < 101 → ¬ bgA x → zI h26 x = zI h22 x := fun x h1 h2 => d3.I (by omega) h2
    have R26 : zR h26 0 = zR h22 0 := d3.R (by omega) nb0
    have t26 := lg.2.2.1
    rw [sR0_5 s22, Option.bind_some, q03, Option.bind_some, if_pos (sK25 a1), d1, Option.bind_some, show zR h26 0 3 = some (32 - v.td) by rw [R26]; exact q03, Option.bind_some, if_pos (by rcases hts with e | e <;> rw [e]; exact sK13 a1; exact sK19 a1), t26.2.2.2.1, answer_c s26]
    have nbt : ∀ x, 13 ≤ x → x < 25 → ¬ bgA x := fun x h1 h2 z => by unfold bgA at z; omega
    refine ⟨h26, (fA22.mono (B := CFr tr ra) (fun i _ hi => aC i hi)).tr d3 (fun i _ hi => by unfold bgA at hi; unfold CFr; omega), Or.inr ⟨S, p, z1, k, rfl, ?_⟩⟩
    refine ⟨s26, ?_, fun j hj => absurd hj (Nat.not_lt_zero _), ?_, ?_, by rw [R26]; exact q03, ?_, ?_, ?_, fun k hk => absurd hk (Nat.not_lt_zero _), by omega, by omega, fun i hi => (lg.2.2.2.2.2.2.2.1 i hi).1, CR, OW, se, sp, b1, b2, b3, by omega, ?_, lg.2.2.2.2.1, lg.2.2.2.2.2.2.1, fun z => (by cases z), fun _ => ⟨false, lg⟩⟩
    · rw [I26 0 (by decide) nb0, wj 1 (by decide), yj 1 (by decide) (by decide)]; exact v1
    · rw [I26 0 (by decide) nb0, wj 9 (by decide), y9]; exact q.2.2.1
    · rw [I26 0 (by decide) nb0, wj 10 (by decide), y10]; exact q.2.2.2
    · rw [R26, q04]
      show some v.td = some (32 - (32 - v.td))
      exact congrArg some (by omega)
    · rw [I26 0 (by decide) nb0]; exact w7
    · show DV h26 (32 - v.td + 3) (Pel S) 0 (fun e => hix (Ptk S) (Pec S e)) (fun e => erw (Ptk S) (Pes S e) (Pet S e))
      unfold DV
      rw [I26 (32 - v.td + 3) (by omega) (nbt _ (by omega) (by omega)), I26 (32 - v.td + 3 + 1) (by omega) (nbt _ (by omega) (by omega)), I26 (32 - v.td + 3 + 2) (by omega) (nbt _ (by omega) (by omega))]
      refine ⟨by rw [k22 _ (by omega)]; exact l2, by rw [k22 _ (by omega)]; exact l3, fun e he => ?_⟩
      rw [k22 _ (by omega), k22 (32 - v.td + 3 + 2) (by omega)]
      exact ev e he
    · unfold Pot at b5 ⊢
      rw [d5, d6, S22, L22, S17, L17]
      exact b5
