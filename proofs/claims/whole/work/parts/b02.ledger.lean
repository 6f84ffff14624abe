/-! the ledger's state -/
def apN (ρ σ : Nat → Int) (H : Nat) : Nat := cnS (fun x => decide (ρ x ≠ σ x)) H
theorem TD.fc {A : Nat → Prop} {h h' : Zh} {td : Nat} {t : Tk} {rc : Nat} {ru : Nat → Nat} (q : TD h td t rc ru) (f : Fc A h h') (hN : 101 ≤ zN h) (hA : ∀ i, 13 ≤ i → i ≤ 21 → ¬ A i) : TD h' td t rc ru := by
  obtain ⟨a, b, c, d, e, g⟩ := q
  have n0 : ¬ A td := hA _ (by omega) (by omega)
  have n1 : ¬ A (td + 1) := hA _ (by omega) (by omega)
  have n2 : ¬ A (td + 2) := hA _ (by omega) (by omega)
  exact ⟨a, by rw [f.I (by omega) n0]; exact b, c.fc f (by omega) n1, by rw [f.I (by omega) n0]; exact d, e, by rw [f.I (by omega) n2]; exact g⟩
theorem RS0.fc {A : Nat → Prop} {h h' : Zh} {sp : Nat} (q : RS0 h sp) (f : Fc A h h') (hN : 101 ≤ zN h) (h1 : ¬ A 38) (h2 : ¬ A 41) : RS0 h' sp := by
  unfold RS0
  rw [f.I (by omega) h1, f.I (by omega) h2]
  exact q
theorem PRd.fc {A : Nat → Prop} {h h' : Zh} {t : Tk} {rdy : Bool} (q : PRd h t rdy) (f : Fc A h h') (hN : 101 ≤ zN h) (h1 : ¬ A 42) (h2 : ¬ A 43) : PRd h' t rdy := by
  unfold PRd
  rw [f.I (by omega) h1, f.I (by omega) h2]
  exact q
theorem PI.fc {A : Nat → Prop} {h h' : Zh} {CR OW se : Nat} (q : PI h CR OW se) (f : Fc A h h') (hN : 101 ≤ zN h) (h1 : ¬ A 42) (h2 : ¬ A 52) : PI h' CR OW se := by
  obtain ⟨a1, a2, a3, a4, a5, a6, a7, a8, a9, a10, a11, a12, a13⟩ := q
  have := f.1
  refine ⟨by rw [f.R (by omega) h1]; exact a1, by rw [f.R (by omega) h1]; exact a2, by rw [f.K a10]; exact a3, by rw [f.K a11]; exact a4, by rw [f.L a10]; exact a5, by rw [f.L a11]; exact a6, a7, a8, a9, by omega, by omega, by rw [f.I (by omega) h1]; exact a12, ?_⟩
  unfold Mr0
  rw [f.I (by omega) h2]
  exact a13
/-- two cards at a place and behind it, and their tilts, change places -/
def swC (w : Nat → Nat) (i j : Nat) : Nat := if j = i then w (i + 1) else if j = i + 1 then w i else w j
def swT (s i : Nat) : Nat := if s.testBit i = s.testBit (i + 1) then s else s ^^^ (3 * 2 ^ i)
def swR (t : Tk) (r i : Nat) : Nat := rowN (tn t) (swC (unp (tn t) (tsh t) (r / tT t)) i) (tsh t) * tT t + swT (r % tT t) i
def snP (t : Tk) (ρ : Nat → Int) : Prop := ∀ x, x < tH t → 0 ≤ ρ x → ∀ i, i + 1 < tsh t → ∀ y, y < tH t → ρ y ≠ (swR t (ρ x).toNat i : Nat)
def boP (t : Tk) (ρ : Nat → Int) : Prop := ∀ x y, x < tH t → y < tH t → 0 ≤ ρ x → 0 ≤ ρ y → ∀ i j, i + 1 < tsh t → j + 1 < tsh t → swR t (ρ x).toNat i = swR t (ρ y).toNat j → ρ x = ρ y
noncomputable def snS (t : Tk) (ρ : Nat → Int) : Bool := @decide (snP t ρ) (Classical.propDecidable _)
noncomputable def boS (t : Tk) (ρ : Nat → Int) : Bool := @decide (snP t ρ ∧ boP t ρ) (Classical.propDecidable _)
def LFd (h : Zh) (t : Tk) (k i : Nat) : Prop := zI h (54 + 2 * i) 2 = iI 1 ∧ LPt h (54 + 2 * i) (lay t k) (tH t) ∧ (zI h (54 + 2 * i) 7 = iI 0 ∨ (zI h (54 + 2 * i) 7 = iI 1 ∧ zI h (54 + 2 * i) 8 = iI (bI (snS t (lay t k))) ∧ zI h (54 + 2 * i) 9 = iI (bI (boS t (lay t k)))))
def LD (h : Zh) (t : Tk) (k i : Nat) : Prop := zI h (54 + 2 * i) 0 = iI i ∧ ((zI h (54 + 2 * i) 2 = iI 0 ∧ LPt h (54 + 2 * i) (lay t k) 0 ∧ zI h (54 + 2 * i) 7 = iI 0) ∨ LFd h t k i)
theorem LPt.fc {A : Nat → Prop} {h h' : Zh} {L x : Nat} {ρ : Nat → Int} (q : LPt h L ρ x) (f : Fc A h h') (hN : L + 1 < zN h) (h1 : ¬ A L) (h2 : ¬ A (L + 1)) : LPt h' L ρ x := by
  unfold LPt
  rw [f.I (by omega) h1, f.I hN h2]
  exact q
theorem LD.fc {A : Nat → Prop} {h h' : Zh} {t : Tk} {k i : Nat} (q : LD h t k i) (f : Fc A h h') (hN : 54 + 2 * i + 1 < zN h) (h1 : ¬ A (54 + 2 * i)) (h2 : ¬ A (54 + 2 * i + 1)) : LD h' t k i := by
  unfold LD LFd LPt
  rw [f.I (by omega) h1, f.I hN h2]
  exact q
theorem LFd.fc {A : Nat → Prop} {h h' : Zh} {t : Tk} {k i : Nat} (q : LFd h t k i) (f : Fc A h h') (hN : 54 + 2 * i + 1 < zN h) (h1 : ¬ A (54 + 2 * i)) (h2 : ¬ A (54 + 2 * i + 1)) : LFd h' t k i := by
  unfold LFd LPt
  rw [f.I (by omega) h1, f.I hN h2]
  exact q
/-- words that work; the largest deck -/
noncomputable def wwk (t : Tk) (w : Nat) : Bool := decide (¬ zfst (dup (fun x => (layW t x w : Nat))) (tH t) < tH t)
def hnO (t : Tk) (n : Nat) : Int := if tst t then pfall n (tk t) else pch n (tk t)
def rwO (t : Tk) (n : Nat) : Int := (if thd t then pch n (tsh t) else pfall n (tsh t)) * tT t
def mst (t : Tk) : Nat → Int
  | 0 => -2
  | d + 1 => if hnO t (tk t + d) ≤ rwO t (tk t + d) then (tk t + d : Nat) else mst t d
def LX (h : Zh) (t : Tk) (rc : Nat) (ru : Nat → Nat) : Prop := (∀ i j, i < rc → j < rc → zI h 62 (i * 4 + j) = iI (-3) ∨ zI h 62 (i * 4 + j) = iI (apN (lay t (ru i)) (lay t (ru j)) (tH t))) ∧ (∀ w, w < 20 → zI h 63 w = iI (-3) ∨ zI h 63 w = iI (bI (wwk t w))) ∧ (zI h 25 9 = iI (-3) ∨ zI h 25 9 = iI (mst t (201 - tk t)))
theorem LX.fc {A : Nat → Prop} {h h' : Zh} {t : Tk} {rc : Nat} {ru : Nat → Nat} (q : LX h t rc ru) (f : Fc A h h') (hN : 101 ≤ zN h) (h1 : ¬ A 62) (h2 : ¬ A 63) (h3 : ¬ A 25) : LX h' t rc ru := by
  unfold LX
  rw [f.I (by omega) h1, f.I (by omega) h2, f.I (by omega) h3]
  exact q
def LG (h : Zh) (td : Nat) (t : Tk) (rc : Nat) (ru : Nat → Nat) (CR OW se sp : Nat) (rdy : Bool) : Prop := St h ∧ zR h 25 1 = some td ∧ TD h td t rc ru ∧ HdC h t ∧ PI h CR OW se ∧ PRd h t rdy ∧ RS0 h sp ∧ (∀ i, i < 4 → LD h t (ru i) i) ∧ LX h t rc ru
theorem LG.fc {A : Nat → Prop} {h h' : Zh} {td : Nat} {t : Tk} {rc : Nat} {ru : Nat → Nat} {CR OW se sp : Nat} {rdy : Bool} (q : LG h td t rc ru CR OW se sp rdy) (s : St h') (f : Fc A h h') (hA : ∀ i, A i → i < 13 ∨ (21 < i ∧ i < 25) ∨ (26 < i ∧ i < 38) ∨ i = 39 ∨ i = 40 ∨ (43 < i ∧ i < 52) ∨ i = 53 ∨ 63 < i) : LG h' td t rc ru CR OW se sp rdy := by
  obtain ⟨a1, a2, a3, a4, a5, a6, a7, a8, a9⟩ := q
  have hN := a1.1
  have hrc := a3.2.2.2.2.1
  refine ⟨s, by rw [f.R (by omega) (fun m => by have := hA _ m; omega)]; exact a2, a3.fc f hN (fun i _ _ m => by have := hA _ m; omega), a4.fc f hN (fun m => by have := hA _ m; omega), a5.fc f hN (fun m => by have := hA _ m; omega) (fun m => by have := hA _ m; omega), a6.fc f hN (fun m => by have := hA _ m; omega) (fun m => by have := hA _ m; omega), a7.fc f hN (fun m => by have := hA _ m; omega) (fun m => by have := hA _ m; omega), fun i hi => (a8 i hi).fc f (by omega) (fun m => by have := hA _ m; omega) (fun m => by have := hA _ m; omega), a9.fc f hN (fun m => by have := hA _ m; omega) (fun m => by have := hA _ m; omega) (fun m => by have := hA _ m; omega)⟩
/-- all hands noted -/
theorem laid_64 {g h0 : Zh} {td : Nat} {t : Tk} {rc : Nat} {ru : Nat → Nat} {i sp : Nat} (tok : Tok t) (s0 : St h0) (r1 : zR h0 25 1 = some td) (tdh : TD h0 td t rc ru) (hd : HdC h0 t) (hi : i < rc) (hp : ru i = 21 → PRd h0 t true) (l : LPt h0 (54 + 2 * i) (lay t (ru i)) 0) (rs : RS h0 (fun _ => none) 0 sp) : ∃ h', lp (fun q : Int32 × Zh => bX4_laidBy_64 g 25 (iI i) (54 + 2 * i) q.1 q.2) zB (iI 0, h0) = some (1, (iI (tH t), h')) ∧ Fm [36, 37, 39, 40, 41, 54 + 2 * i, 54 + 2 * i + 1] h0 h' ∧ (∀ j, j ≠ 3 → j ≠ 4 → j ≠ 5 → j ≠ 6 → zI h' (54 + 2 * i) j = zI h0 (54 + 2 * i) j) ∧ LPt h' (54 + 2 * i) (lay t (ru i)) (tH t) ∧ RS0 h' sp := by
  obtain ⟨bn4, bn12, bu1, bu4, bnu, bk2, bk5, bkn, bp1, bp2, bpk, bH, bsp, bs1, bs4, bT1, bT16, bR1, bR2, bH1, bff, bff1⟩ := tok.b
  have hrc := tdh.2.2.2.2.1
  have hN := s0.1
  have := lp_cnt (body := fun q : Int32 × Zh => bX4_laidBy_64 g 25 (iI i) (54 + 2 * i) q.1 q.2) (tH t) (fun x z => ∃ h c, z = ((iI (x : Int), h) : Int32 × Zh) ∧ Fm [36, 37, 39, 40, 41, 54 + 2 * i, 54 + 2 * i + 1] h0 h ∧ (∀ j, j ≠ 3 → j ≠ 4 → j ≠ 5 → j ≠ 6 → zI h (54 + 2 * i) j = zI h0 (54 + 2 * i) j) ∧ LPt h (54 + 2 * i) (lay t (ru i)) x ∧ c ≤ x ∧ RS h (fsw (lay t (ru i)) x) c sp) (fun e z => e = 1 ∧ z.1 = iI (tH t) ∧ Fm [36, 37, 39, 40, 41, 54 + 2 * i, 54 + 2 * i + 1] h0 z.2 ∧ (∀ j, j ≠ 3 → j ≠ 4 → j ≠ 5 → j ≠ 6 → zI z.2 (54 + 2 * i) j = zI h0 (54 + 2 * i) j) ∧ LPt z.2 (54 + 2 * i) (lay t (ru i)) (tH t) ∧ RS0 z.2 sp) ?_ ?_ (by omega) (s := (iI 0, h0)) ⟨h0, 0, rfl, Fm.rf, fun _ _ _ _ _ => rfl, l, Nat.le_refl _, by rw [fsw_0]; exact rs⟩
  · obtain ⟨e, z, l1, l2, l3, l4, l5, l6, l7⟩ := this
    have e0 : e = 0 := by omega
    subst e0
    obtain ⟨z1, z2⟩ := z
    have l3' : z1 = iI (tH t) := l3
    rw [l3'] at l1
    exact ⟨z2, l1, l4, l5, l6, l7⟩
  · intro x z hx ⟨h, c, ez, fm, k1, k2, k3, k4⟩
    subst ez
    have s1 := s0.fm fm
    have hA : ∀ y, y ∈ [36, 37, 39, 40, 41, 54 + 2 * i, 54 + 2 * i + 1] → y < 13 ∨ 25 ≤ y := by
      intro y hy
      simp only [List.mem_cons, List.not_mem_nil, or_false] at hy
      omega
    have td1 := tdh.fm fm hA
    have m26 : 26 ∉ [36, 37, 39, 40, 41, 54 + 2 * i, 54 + 2 * i + 1] := by simp; omega
    have m42 : 42 ∉ [36, 37, 39, 40, 41, 54 + 2 * i, 54 + 2 * i + 1] := by simp; omega
    have m43 : 43 ∉ [36, 37, 39, 40, 41, 54 + 2 * i, 54 + 2 * i + 1] := by simp; omega
    have hd1 : HdC h t := by unfold HdC; rw [fm.I m26]; exact hd
    have hp1 : ru i = 21 → PRd h t true := fun e => (hp e).fc fm.c hN m42 m43
    have r11 : zR h 25 1 = some td := by rw [fm.R]; exact r1
    have hru := td1.2.2.2.2.2 i hi
    obtain ⟨h2, p1, p2⟩ := fX4_rowFor_eq tok s1 r11 td1 hd1 hx hru.2 hp1
    have s2 := s1.fm p2
    have q54 : 54 + 2 * i ∉ [36, 37] := by simp; omega
    have q55 : 54 + 2 * i + 1 ∉ [36, 37] := by simp; omega
    have k2' : LPt h2 (54 + 2 * i) (lay t (ru i)) x := k2.fc p2.c (by have := s1.1; omega) q54 q55
    have k4' := k4.fm p2 (by decide) (by decide) (by decide) (by decide)
    obtain ⟨h3, c', n1, n2, n3, n4, n5, n6⟩ := fX4_note_eq s2 (by omega) (by omega) k2' k4' (by omega) (by
      rcases lay_b tok (kind := ru i) hx with q | q
      · exact Or.inl q
      · exact Or.inr (by omega))
    obtain ⟨t1, t2, t3, t4, t5, t6, t7, -⟩ := tdS s1 td1.1
    have dk := td1.2.2.1
    refine Or.inl ⟨(iI ((x + 1 : Nat) : Int), h3), ?_, h3, c', rfl, (fm.tr (p2.mono (by simp))).tr (n2.mono (by simp)), fun j j3 j4 j5 j6 => by rw [n3 j j3 j4 j5 j6, p2.I q54, k1 j j3 j4 j5 j6], n4, by omega, n6⟩
    show bX4_laidBy_64 g 25 (iI i) (54 + 2 * i) (iI x) h = _
    unfold bX4_laidBy_64
    have hrv := hru.1
    simp (maxSteps := 1000000) (disch := (first | assumption | exact ne_b rfl | omega)) only [↓reduceIte, ↓zlet_eq, ↓bdR_sI, ↓bdR_sJ, ↓bdR_aI, zc2_some, Option.bind_some, ↓si_m1, ↓si_m2, ↓si_m3, iI_lit, iI_add, iI_sub, iI_mul, leT, leF, ltT, ltF, eqT, eqF, zinT, clI, Int.toNat_natCast, Int.reduceToNat, tN1, tNa, tN0, tNm, if_pos, if_neg, zI_sI, zI_sJ, zI_sR, zJ_sI, zJ_sJ, zJ_sR, zR_sI, zR_sJ, zR_sR, zK_sI, zK_sJ, zK_sR, zL_sI, zL_sJ, zL_sR, zI_aI, zJ_aI, zR_aI, zK_aI, zL_aI, z2_at, z2_a, z2_k, z1_self, z1_ne, true_and, and_true, bIt, bIf, Bool.false_eq_true, Bool.true_eq_false, eq_self, not_true_eq_false, not_false_eq_true, sK0, sK1, sK2, sK3, sK4, sK5, sK6, sK7, sK8, sK9, sK10, sK11, sK12, sK13, sK14, sK15, sK16, sK17, sK18, sK19, sK20, sK21, sK22, sK23, sK24, sK25, sK26, sK27, sK28, sK29, sK30, sK31, sK32, sK33, sK34, sK35, sK36, sK37, sK38, sK39, sK40, sK41, sK42, sK43, sK44, sK45, sK46, sK47, sK48, sK49, sK50, sK51, sK52, sK53, sK54, sK55, sK56, sK57, sK58, sK59, sK60, sK61, sK62, sK63, sK64, sK65, sK66, sK67, sK68, sK69, sK70, sK71, sK72, sK73, sK74, sK75, sL1, sL3, sL6, sL8, sL9, sL10, sL11, sL12, sL15, sL17, sL18, sL21, sL23, sL24, sL26, sL29, sL31, sL32, sL34, sL36, sL37, sL39, sL40, sL41, sL43, sL45, sL46, sL47, sL48, sL49, sL50, sL51, sL52, sL53, sL55, sL57, sL59, sL61, sL62, sL63, sL64, sL65, sL67, sL68, sL70, sL71, sL73, sL74, sL75, sR0_0, sR0_2, sR0_5, sR0_6, sR0_11, sR2_5, sR2_6, sR2_7, sR4_1, sR4_2, sR4_4, sR7_0, sR7_1, sR13_1, sR13_2, sR13_4, sR16_0, sR16_1, sR19_1, sR19_2, sR19_4, sR22_0, sR22_1, sR25_0, sR25_2, sR25_3, sR25_4, sR25_5, sR25_6, sR25_7, sR25_8, sR25_10, sR27_1, sR27_2, sR27_4, sR30_0, sR30_1, sR33_0, sR35_0, sR35_1, sR38_0, sR38_1, sR38_2, sR42_0, sR42_5, sR42_7, sR42_11, sR42_12, sR42_13, sR53_0, sR53_1, sR53_2, sR53_3, sR54_1, sR56_1, sR58_1, sR60_1, sR65_0, sR65_1, sR65_2, sR66_0, sR66_1, sR69_0, sR69_1, sR72_0, sR72_1, ↓sB0_0, ↓sB0_2, ↓sB0_5, ↓sB0_6, ↓sB0_11, ↓sB2_5, ↓sB2_6, ↓sB2_7, ↓sB4_1, ↓sB4_2, ↓sB4_4, ↓sB7_0, ↓sB7_1, ↓sB13_1, ↓sB13_2, ↓sB13_4, ↓sB16_0, ↓sB16_1, ↓sB19_1, ↓sB19_2, ↓sB19_4, ↓sB22_0, ↓sB22_1, ↓sB25_0, ↓sB25_2, ↓sB25_3, ↓sB25_4, ↓sB25_5, ↓sB25_6, ↓sB25_7, ↓sB25_8, ↓sB25_10, ↓sB27_1, ↓sB27_2, ↓sB27_4, ↓sB30_0, ↓sB30_1, ↓sB33_0, ↓sB35_0, ↓sB35_1, ↓sB38_0, ↓sB38_1, ↓sB38_2, ↓sB42_0, ↓sB42_5, ↓sB42_7, ↓sB42_11, ↓sB42_12, ↓sB42_13, ↓sB53_0, ↓sB53_1, ↓sB53_2, ↓sB53_3, ↓sB54_1, ↓sB56_1, ↓sB58_1, ↓sB60_1, ↓sB65_0, ↓sB65_1, ↓sB65_2, ↓sB66_0, ↓sB66_1, ↓sB69_0, ↓sB69_1, ↓sB72_0, ↓sB72_1, ↓bd_of r11, ↓bd_of t2, ↓bd_of t3, t1, t6, t7, dk.fK, dk.f9, hrv, ↓zc_of p1, ↓bd_of n1]
    rfl
  · intro z ⟨h, c, ez, fm, k1, k2, k3, k4⟩
    subst ez
    have s1 := s0.fm fm
    have hA : ∀ y, y ∈ [36, 37, 39, 40, 41, 54 + 2 * i, 54 + 2 * i + 1] → y < 13 ∨ 25 ≤ y := by
      intro y hy
      simp only [List.mem_cons, List.not_mem_nil, or_false] at hy
      omega
    have td1 := tdh.fm fm hA
    have r11 : zR h 25 1 = some td := by rw [fm.R]; exact r1
    obtain ⟨t1, t2, t3, t4, t5, t6, t7, -⟩ := tdS s1 td1.1
    have dk := td1.2.2.1
    refine ⟨0, (iI (tH t), h), ?_, rfl, rfl, fm, k1, k2, k4.z⟩
    show bX4_laidBy_64 g 25 (iI i) (54 + 2 * i) (iI (tH t)) h = _
    unfold bX4_laidBy_64
    simp (maxSteps := 1000000) (disch := (first | assumption | exact ne_b rfl | omega)) only [↓reduceIte, ↓zlet_eq, ↓bdR_sI, ↓bdR_sJ, ↓bdR_aI, zc2_some, Option.bind_some, ↓si_m1, ↓si_m2, ↓si_m3, iI_lit, iI_add, iI_sub, iI_mul, leT, leF, ltT, ltF, eqT, eqF, zinT, clI, Int.toNat_natCast, Int.reduceToNat, tN1, tNa, tN0, tNm, if_pos, if_neg, zI_sI, zI_sJ, zI_sR, zJ_sI, zJ_sJ, zJ_sR, zR_sI, zR_sJ, zR_sR, zK_sI, zK_sJ, zK_sR, zL_sI, zL_sJ, zL_sR, zI_aI, zJ_aI, zR_aI, zK_aI, zL_aI, z2_at, z2_a, z2_k, z1_self, z1_ne, true_and, and_true, bIt, bIf, Bool.false_eq_true, Bool.true_eq_false, eq_self, not_true_eq_false, not_false_eq_true, sK0, sK1, sK2, sK3, sK4, sK5, sK6, sK7, sK8, sK9, sK10, sK11, sK12, sK13, sK14, sK15, sK16, sK17, sK18, sK19, sK20, sK21, sK22, sK23, sK24, sK25, sK26, sK27, sK28, sK29, sK30, sK31, sK32, sK33, sK34, sK35, sK36, sK37, sK38, sK39, sK40, sK41, sK42, sK43, sK44, sK45, sK46, sK47, sK48, sK49, sK50, sK51, sK52, sK53, sK54, sK55, sK56, sK57, sK58, sK59, sK60, sK61, sK62, sK63, sK64, sK65, sK66, sK67, sK68, sK69, sK70, sK71, sK72, sK73, sK74, sK75, sL1, sL3, sL6, sL8, sL9, sL10, sL11, sL12, sL15, sL17, sL18, sL21, sL23, sL24, sL26, sL29, sL31, sL32, sL34, sL36, sL37, sL39, sL40, sL41, sL43, sL45, sL46, sL47, sL48, sL49, sL50, sL51, sL52, sL53, sL55, sL57, sL59, sL61, sL62, sL63, sL64, sL65, sL67, sL68, sL70, sL71, sL73, sL74, sL75, sR0_0, sR0_2, sR0_5, sR0_6, sR0_11, sR2_5, sR2_6, sR2_7, sR4_1, sR4_2, sR4_4, sR7_0, sR7_1, sR13_1, sR13_2, sR13_4, sR16_0, sR16_1, sR19_1, sR19_2, sR19_4, sR22_0, sR22_1, sR25_0, sR25_2, sR25_3, sR25_4, sR25_5, sR25_6, sR25_7, sR25_8, sR25_10, sR27_1, sR27_2, sR27_4, sR30_0, sR30_1, sR33_0, sR35_0, sR35_1, sR38_0, sR38_1, sR38_2, sR42_0, sR42_5, sR42_7, sR42_11, sR42_12, sR42_13, sR53_0, sR53_1, sR53_2, sR53_3, sR54_1, sR56_1, sR58_1, sR60_1, sR65_0, sR65_1, sR65_2, sR66_0, sR66_1, sR69_0, sR69_1, sR72_0, sR72_1, ↓sB0_0, ↓sB0_2, ↓sB0_5, ↓sB0_6, ↓sB0_11, ↓sB2_5, ↓sB2_6, ↓sB2_7, ↓sB4_1, ↓sB4_2, ↓sB4_4, ↓sB7_0, ↓sB7_1, ↓sB13_1, ↓sB13_2, ↓sB13_4, ↓sB16_0, ↓sB16_1, ↓sB19_1, ↓sB19_2, ↓sB19_4, ↓sB22_0, ↓sB22_1, ↓sB25_0, ↓sB25_2, ↓sB25_3, ↓sB25_4, ↓sB25_5, ↓sB25_6, ↓sB25_7, ↓sB25_8, ↓sB25_10, ↓sB27_1, ↓sB27_2, ↓sB27_4, ↓sB30_0, ↓sB30_1, ↓sB33_0, ↓sB35_0, ↓sB35_1, ↓sB38_0, ↓sB38_1, ↓sB38_2, ↓sB42_0, ↓sB42_5, ↓sB42_7, ↓sB42_11, ↓sB42_12, ↓sB42_13, ↓sB53_0, ↓sB53_1, ↓sB53_2, ↓sB53_3, ↓sB54_1, ↓sB56_1, ↓sB58_1, ↓sB60_1, ↓sB65_0, ↓sB65_1, ↓sB65_2, ↓sB66_0, ↓sB66_1, ↓sB69_0, ↓sB69_1, ↓sB72_0, ↓sB72_1, ↓bd_of r11, ↓bd_of t2, t1, dk.fK, dk.f9]
