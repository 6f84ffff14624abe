/-! the class's pairing: the search as a whole -/
theorem rehome_mid {t : Tk} {d CR OW ex s se st q x : Nat} {cr : Nat → Nat → Nat} {R0 : Nat → Prop} {pr ow : Nat → Option Nat} {g h0 : Zh} (tok : Tok t) (hH : tH t ≤ 300) (hcr : ∀ x i, x < tH t → i < pcn t → cr x i < ff (tn t) (tsh t)) (pg : PX g t d CR OW) (p : PX h0 t d CR OW) (hg1 : zK g = zK h0) (hg2 : zL g = zL h0) (h10 : zI h0 42 10 = iI s) (h14 : zI h0 42 14 = iI se) (hse : se < 2147483648) (hs : s ≤ 300) (cn : Cns (tH t) (fcr t cr) pr ow) (pw : PW h0 t OW pr ow ex) (cc : CC h0 t CR cr) (hx : x < tH t) {n0 : Nat} {qu0 cf0 : Nat → Nat} (j0 : SJ h0 t cr pr ow s se st R0 q x 0 0 n0 qu0 cf0) : ∃ e n r h' qu cf y1 y2 y3, lp (fun z : Int32 × Int32 × Int32 × Zh => bX6_rehome_51 g 42 (iI x) z.1 z.2.1 z.2.2.1 z.2.2.2) zB (iI n0, iI 0, 0, h0) = some (e + 1, (y1, y2, y3, h')) ∧ Fm [50, 51, 52, 47, CR] h0 h' ∧ CC h' t CR cr ∧ ((e = 0 ∧ y3 = iI (r : Nat) ∧ SI h' t (fcr t cr) pr s se st R0 n qu cf ∧ q < n ∧ qu q = x ∧ fcr t cr x r ∧ ow r = none) ∨ (e = 1 ∧ y1 = iI (n : Nat) ∧ SJ h' t cr pr ow s se st R0 q x (pcn t) 0 n qu cf)) := by
  obtain ⟨bn4, bn12, bu1, bu4, bnu, bk2, bk5, bkn, bp1, bp2, bpk, bH, bsp, bs1, bs4, bT1, bT16, bR1, bR2, bH1, bff, bff1⟩ := tok.b
  have hpb := pcn_b tok
  have nC : CR ≠ 50 ∧ CR ≠ 51 ∧ CR ≠ 52 ∧ CR ≠ 42 ∧ CR ≠ 43 ∧ CR ≠ 26 ∧ CR ≠ 46 ∧ CR ≠ d := by
    have a13 := p.2.2.2.2.2.2.2.2.2.2.2.2.1
    have a15 := p.2.2.2.2.2.2.2.2.2.2.2.2.2.2.1
    omega
  have hdn : d ≠ 50 ∧ d ≠ 51 ∧ d ≠ 52 ∧ d ≠ 47 := by
    have a15 := p.2.2.2.2.2.2.2.2.2.2.2.2.2.2.1
    omega
  have nO : OW ≠ 50 ∧ OW ≠ 51 ∧ OW ≠ 52 ∧ OW ≠ 47 ∧ OW ≠ CR := by
    have a14 := p.2.2.2.2.2.2.2.2.2.2.2.2.2.1
    have a12 := p.2.2.2.2.2.2.2.2.2.2.2.1
    omega
  have := lp_cnt (body := fun z : Int32 × Int32 × Int32 × Zh => bX6_rehome_51 g 42 (iI x) z.1 z.2.1 z.2.2.1 z.2.2.2) (pcn t) (fun i z => ∃ n h qu cf, z = ((iI (n : Nat), iI (i : Int), 0, h) : Int32 × Int32 × Int32 × Zh) ∧ Fm [50, 51, 52, 47, CR] h0 h ∧ CC h t CR cr ∧ SJ h t cr pr ow s se st R0 q x i 0 n qu cf) (fun e z => ∃ n r h' qu cf y1 y2 y3, z = ((y1, y2, y3, h') : Int32 × Int32 × Int32 × Zh) ∧ Fm [50, 51, 52, 47, CR] h0 h' ∧ CC h' t CR cr ∧ ((e = 1 ∧ y3 = iI (r : Nat) ∧ SI h' t (fcr t cr) pr s se st R0 n qu cf ∧ q < n ∧ qu q = x ∧ fcr t cr x r ∧ ow r = none) ∨ (e = 2 ∧ y1 = iI (n : Nat) ∧ SJ h' t cr pr ow s se st R0 q x (pcn t) 0 n qu cf))) ?_ ?_ (by omega) (s := (iI n0, iI 0, 0, h0)) ⟨n0, h0, qu0, cf0, rfl, Fm.rf, cc, j0⟩
  · obtain ⟨e, z, l1, n, r, h', qu, cf, y1, y2, y3, l2, l3, l3b, l4⟩ := this
    subst l2
    refine ⟨e, n, r, h', qu, cf, y1, y2, y3, l1, l3, l3b, ?_⟩
    rcases l4 with ⟨l5, l6⟩ | ⟨l5, l6⟩
    · exact Or.inl ⟨by omega, l6⟩
    · exact Or.inr ⟨by omega, l6⟩
  · intro i z hi ⟨n, h, qu, cf, ez, fm, c2, sj⟩
    subst ez
    have p2 := p.fm fm (by simp; omega) (by simp; omega) (by simp; omega) (by rw [fm.I (by simp; omega)])
    have p6 : zI h 42 6 = iI (pcn t) := p2.2.2.2.2.2.2.2.2.2.2.2.2.2.2.2.2.2.1
    obtain ⟨h1, r1, r2, r3⟩ := rowAt_c p2 tok c2 hcr hx hi
    have p3 := p2.fm r2 (by simp; omega) (by simp; omega) (by simp; omega) (by rw [r2.I (by simp; omega)])
    have sj1 : SJ h1 t cr pr ow s se st R0 q x i 0 n qu cf := ⟨sj.1.fm r2 (by simp; omega) (by simp; omega) (by simp; omega), sj.2⟩
    have pw1 : PW h1 t OW pr ow ex := (pw.fm fm (by simp; omega) (by simp; omega)).fm r2 (by simp; omega) (by simp; omega)
    have h10' : zI h1 42 10 = iI s := by rw [r2.I (by simp; omega), fm.I (by simp; omega)]; exact h10
    have h14' : zI h1 42 14 = iI se := by rw [r2.I (by simp; omega), fm.I (by simp; omega)]; exact h14
    obtain ⟨e, n2, r, h2, qu2, cf2, l1, l2, l3⟩ := rehome_in tok hH hcr pg p3 (by rw [hg1, r2.K, fm.K]) (by rw [hg2, r2.L, fm.L]) h10' h14' hse hs cn pw1 hx hi sj1
    have fm2 : Fm [50, 51, 52, 47, CR] h0 h2 := (fm.tr (r2.mono (by simp))).tr (l2.mono (by simp))
    have cc2 : CC h2 t CR cr := r3.fm l2 (by simp; omega)
    have hb : bX6_rehome_51 g 42 (iI x) (iI n) (iI i) 0 h = kX6_rehome_74 g 42 (iI x) (iI i) (e + 1) (iI n2) (iI r) h2 := by
      unfold bX6_rehome_51
      rw [p6, if_neg (by rw [iI_le ⟨by omega, by omega⟩ ⟨by omega, by omega⟩]; omega), zc_of r1]
      exact lp_bd l1
    show (∃ s', bX6_rehome_51 g 42 (iI x) (iI n) (iI i) 0 h = some (0, s') ∧ _) ∨ (∃ e s', bX6_rehome_51 g 42 (iI x) (iI n) (iI i) 0 h = some (e + 1, s') ∧ _)
    rw [hb]
    unfold kX6_rehome_74
    rcases l3 with ⟨e0, l4, l5, l6, l7, l8⟩ | ⟨e1, l4⟩
    · subst e0
      exact Or.inr ⟨0, (0, 0, iI r, h2), rfl, n2, r, h2, qu2, cf2, 0, 0, iI r, rfl, fm2, cc2, Or.inl ⟨rfl, rfl, l4, l5, l6, l7, l8⟩⟩
    · subst e1
      refine Or.inl ⟨(iI n2, iI ((i + 1 : Nat) : Int), 0, h2), ?_, n2, h2, qu2, cf2, rfl, fm2, cc2, ?_⟩
      · rw [if_neg (by decide), zlet_eq, show (1 : Int32) = iI 1 from rfl, iI_add]
        rfl
      · obtain ⟨m1, m2, m3, m4, m5, m6⟩ := l4
        refine ⟨m1, m2, m3, m4, fun j hj u hu => ?_, fun u hu => by omega⟩
        by_cases c : j = i
        · rw [c]; exact m6 u hu
        · exact m5 j (by omega) u hu
  · intro z ⟨n, h, qu, cf, ez, fm, c2, sj⟩
    subst ez
    have p2 := p.fm fm (by simp; omega) (by simp; omega) (by simp; omega) (by rw [fm.I (by simp; omega)])
    have p6 : zI h 42 6 = iI (pcn t) := p2.2.2.2.2.2.2.2.2.2.2.2.2.2.2.2.2.2.1
    refine ⟨1, (iI n, iI (pcn t), 0, h), ?_, n, 0, h, qu, cf, _, _, _, rfl, fm, c2, Or.inr ⟨rfl, rfl, sj⟩⟩
    show bX6_rehome_51 g 42 (iI x) (iI n) (iI (pcn t)) 0 h = _
    unfold bX6_rehome_51
    rw [p6, if_pos (by rw [iI_le ⟨by omega, by omega⟩ ⟨by omega, by omega⟩]; omega)]
/-- the search, then the rows handed on -/
theorem fX6_rehome_eq {t : Tk} {d CR OW ex s se st : Nat} {cr : Nat → Nat → Nat} {R0 : Nat → Prop} {pr ow : Nat → Option Nat} {h : Zh} (tok : Tok t) (hH : tH t ≤ 300) (hcr : ∀ x i, x < tH t → i < pcn t → cr x i < ff (tn t) (tsh t)) (p : PX h t d CR OW) (h10 : zI h 42 10 = iI s) (h14 : zI h 42 14 = iI se) (hse : se < 2147483648) (hs : s ≤ 300) (cn : Cns (tH t) (fcr t cr) pr ow) (pw : PW h t OW pr ow ex) (cc : CC h t CR cr) (hmk : ∃ re : Nat → Nat, ∀ y, y < 300 → zI h 52 y = iI (re y) ∧ re y ≤ se ∧ (re y = se ↔ R0 y)) (cl : Cls (tH t) s (fcr t cr) ow R0) (hst : st < tH t) (hst2 : s ≤ st) (hst3 : ¬ R0 st) (hst4 : st ≠ ex) (hex : pr ex = none) : ∃ v h', fX6_rehome 42 (iI st) h = some (iI (bI v), h') ∧ Fm [43, 47, 50, 51, 52, CR, OW] h h' ∧ CC h' t CR cr ∧ (∃ re : Nat → Nat, ∀ y, y < 300 → zI h' 52 y = iI (re y) ∧ re y ≤ se) ∧ (v = true → ∃ pr' ow', PW h' t OW pr' ow' ex ∧ (pr st = none → Cns (tH t) (fcr t cr) pr' ow') ∧ (∀ z, pr st = some z → CnX (tH t) (fcr t cr) pr' ow' z) ∧ (∀ y, y < s → pr' y = pr y) ∧ (∀ y, y ≠ st → (pr' y).isSome = (pr y).isSome) ∧ (pr' st).isSome = true) ∧ (v = false → PW h' t OW pr ow ex ∧ ∃ D : Nat → Prop, Cls (tH t) s (fcr t cr) ow D ∧ D st ∧ (∀ y, R0 y → D y) ∧ (∃ re : Nat → Nat, ∀ y, y < 300 → zI h' 52 y = iI (re y) ∧ re y ≤ se ∧ (re y = se ↔ D y))) := by
  obtain ⟨bn4, bn12, bu1, bu4, bnu, bk2, bk5, bkn, bp1, bp2, bpk, bH, bsp, bs1, bs4, bT1, bT16, bR1, bR2, bH1, bff, bff1⟩ := tok.b
  have p0 := p
  obtain ⟨a1, a2, a3, a4, a5, a6, a7, a8, a9, a10, a11, a12, a13, a14, a15, a16, a17, a18, a19⟩ := p
  have hst3' : st < 300 := by omega
  have m43 : (43 : Nat) ∉ [50, 51, 52, 47, CR] := by simp; omega
  have mOW : OW ∉ [50, 51, 52, 47, CR] := by simp; omega
  have m26 : (26 : Nat) ∉ [50, 51, 52, 47, CR] := by simp; omega
  have m46 : (46 : Nat) ∉ [50, 51, 52, 47, CR] := by simp; omega
  have md : d ∉ [50, 51, 52, 47, CR] := by simp; omega
  have m42 : (42 : Nat) ∉ [50, 51, 52, 47, CR] := by simp; omega
  have mCR3 : CR ∉ [50, 51, 52] := by simp; omega
  have mCRH : CR ∉ [43, OW] := by simp; omega
  have m52H : (52 : Nat) ∉ [43, OW] := by simp; omega
  have s57 : ∀ x, x ∈ [50, 51, 52, 47, CR] → x ∈ [43, 47, 50, 51, 52, CR, OW] := by simp
  have sH7 : ∀ x, x ∈ [43, OW] → x ∈ [43, 47, 50, 51, 52, CR, OW] := by simp
  have s35 : ∀ x, x ∈ [50, 51, 52] → x ∈ [50, 51, 52, 47, CR] := by simp
  clear a13 a14 a15
  have fm0 : Fm [50, 51, 52] h (zsI (zsI (zsI h 50 0 (iI st)) 52 st (iI se)) 51 st (iI (-1))) := ((Fm_sI _ _ _ (by simp)).tr (Fm_sI _ _ _ (by simp))).tr (Fm_sI _ _ _ (by simp))
  have si0 : SI (zsI (zsI (zsI h 50 0 (iI st)) 52 st (iI se)) 51 st (iI (-1))) t (fcr t cr) pr s se st R0 1 (fun _ => st) (fun _ => 0) := by
    obtain ⟨re, hre⟩ := hmk
    refine ⟨⟨Nat.le_refl _, rfl, fun a b h1 h2 => by omega, fun j h1 h2 => by omega⟩, fun j hj => ⟨hst, hst2, hst3⟩, fun j hj => ?_, by rw [zI_sI, z2_at], fun j h1 h2 => by omega, z1 re st se, fun y hy => ?_⟩
    · have : j = 0 := by omega
      rw [this, zI_sI, z2_a _ _ _ _ (by decide), zI_sI, z2_a _ _ _ _ (by decide), zI_sI, z2_at]
    · rw [zI_sI, z2_a _ _ _ _ (by decide), zI_sI]
      obtain ⟨j1, j2, j3⟩ := hre y hy
      by_cases c : y = st
      · rw [c, z2_at, z1_self]
        exact ⟨rfl, Nat.le_refl _, ⟨fun _ => Or.inr ⟨0, by omega, rfl⟩, fun _ => rfl⟩⟩
      · rw [z2_k _ _ _ c, z1_ne _ _ c, zI_sI, z2_a _ _ _ _ (by decide)]
        refine ⟨j1, j2, ⟨fun e => Or.inl (j3.mp e), fun e => j3.mpr ?_⟩⟩
        rcases e with e | ⟨j, e1, e2⟩
        · exact e
        · exact absurd e2.symm c
  -- the queue
  have := lp_cnt (body := fun q : Int32 × Int32 × Int32 × Int32 × Zh => bX6_rehome_28 h 42 q.1 q.2.1 q.2.2.1 q.2.2.2.1 q.2.2.2.2) 300 (fun q z => ∃ n h1 qu cf, z = ((iI (n : Nat), iI (q : Int), 0, 0, h1) : Int32 × Int32 × Int32 × Int32 × Zh) ∧ Fm [50, 51, 52, 47, CR] h h1 ∧ CC h1 t CR cr ∧ SI h1 t (fcr t cr) pr s se st R0 n qu cf ∧ q ≤ n ∧ ∀ j, j < q → ∀ r, fcr t cr (qu j) r → okr ow s (mkd R0 qu n) r) (fun e z => ∃ n h1 qu cf y1 y2 y3 y4, z = ((y1, y2, y3, y4, h1) : Int32 × Int32 × Int32 × Int32 × Zh) ∧ Fm [50, 51, 52, 47, CR] h h1 ∧ CC h1 t CR cr ∧ SI h1 t (fcr t cr) pr s se st R0 n qu cf ∧ ((e = 1 ∧ ∃ q r, q < n ∧ y3 = iI (qu q) ∧ y4 = iI (r : Nat) ∧ fcr t cr (qu q) r ∧ ow r = none) ∨ (e = 2 ∧ ∀ j, j < n → ∀ r, fcr t cr (qu j) r → okr ow s (mkd R0 qu n) r))) ?_ ?_ (by omega) (s := (iI 1, iI 0, 0, 0, zsI (zsI (zsI h 50 0 (iI st)) 52 st (iI se)) 51 st (iI (-1)))) ⟨1, _, fun _ => st, fun _ => 0, rfl, fm0.mono s35, cc.fm fm0 mCR3, si0, by omega, fun j hj => by omega⟩
  · obtain ⟨e, z, l1, n, h1, qu, cf, y1, y2, y3, y4, l2, l3, l4, l5, l6⟩ := this
    subst l2
    have hrun : fX6_rehome 42 (iI st) h = kX6_rehome_28 h 42 (e + 1) y1 y2 y3 y4 h1 := by
      unfold fX6_rehome
      have l1' : lp (fun q : Int32 × Int32 × Int32 × Int32 × Zh => bX6_rehome_28 h 42 q.1 q.2.1 q.2.2.1 q.2.2.2.1 q.2.2.2.2) zB (iI 1, iI 0, iI 0, iI 0, zsI (zsI (zsI h 50 0 (iI st)) 52 st (iI se)) 51 st (iI (-1))) = some (e + 1, y1, y2, y3, y4, h1) := l1
      simp (maxSteps := 1000000) (disch := (first | assumption | exact ne_b rfl | omega)) only [↓reduceIte, ↓zlet_eq, ↓bdR_sI, ↓bdR_sJ, ↓bdR_aI, zc2_some, Option.bind_some, ↓si_m1, ↓si_m2, ↓si_m3, iI_lit, iI_add, iI_sub, iI_mul, leT, leF, ltT, ltF, eqT, eqF, zinT, clI, Int.toNat_natCast, Int.reduceToNat, tN1, tNa, tN0, tNm, if_pos, if_neg, zI_sI, zI_sJ, zI_sR, zJ_sI, zJ_sJ, zJ_sR, zR_sI, zR_sJ, zR_sR, zK_sI, zK_sJ, zK_sR, zL_sI, zL_sJ, zL_sR, zI_aI, zJ_aI, zR_aI, zK_aI, zL_aI, z2_at, z2_a, z2_k, z1_self, z1_ne, true_and, and_true, bIt, bIf, Bool.false_eq_true, Bool.true_eq_false, eq_self, not_true_eq_false, not_false_eq_true, sK0, sK1, sK2, sK3, sK4, sK5, sK6, sK7, sK8, sK9, sK10, sK11, sK12, sK13, sK14, sK15, sK16, sK17, sK18, sK19, sK20, sK21, sK22, sK23, sK24, sK25, sK26, sK27, sK28, sK29, sK30, sK31, sK32, sK33, sK34, sK35, sK36, sK37, sK38, sK39, sK40, sK41, sK42, sK43, sK44, sK45, sK46, sK47, sK48, sK49, sK50, sK51, sK52, sK53, sK54, sK55, sK56, sK57, sK58, sK59, sK60, sK61, sK62, sK63, sK64, sK65, sK66, sK67, sK68, sK69, sK70, sK71, sK72, sK73, sK74, sK75, sL1, sL3, sL6, sL8, sL9, sL10, sL11, sL12, sL15, sL17, sL18, sL21, sL23, sL24, sL26, sL29, sL31, sL32, sL34, sL36, sL37, sL39, sL40, sL41, sL43, sL45, sL46, sL47, sL48, sL49, sL50, sL51, sL52, sL53, sL55, sL57, sL59, sL61, sL62, sL63, sL64, sL65, sL67, sL68, sL70, sL71, sL73, sL74, sL75, sR0_0, sR0_2, sR0_5, sR0_6, sR0_11, sR2_5, sR2_6, sR2_7, sR4_1, sR4_2, sR4_4, sR7_0, sR7_1, sR13_1, sR13_2, sR13_4, sR16_0, sR16_1, sR19_1, sR19_2, sR19_4, sR22_0, sR22_1, sR25_0, sR25_2, sR25_3, sR25_4, sR25_5, sR25_6, sR25_7, sR25_8, sR25_10, sR27_1, sR27_2, sR27_4, sR30_0, sR30_1, sR33_0, sR35_0, sR35_1, sR38_0, sR38_1, sR38_2, sR42_0, sR42_5, sR42_7, sR42_11, sR42_12, sR42_13, sR53_0, sR53_1, sR53_2, sR53_3, sR54_1, sR56_1, sR58_1, sR60_1, sR65_0, sR65_1, sR65_2, sR66_0, sR66_1, sR69_0, sR69_1, sR72_0, sR72_1, ↓sB0_0, ↓sB0_2, ↓sB0_5, ↓sB0_6, ↓sB0_11, ↓sB2_5, ↓sB2_6, ↓sB2_7, ↓sB4_1, ↓sB4_2, ↓sB4_4, ↓sB7_0, ↓sB7_1, ↓sB13_1, ↓sB13_2, ↓sB13_4, ↓sB16_0, ↓sB16_1, ↓sB19_1, ↓sB19_2, ↓sB19_4, ↓sB22_0, ↓sB22_1, ↓sB25_0, ↓sB25_2, ↓sB25_3, ↓sB25_4, ↓sB25_5, ↓sB25_6, ↓sB25_7, ↓sB25_8, ↓sB25_10, ↓sB27_1, ↓sB27_2, ↓sB27_4, ↓sB30_0, ↓sB30_1, ↓sB33_0, ↓sB35_0, ↓sB35_1, ↓sB38_0, ↓sB38_1, ↓sB38_2, ↓sB42_0, ↓sB42_5, ↓sB42_7, ↓sB42_11, ↓sB42_12, ↓sB42_13, ↓sB53_0, ↓sB53_1, ↓sB53_2, ↓sB53_3, ↓sB54_1, ↓sB56_1, ↓sB58_1, ↓sB60_1, ↓sB65_0, ↓sB65_1, ↓sB65_2, ↓sB66_0, ↓sB66_1, ↓sB69_0, ↓sB69_1, ↓sB72_0, ↓sB72_1, h14]
      exact lp_bd l1'
    have hmk2 : ∃ re : Nat → Nat, ∀ y, y < 300 → zI h1 52 y = iI (re y) ∧ re y ≤ se := by
      obtain ⟨re, hre⟩ := l5.2.2.2.2.2
      exact ⟨re, fun y hy => ⟨(hre y hy).1, (hre y hy).2.1⟩⟩
    have pw1 := pw.fm l3 m43 mOW
    have p1 := p0.fm l3 m26 m46 md (by rw [l3.I m42])
    rcases l6 with ⟨e0, q, r, q1, q2, q3, q4, q5⟩ | ⟨e1, l7⟩
    · have e0' : e = 0 := by omega
      subst e0'
      subst q2
      subst q3
      have hnH : n ≤ tH t := holes (tH t) n qu (fun j hj => (l5.2.1 j hj).1) l5.1.2.2.1
      have hne : ∀ j, j < n → qu j < tH t ∧ qu j ≠ ex := fun j hj => ⟨(l5.2.1 j hj).1, fun z => by
        by_cases c : j = 0
        · rw [c, l5.1.2.1] at z; exact hst4 z
        · obtain ⟨k, -, -, r', k3, -⟩ := l5.1.2.2.2 j (by omega) hj
          rw [z, hex] at k3
          cases k3⟩
      obtain ⟨b1, b2, b3, h2, pr', ow', r1, r2, r3, r4, r5, r6, r7, r8⟩ := hurry_run (g := h1) (ex := ex) (st := st) (n := n) (qu := qu) (cf := cf) tok hH hcr p1 l5.1.2.1 l5.1.2.2.1 hne q pr ow r 0 zB h1 q1 (by omega) (by show q + 1 < 2 ^ 62; omega) p1 rfl rfl (fun i hi1 hi2 => l5.1.2.2.2 i hi1 (by omega)) (cn.x q5) q4 pw1 l5.2.2.2.1 l5.2.2.2.2.1
      refine ⟨true, h2, ?_, (l3.mono s57).tr (r2.mono sH7), l4.fm r2 mCRH, ?_, fun _ => ⟨pr', ow', r3, r4, r5, fun y hy => r6 y (fun i hi z => ?_), r7, r8⟩, fun z => by cases z⟩
      · rw [hrun]
        unfold kX6_rehome_28
        have hh : fX6_hurry 42 (iI (qu q)) (iI r) h1 = some h2 := by
          unfold fX6_hurry
          rw [zlet_eq]
          exact (lp_bd r1).trans rfl
        rw [if_pos rfl, bd_of hh]
        rfl
      · rw [r2.I m52H]; exact hmk2
      · have := (l5.2.1 i (by omega)).2.1
        omega
    · have e1' : e = 1 := by omega
      subst e1'
      refine ⟨false, h1, by rw [hrun]; rfl, l3.mono s57, l4, hmk2, fun z => (by cases z), fun _ => ⟨pw1, mkd R0 qu n, ?_, Or.inr ⟨0, l5.1.1, l5.1.2.1⟩, fun y hy => Or.inl hy, l5.2.2.2.2.2⟩⟩
      intro x hx
      rcases hx with hx | ⟨j, j1, j2⟩
      · obtain ⟨c1, c2, c3⟩ := cl x hx
        exact ⟨c1, c2, fun r hr => by
          obtain ⟨y, y1, y2⟩ := c3 r hr
          exact ⟨y, y1, y2.imp id Or.inl⟩⟩
      · have := l5.2.1 j j1
        rw [j2] at this
        exact ⟨this.1, this.2.1, fun r hr => l7 j j1 r (by rw [j2]; exact hr)⟩
  · intro q z hq ⟨n, h1, qu, cf, ez, fm, c2, si, hqn, hok⟩
    subst ez
    show (∃ s', bX6_rehome_28 h 42 (iI n) (iI q) 0 0 h1 = some (0, s') ∧ _) ∨ (∃ e s', bX6_rehome_28 h 42 (iI n) (iI q) 0 0 h1 = some (e + 1, s') ∧ _)
    have hnH : n ≤ tH t := holes (tH t) n qu (fun j hj => (si.2.1 j hj).1) si.1.2.2.1
    by_cases c : q < n
    · have p1 := p0.fm fm m26 m46 md (by rw [fm.I m42])
      have hxq := si.2.1 q c
      obtain ⟨e, n2, r, h2, qu2, cf2, y1, y2, y3, l1, l2, l3, l4⟩ := rehome_mid (x := qu q) (q := q) tok hH hcr p0 p1 fm.K.symm fm.L.symm (by rw [fm.I m42]; exact h10) (by rw [fm.I m42]; exact h14) hse hs cn (pw.fm fm m43 mOW) c2 hxq.1 ⟨si, c, rfl, hok, fun j hj => by omega, fun u hu => by omega⟩
      have fm2 := fm.tr l2
      have s1 := p1.1
      have hb : bX6_rehome_28 h 42 (iI n) (iI q) 0 0 h1 = kX6_rehome_51 h 42 (iI q) (iI (qu q)) (e + 1) y1 y2 y3 h2 := by
        unfold bX6_rehome_28
        have l1' : lp (fun z : Int32 × Int32 × Int32 × Zh => bX6_rehome_51 h 42 (iI (qu q)) z.1 z.2.1 z.2.2.1 z.2.2.2) zB (iI n, iI 0, iI 0, h1) = some (e + 1, y1, y2, y3, h2) := l1
        have e50 := si.2.2.1 q c
        simp (maxSteps := 1000000) (disch := (first | assumption | exact ne_b rfl | omega)) only [↓reduceIte, ↓zlet_eq, ↓bdR_sI, ↓bdR_sJ, ↓bdR_aI, zc2_some, Option.bind_some, ↓si_m1, ↓si_m2, ↓si_m3, iI_lit, iI_add, iI_sub, iI_mul, leT, leF, ltT, ltF, eqT, eqF, zinT, clI, Int.toNat_natCast, Int.reduceToNat, tN1, tNa, tN0, tNm, if_pos, if_neg, zI_sI, zI_sJ, zI_sR, zJ_sI, zJ_sJ, zJ_sR, zR_sI, zR_sJ, zR_sR, zK_sI, zK_sJ, zK_sR, zL_sI, zL_sJ, zL_sR, zI_aI, zJ_aI, zR_aI, zK_aI, zL_aI, z2_at, z2_a, z2_k, z1_self, z1_ne, true_and, and_true, bIt, bIf, Bool.false_eq_true, Bool.true_eq_false, eq_self, not_true_eq_false, not_false_eq_true, sK0, sK1, sK2, sK3, sK4, sK5, sK6, sK7, sK8, sK9, sK10, sK11, sK12, sK13, sK14, sK15, sK16, sK17, sK18, sK19, sK20, sK21, sK22, sK23, sK24, sK25, sK26, sK27, sK28, sK29, sK30, sK31, sK32, sK33, sK34, sK35, sK36, sK37, sK38, sK39, sK40, sK41, sK42, sK43, sK44, sK45, sK46, sK47, sK48, sK49, sK50, sK51, sK52, sK53, sK54, sK55, sK56, sK57, sK58, sK59, sK60, sK61, sK62, sK63, sK64, sK65, sK66, sK67, sK68, sK69, sK70, sK71, sK72, sK73, sK74, sK75, sL1, sL3, sL6, sL8, sL9, sL10, sL11, sL12, sL15, sL17, sL18, sL21, sL23, sL24, sL26, sL29, sL31, sL32, sL34, sL36, sL37, sL39, sL40, sL41, sL43, sL45, sL46, sL47, sL48, sL49, sL50, sL51, sL52, sL53, sL55, sL57, sL59, sL61, sL62, sL63, sL64, sL65, sL67, sL68, sL70, sL71, sL73, sL74, sL75, sR0_0, sR0_2, sR0_5, sR0_6, sR0_11, sR2_5, sR2_6, sR2_7, sR4_1, sR4_2, sR4_4, sR7_0, sR7_1, sR13_1, sR13_2, sR13_4, sR16_0, sR16_1, sR19_1, sR19_2, sR19_4, sR22_0, sR22_1, sR25_0, sR25_2, sR25_3, sR25_4, sR25_5, sR25_6, sR25_7, sR25_8, sR25_10, sR27_1, sR27_2, sR27_4, sR30_0, sR30_1, sR33_0, sR35_0, sR35_1, sR38_0, sR38_1, sR38_2, sR42_0, sR42_5, sR42_7, sR42_11, sR42_12, sR42_13, sR53_0, sR53_1, sR53_2, sR53_3, sR54_1, sR56_1, sR58_1, sR60_1, sR65_0, sR65_1, sR65_2, sR66_0, sR66_1, sR69_0, sR69_1, sR72_0, sR72_1, ↓sB0_0, ↓sB0_2, ↓sB0_5, ↓sB0_6, ↓sB0_11, ↓sB2_5, ↓sB2_6, ↓sB2_7, ↓sB4_1, ↓sB4_2, ↓sB4_4, ↓sB7_0, ↓sB7_1, ↓sB13_1, ↓sB13_2, ↓sB13_4, ↓sB16_0, ↓sB16_1, ↓sB19_1, ↓sB19_2, ↓sB19_4, ↓sB22_0, ↓sB22_1, ↓sB25_0, ↓sB25_2, ↓sB25_3, ↓sB25_4, ↓sB25_5, ↓sB25_6, ↓sB25_7, ↓sB25_8, ↓sB25_10, ↓sB27_1, ↓sB27_2, ↓sB27_4, ↓sB30_0, ↓sB30_1, ↓sB33_0, ↓sB35_0, ↓sB35_1, ↓sB38_0, ↓sB38_1, ↓sB38_2, ↓sB42_0, ↓sB42_5, ↓sB42_7, ↓sB42_11, ↓sB42_12, ↓sB42_13, ↓sB53_0, ↓sB53_1, ↓sB53_2, ↓sB53_3, ↓sB54_1, ↓sB56_1, ↓sB58_1, ↓sB60_1, ↓sB65_0, ↓sB65_1, ↓sB65_2, ↓sB66_0, ↓sB66_1, ↓sB69_0, ↓sB69_1, ↓sB72_0, ↓sB72_1, e50]
        exact lp_bd l1'
      rw [hb]
      unfold kX6_rehome_51
      rcases l4 with ⟨e0, l5, l6, l7, l8, l9, l10⟩ | ⟨e1, l5, l6⟩
      · subst e0
        subst l5
        exact Or.inr ⟨0, (0, 0, iI (qu q), iI r, h2), rfl, n2, h2, qu2, cf2, 0, 0, iI (qu q), iI r, rfl, fm2, l3, l6, Or.inl ⟨rfl, q, r, l7, by rw [l8], rfl, by rw [l8]; exact l9, l10⟩⟩
      · subst e1
        subst l5
        obtain ⟨m1, m2, m3, m4, m5, m6⟩ := l6
        refine Or.inl ⟨(iI n2, iI ((q + 1 : Nat) : Int), 0, 0, h2), ?_, n2, h2, qu2, cf2, rfl, fm2, l3, m1, by omega, fun j hj r hr => ?_⟩
        · rw [if_neg (by decide), zlet_eq, show (1 : Int32) = iI 1 from rfl, iI_add]
          rfl
        · by_cases cj : j = q
          · rw [cj, m3] at hr
            obtain ⟨i, i1, i2⟩ := hr
            have hr2 : r = cr (qu q) i * tT t + r % tT t := by
              rw [i2, Nat.mul_comm]; exact (Nat.div_add_mod r (tT t)).symm
            rw [hr2]
            exact m5 i i1 _ (Nat.mod_lt _ (by omega))
          · exact m4 j (by omega) r hr
    · refine Or.inr ⟨1, (iI n, iI q, 0, 0, h1), ?_, n, h1, qu, cf, _, _, _, _, rfl, fm, c2, si, Or.inr ⟨rfl, fun j hj r hr => hok j (by omega) r hr⟩⟩
      unfold bX6_rehome_28
      simp (maxSteps := 1000000) (disch := (first | assumption | exact ne_b rfl | omega)) only [↓reduceIte, ↓zlet_eq, ↓bdR_sI, ↓bdR_sJ, ↓bdR_aI, zc2_some, Option.bind_some, ↓si_m1, ↓si_m2, ↓si_m3, iI_lit, iI_add, iI_sub, iI_mul, leT, leF, ltT, ltF, eqT, eqF, zinT, clI, Int.toNat_natCast, Int.reduceToNat, tN1, tNa, tN0, tNm, if_pos, if_neg, zI_sI, zI_sJ, zI_sR, zJ_sI, zJ_sJ, zJ_sR, zR_sI, zR_sJ, zR_sR, zK_sI, zK_sJ, zK_sR, zL_sI, zL_sJ, zL_sR, zI_aI, zJ_aI, zR_aI, zK_aI, zL_aI, z2_at, z2_a, z2_k, z1_self, z1_ne, true_and, and_true, bIt, bIf, Bool.false_eq_true, Bool.true_eq_false, eq_self, not_true_eq_false, not_false_eq_true]
  · intro z ⟨n, h1, qu, cf, ez, fm, c2, si, hqn, hok⟩
    subst ez
    have hnH : n ≤ tH t := holes (tH t) n qu (fun j hj => (si.2.1 j hj).1) si.1.2.2.1
    refine ⟨1, (iI n, iI ((300 : Nat) : Int), 0, 0, h1), ?_, n, h1, qu, cf, _, _, _, _, rfl, fm, c2, si, Or.inr ⟨rfl, fun j hj r hr => hok j (by omega) r hr⟩⟩
    show bX6_rehome_28 h 42 (iI n) (iI ((300 : Nat) : Int)) 0 0 h1 = _
    unfold bX6_rehome_28
    simp (maxSteps := 1000000) (disch := (first | assumption | exact ne_b rfl | omega)) only [↓reduceIte, ↓zlet_eq, ↓bdR_sI, ↓bdR_sJ, ↓bdR_aI, zc2_some, Option.bind_some, ↓si_m1, ↓si_m2, ↓si_m3, iI_lit, iI_add, iI_sub, iI_mul, leT, leF, ltT, ltF, eqT, eqF, zinT, clI, Int.toNat_natCast, Int.reduceToNat, tN1, tNa, tN0, tNm, if_pos, if_neg, zI_sI, zI_sJ, zI_sR, zJ_sI, zJ_sJ, zJ_sR, zR_sI, zR_sJ, zR_sR, zK_sI, zK_sJ, zK_sR, zL_sI, zL_sJ, zL_sR, zI_aI, zJ_aI, zR_aI, zK_aI, zL_aI, z2_at, z2_a, z2_k, z1_self, z1_ne, true_and, and_true, bIt, bIf, Bool.false_eq_true, Bool.true_eq_false, eq_self, not_true_eq_false, not_false_eq_true]
