/-! the class's pairing: a hand is settled -/
theorem settle_mid {t : Tk} {d CR OW se x r0 : Nat} {cr : Nat → Nat → Nat} {pr pr1 ow1 : Nat → Option Nat} {g h0 : Zh} (tok : Tok t) (hH : tH t ≤ 300) (hcr : ∀ x i, x < tH t → i < pcn t → cr x i < ff (tn t) (tsh t)) (pg : PX g t d CR OW) (p : PX h0 t d CR OW) (hg1 : zK g = zK h0) (hg2 : zL g = zL h0) (h10 : zI h0 42 10 = iI ((x + 1 : Nat) : Int)) (h14 : zI h0 42 14 = iI se) (hse : se < 2147483648) (cn : Cns (tH t) (fcr t cr) pr1 ow1) (hp1 : ∀ y, y < x → pr1 y = pr y) (hp2 : pr1 x = none) (hx : x < tH t) (hr0 : fcr t cr x r0) (hr1 : ow1 r0 = none) (pw : PW h0 t OW pr1 ow1 x) (cc : CC h0 t CR cr) (mk : Mrk h0 se (fun _ => False)) : ∃ r h' y1, lp (fun z : Int32 × Int32 × Zh => bX6_settleLeast_31 g 42 (iI x) z.1 z.2.1 z.2.2) zB (iI 0, 0, h0) = some (1, (y1, iI (r : Nat), h')) ∧ Fm [43, 47, 50, 51, 52, CR, OW] h0 h' ∧ CC h' t CR cr ∧ Mr0 h' se ∧ Fnd h' t cr OW x pr pr1 r ∧ ∃ i u, i < pcn t ∧ u < tT t ∧ r = cr x i * tT t + u ∧ (∀ j, j < i → ∀ u, u < tT t → Lq t cr x pr (cr x j * tT t + u)) ∧ ∀ v, v < u → Lq t cr x pr (cr x i * tT t + v) := by
  obtain ⟨bn4, bn12, bu1, bu4, bnu, bk2, bk5, bkn, bp1, bp2, bpk, bH, bsp, bs1, bs4, bT1, bT16, bR1, bR2, bH1, bff, bff1⟩ := tok.b
  have hpb := pcn_b tok
  have a12 := p.2.2.2.2.2.2.2.2.2.2.2.1
  have a13 := p.2.2.2.2.2.2.2.2.2.2.2.2.1
  have a14 := p.2.2.2.2.2.2.2.2.2.2.2.2.2.1
  have a15 := p.2.2.2.2.2.2.2.2.2.2.2.2.2.2.1
  have m26 : (26 : Nat) ∉ [43, 47, 50, 51, 52, CR, OW] := by simp; omega
  have m46 : (46 : Nat) ∉ [43, 47, 50, 51, 52, CR, OW] := by simp; omega
  have md : d ∉ [43, 47, 50, 51, 52, CR, OW] := by simp; omega
  have m42 : (42 : Nat) ∉ [43, 47, 50, 51, 52, CR, OW] := by simp; omega
  have k26 : (26 : Nat) ∉ [47, CR] := by simp; omega
  have k46 : (46 : Nat) ∉ [47, CR] := by simp; omega
  have kd : d ∉ [47, CR] := by simp; omega
  have k42 : (42 : Nat) ∉ [47, CR] := by simp; omega
  have k43 : (43 : Nat) ∉ [47, CR] := by simp; omega
  have k52 : (52 : Nat) ∉ [47, CR] := by simp; omega
  have kO : OW ∉ [47, CR] := by simp; omega
  have s27 : ∀ x, x ∈ [47, CR] → x ∈ [43, 47, 50, 51, 52, CR, OW] := by simp
  clear a12 a13 a14 a15
  have := lp_cnt (body := fun z : Int32 × Int32 × Zh => bX6_settleLeast_31 g 42 (iI x) z.1 z.2.1 z.2.2) (pcn t) (fun i z => ∃ h D, z = ((iI (i : Int), 0, h) : Int32 × Int32 × Zh) ∧ Fm [43, 47, 50, 51, 52, CR, OW] h0 h ∧ CC h t CR cr ∧ PW h t OW pr1 ow1 x ∧ Mrk h se D ∧ Cls (tH t) (x + 1) (fcr t cr) ow1 D ∧ (∀ j, j < i → ∀ u, u < tT t → okr ow1 (x + 1) D (cr x j * tT t + u))) (fun e z => ∃ r h' y1, e = 1 ∧ z = ((y1, iI (r : Nat), h') : Int32 × Int32 × Zh) ∧ Fm [43, 47, 50, 51, 52, CR, OW] h0 h' ∧ CC h' t CR cr ∧ Mr0 h' se ∧ Fnd h' t cr OW x pr pr1 r ∧ ∃ i u, i < pcn t ∧ u < tT t ∧ r = cr x i * tT t + u ∧ (∀ j, j < i → ∀ u, u < tT t → Lq t cr x pr (cr x j * tT t + u)) ∧ ∀ v, v < u → Lq t cr x pr (cr x i * tT t + v)) ?_ ?_ (by omega) (s := (iI 0, 0, h0)) ⟨h0, fun _ => False, rfl, Fm.rf, cc, pw, mk, fun _ q => q.elim, fun j hj => by omega⟩
  · obtain ⟨e, z, l1, r, h', y1, l2, l3, l4⟩ := this
    have e0 : e = 0 := by omega
    subst e0
    subst l3
    exact ⟨r, h', y1, l1, l4⟩
  · intro i z hi ⟨h, D, ez, fm, c2, pw2, mk2, cl2, pr2⟩
    subst ez
    have p2 := p.fm fm m26 m46 md (by rw [fm.I m42])
    have p6 : zI h 42 6 = iI (pcn t) := p2.2.2.2.2.2.2.2.2.2.2.2.2.2.2.2.2.2.1
    obtain ⟨h1, r1, r2, r3⟩ := rowAt_c p2 tok c2 hcr hx hi
    have p3 := p2.fm r2 k26 k46 kd (by rw [r2.I k42])
    have mk1 : Mrk h1 se D := by unfold Mrk; rw [r2.I k52]; exact mk2
    have pw1 : PW h1 t OW pr1 ow1 x := pw2.fm r2 k43 kO
    have h10' : zI h1 42 10 = iI ((x + 1 : Nat) : Int) := by rw [r2.I k42, fm.I m42]; exact h10
    have h14' : zI h1 42 14 = iI se := by rw [r2.I k42, fm.I m42]; exact h14
    obtain ⟨e, r, h2, l1, l2, l3, l4⟩ := settle_in (pr := pr) tok hH hcr pg p3 (by rw [hg1, r2.K, fm.K]) (by rw [hg2, r2.L, fm.L]) h10' h14' hse cn hp1 hp2 hx hi pw1 r3 mk1 cl2 pr2
    have fm2 : Fm [43, 47, 50, 51, 52, CR, OW] h0 h2 := (fm.tr (r2.mono s27)).tr l2
    have hb : bX6_settleLeast_31 g 42 (iI x) (iI i) 0 h = kX6_settleLeast_49 g 42 (iI x) (iI i) (e + 1) (iI r) h2 := by
      unfold bX6_settleLeast_31
      rw [p6, if_neg (by rw [iI_le ⟨by omega, by omega⟩ ⟨by omega, by omega⟩]; omega), zc_of r1]
      exact lp_bd l1
    show (∃ s', bX6_settleLeast_31 g 42 (iI x) (iI i) 0 h = some (0, s') ∧ _) ∨ (∃ e s', bX6_settleLeast_31 g 42 (iI x) (iI i) 0 h = some (e + 1, s') ∧ _)
    rw [hb]
    unfold kX6_settleLeast_49
    rcases l4 with ⟨e0, l5, l6, u, l7, l8, l9, l10⟩ | ⟨e1, l5, D2, l6, l7, l8⟩
    · subst e0
      exact Or.inr ⟨0, (0, iI r, h2), rfl, r, h2, 0, rfl, rfl, fm2, l3, l5, l6, i, u, hi, l7, l8, l9, l10⟩
    · subst e1
      refine Or.inl ⟨(iI ((i + 1 : Nat) : Int), 0, h2), ?_, h2, D2, rfl, fm2, l3, l5, l6, l7, l8⟩
      rw [if_neg (by decide), zlet_eq, show (1 : Int32) = iI 1 from rfl, iI_add]
      rfl
  · intro z ⟨h, D, ez, fm, c2, pw2, mk2, cl2, pr2⟩
    exfalso
    obtain ⟨i, i1, i2⟩ := hr0
    have hr2 : r0 = cr x i * tT t + r0 % tT t := by
      rw [i2, Nat.mul_comm]; exact (Nat.div_add_mod r0 (tT t)).symm
    obtain ⟨y, y1, -⟩ := pr2 i i1 (r0 % tT t) (Nat.mod_lt _ (by omega))
    rw [← hr2, hr1] at y1
    cases y1
def clrN (f : Nat → Option Nat) (a : Nat) (q : Nat) : Option Nat := if q = a then none else f q
theorem clr_cns {H : Nat} {F : Nat → Nat → Prop} {pr ow : Nat → Option Nat} {x r0 : Nat} (c : Cns H F pr ow) (hx : x < H) (h : pr x = some r0) : Cns H F (clrN pr x) (clrN ow r0) := by
  have h0 := (c.1 x r0 hx h).2
  refine ⟨fun y r hy hp => ?_, fun r y ho => ?_⟩
  · unfold clrN at hp
    by_cases e : y = x
    · rw [if_pos e] at hp; cases hp
    · rw [if_neg e] at hp
      have h1 := c.1 y r hy hp
      refine ⟨h1.1, ?_⟩
      unfold clrN
      rw [if_neg (fun q => by rw [q, h0] at h1; exact e (Option.some.inj h1.2).symm)]
      exact h1.2
  · unfold clrN at ho
    by_cases e : r = r0
    · rw [if_pos e] at ho; cases ho
    · rw [if_neg e] at ho
      have h1 := c.2 r y ho
      refine ⟨h1.1, ?_⟩
      unfold clrN
      rw [if_neg (fun q => by rw [q, h] at h1; exact e (Option.some.inj h1.2).symm)]
      exact h1.2
/-- all hands have a row -/
def Prf (H : Nat) (pr : Nat → Option Nat) : Prop := ∀ y, y < H → (pr y).isSome = true
theorem fX6_settleLeast_eq {t : Tk} {d CR OW se x : Nat} {cr : Nat → Nat → Nat} {pr ow : Nat → Option Nat} {h : Zh} (tok : Tok t) (hH : tH t ≤ 300) (hcr : ∀ x i, x < tH t → i < pcn t → cr x i < ff (tn t) (tsh t)) (has : ∀ x, x < tH t → ∀ i j, i < j → j < pcn t → cr x i < cr x j) (p : PX h t d CR OW) (h14 : zI h 42 14 = iI se) (hse : se + 1 < 2147483648) (cn : Cns (tH t) (fcr t cr) pr ow) (hpf : Prf (tH t) pr) (pw : PW h t OW pr ow 1000) (cc : CC h t CR cr) (mk : Mr0 h se) (hx : x < tH t) : ∃ h' pr' ow', fX6_settleLeast 42 (iI x) h = some h' ∧ Fm [42, 43, 47, 50, 51, 52, CR, OW] h h' ∧ (∀ j, j ≠ 10 → j ≠ 14 → zI h' 42 j = zI h 42 j) ∧ zI h' 42 14 = iI ((se + 1 : Nat) : Int) ∧ CC h' t CR cr ∧ Mr0 h' (se + 1) ∧ PW h' t OW pr' ow' 1000 ∧ Cns (tH t) (fcr t cr) pr' ow' ∧ Prf (tH t) pr' ∧ (∀ y, y < x → pr' y = pr y) ∧ ∃ row, pr' x = some row ∧ ∀ r, r < row → fcr t cr x r → Lq t cr x pr r := by
  obtain ⟨bn4, bn12, bu1, bu4, bnu, bk2, bk5, bkn, bp1, bp2, bpk, bH, bsp, bs1, bs4, bT1, bT16, bR1, bR2, bH1, bff, bff1⟩ := tok.b
  have p0 := p
  obtain ⟨a1, a2, a3, a4, a5, a6, a7, a8, a9, a10, a11, a12, a13, a14, a15, a16, a17, a18, a19⟩ := p
  obtain ⟨r0, hr0⟩ : ∃ r0, pr x = some r0 := Option.isSome_iff_exists.mp (hpf x hx)
  have hc0 := cn.1 x r0 hx hr0
  have hr0R := fcr_lt hcr tok hx hc0.1
  have e43 : zI h 43 x = iI (r0 : Nat) := by
    have := pw.1 x hx (by omega)
    rw [hr0] at this
    exact this
  have n42 : OW ≠ 42 := by omega
  have n42' : (42 : Nat) ≠ OW := by omega
  have n43 : OW ≠ 43 := by omega
  have n43' : (43 : Nat) ≠ OW := by omega
  have n52' : (52 : Nat) ≠ OW := by omega
  have fm0 : Fm [42, OW] h (zsI (zsI (zsI h OW r0 (iI 0)) 42 10 (iI ((x + 1 : Nat) : Int))) 42 14 (iI ((se + 1 : Nat) : Int))) := ((Fm_sI _ _ _ (by simp)).tr (Fm_sI _ _ _ (by simp))).tr (Fm_sI _ _ _ (by simp))
  have e42 : ∀ j, j ≠ 10 → j ≠ 14 → zI (zsI (zsI (zsI h OW r0 (iI 0)) 42 10 (iI ((x + 1 : Nat) : Int))) 42 14 (iI ((se + 1 : Nat) : Int))) 42 j = zI h 42 j := fun j j1 j2 => by
    rw [zI_sI, z2_k _ _ _ j2, zI_sI, z2_k _ _ _ j1, zI_sI, z2_a _ _ _ _ n42']
  have p1 : PX (zsI (zsI (zsI h OW r0 (iI 0)) 42 10 (iI ((x + 1 : Nat) : Int))) 42 14 (iI ((se + 1 : Nat) : Int))) t d CR OW := p0.fm fm0 (by simp; omega) (by simp; omega) (by simp; omega) (e42 6 (by decide) (by decide))
  have cn1 := clr_cns cn hx hr0
  have pw1 : PW (zsI (zsI (zsI h OW r0 (iI 0)) 42 10 (iI ((x + 1 : Nat) : Int))) 42 14 (iI ((se + 1 : Nat) : Int))) t OW (clrN pr x) (clrN ow r0) x := by
    refine ⟨fun y hy he => ?_, fun r hr => ?_⟩
    · rw [zI_sI, z2_a _ _ _ _ (by decide), zI_sI, z2_a _ _ _ _ (by decide), zI_sI, z2_a _ _ _ _ n43']
      unfold clrN
      rw [if_neg he]
      exact pw.1 y hy (by omega)
    · rw [zI_sI, z2_a _ _ _ _ n42, zI_sI, z2_a _ _ _ _ n42, zI_sI]
      unfold clrN
      by_cases c : r = r0
      · rw [c, z2_at, if_pos rfl]; rfl
      · rw [z2_k _ _ _ c, if_neg c]; exact pw.2 r hr
  have mk1 : Mrk (zsI (zsI (zsI h OW r0 (iI 0)) 42 10 (iI ((x + 1 : Nat) : Int))) 42 14 (iI ((se + 1 : Nat) : Int))) (se + 1) (fun _ => False) := by
    obtain ⟨re, hre⟩ := mk
    refine ⟨re, fun y hy => ?_⟩
    rw [zI_sI, z2_a _ _ _ _ (by decide), zI_sI, z2_a _ _ _ _ (by decide), zI_sI, z2_a _ _ _ _ n52']
    have := (hre y hy).2
    exact ⟨(hre y hy).1, by omega, ⟨fun e => by omega, fun q => q.elim⟩⟩
  have hpx : clrN pr x x = none := if_pos rfl
  obtain ⟨row, h', y1, l1, l2, l3, l4, ⟨pr2, ow2, f1, f2, f3, f4, f5⟩, i, u, l6, l7, l8, l9, l10⟩ := settle_mid (pr := pr) (r0 := r0) tok hH hcr p0 p1 rfl rfl (by rw [zI_sI, z2_k _ _ _ (by decide), zI_sI, z2_at]) (by rw [zI_sI, z2_at]) hse cn1 (fun y hy => if_neg (by omega)) hpx hx hc0.1 (if_pos rfl) pw1 (cc.fm fm0 (by simp; omega)) mk1
  have hfr : fcr t cr x row := ⟨i, l6, by rw [l8]; exact (row_div (by omega) l7).symm⟩
  have hrR := fcr_lt hcr tok hx hfr
  have s7 : ∀ z, z ∈ [43, 47, 50, 51, 52, CR, OW] → z ∈ [42, 43, 47, 50, 51, 52, CR, OW] := by simp
  have s2 : ∀ z, z ∈ [42, OW] → z ∈ [42, 43, 47, 50, 51, 52, CR, OW] := by simp
  have sE : Fm [42, 43, 47, 50, 51, 52, CR, OW] h' (zsI (zsI h' 43 x (iI row)) OW row (iI ((x : Int) + 1))) := (Fm_sI _ _ _ (by simp)).tr (Fm_sI _ _ _ (by simp))
  have m42 : (42 : Nat) ∉ [43, 47, 50, 51, 52, CR, OW] := by simp; omega
  have st' : St h' := p1.1.fm l2
  refine ⟨zsI (zsI h' 43 x (iI row)) OW row (iI ((x : Int) + 1)), updN pr2 x row, updN ow2 row x, ?_, ((fm0.mono s2).tr (l2.mono s7)).tr sE, fun j j1 j2 => ?_, ?_, ?_, ?_, ?_, f2.last hx hfr f3, fun y hy => ?_, fun y hy => ?_, row, updN_at _ _ _, fun r hr hf => ?_⟩
  · have hk : kX6_settleLeast_31 h 42 (iI x) 1 y1 (iI row) h' = some (zsI (zsI h' 43 x (iI row)) OW row (iI ((x : Int) + 1))) := by
      unfold kX6_settleLeast_31
      have e5 : zR h' 42 9 = some OW := by rw [l2.R]; exact p1.2.2.2.2.1
      simp (maxSteps := 1000000) (disch := (first | assumption | exact ne_b rfl | omega)) only [↓reduceIte, ↓zlet_eq, ↓bdR_sI, ↓bdR_sJ, ↓bdR_aI, zc2_some, Option.bind_some, ↓si_m1, ↓si_m2, ↓si_m3, iI_lit, iI_add, iI_sub, iI_mul, leT, leF, ltT, ltF, eqT, eqF, zinT, clI, Int.toNat_natCast, Int.reduceToNat, tN1, tNa, tN0, tNm, if_pos, if_neg, zI_sI, zI_sJ, zI_sR, zJ_sI, zJ_sJ, zJ_sR, zR_sI, zR_sJ, zR_sR, zK_sI, zK_sJ, zK_sR, zL_sI, zL_sJ, zL_sR, zI_aI, zJ_aI, zR_aI, zK_aI, zL_aI, z2_at, z2_a, z2_k, z1_self, z1_ne, true_and, and_true, bIt, bIf, Bool.false_eq_true, Bool.true_eq_false, eq_self, not_true_eq_false, not_false_eq_true, sK0, sK1, sK2, sK3, sK4, sK5, sK6, sK7, sK8, sK9, sK10, sK11, sK12, sK13, sK14, sK15, sK16, sK17, sK18, sK19, sK20, sK21, sK22, sK23, sK24, sK25, sK26, sK27, sK28, sK29, sK30, sK31, sK32, sK33, sK34, sK35, sK36, sK37, sK38, sK39, sK40, sK41, sK42, sK43, sK44, sK45, sK46, sK47, sK48, sK49, sK50, sK51, sK52, sK53, sK54, sK55, sK56, sK57, sK58, sK59, sK60, sK61, sK62, sK63, sK64, sK65, sK66, sK67, sK68, sK69, sK70, sK71, sK72, sK73, sK74, sK75, sL1, sL3, sL6, sL8, sL9, sL10, sL11, sL12, sL15, sL17, sL18, sL21, sL23, sL24, sL26, sL29, sL31, sL32, sL34, sL36, sL37, sL39, sL40, sL41, sL43, sL45, sL46, sL47, sL48, sL49, sL50, sL51, sL52, sL53, sL55, sL57, sL59, sL61, sL62, sL63, sL64, sL65, sL67, sL68, sL70, sL71, sL73, sL74, sL75, sR0_0, sR0_2, sR0_5, sR0_6, sR0_11, sR2_5, sR2_6, sR2_7, sR4_1, sR4_2, sR4_4, sR7_0, sR7_1, sR13_1, sR13_2, sR13_4, sR16_0, sR16_1, sR19_1, sR19_2, sR19_4, sR22_0, sR22_1, sR25_0, sR25_2, sR25_3, sR25_4, sR25_5, sR25_6, sR25_7, sR25_8, sR25_10, sR27_1, sR27_2, sR27_4, sR30_0, sR30_1, sR33_0, sR35_0, sR35_1, sR38_0, sR38_1, sR38_2, sR42_0, sR42_5, sR42_7, sR42_11, sR42_12, sR42_13, sR53_0, sR53_1, sR53_2, sR53_3, sR54_1, sR56_1, sR58_1, sR60_1, sR65_0, sR65_1, sR65_2, sR66_0, sR66_1, sR69_0, sR69_1, sR72_0, sR72_1, ↓sB0_0, ↓sB0_2, ↓sB0_5, ↓sB0_6, ↓sB0_11, ↓sB2_5, ↓sB2_6, ↓sB2_7, ↓sB4_1, ↓sB4_2, ↓sB4_4, ↓sB7_0, ↓sB7_1, ↓sB13_1, ↓sB13_2, ↓sB13_4, ↓sB16_0, ↓sB16_1, ↓sB19_1, ↓sB19_2, ↓sB19_4, ↓sB22_0, ↓sB22_1, ↓sB25_0, ↓sB25_2, ↓sB25_3, ↓sB25_4, ↓sB25_5, ↓sB25_6, ↓sB25_7, ↓sB25_8, ↓sB25_10, ↓sB27_1, ↓sB27_2, ↓sB27_4, ↓sB30_0, ↓sB30_1, ↓sB33_0, ↓sB35_0, ↓sB35_1, ↓sB38_0, ↓sB38_1, ↓sB38_2, ↓sB42_0, ↓sB42_5, ↓sB42_7, ↓sB42_11, ↓sB42_12, ↓sB42_13, ↓sB53_0, ↓sB53_1, ↓sB53_2, ↓sB53_3, ↓sB54_1, ↓sB56_1, ↓sB58_1, ↓sB60_1, ↓sB65_0, ↓sB65_1, ↓sB65_2, ↓sB66_0, ↓sB66_1, ↓sB69_0, ↓sB69_1, ↓sB72_0, ↓sB72_1, ↓bd_of e5, a7]
    have l1' : lp (fun z : Int32 × Int32 × Zh => bX6_settleLeast_31 h 42 (iI x) z.1 z.2.1 z.2.2) zB (iI 0, iI 0, zsI (zsI (zsI h OW r0 (iI 0)) 42 10 (iI ((x + 1 : Nat) : Int))) 42 14 (iI ((se + 1 : Nat) : Int))) = some (1, y1, iI (row : Nat), h') := l1
    unfold fX6_settleLeast
    simp (maxSteps := 1000000) (disch := (first | assumption | exact ne_b rfl | omega)) only [↓reduceIte, ↓zlet_eq, ↓bdR_sI, ↓bdR_sJ, ↓bdR_aI, zc2_some, Option.bind_some, ↓si_m1, ↓si_m2, ↓si_m3, iI_lit, iI_add, iI_sub, iI_mul, leT, leF, ltT, ltF, eqT, eqF, zinT, clI, Int.toNat_natCast, Int.reduceToNat, tN1, tNa, tN0, tNm, if_pos, if_neg, zI_sI, zI_sJ, zI_sR, zJ_sI, zJ_sJ, zJ_sR, zR_sI, zR_sJ, zR_sR, zK_sI, zK_sJ, zK_sR, zL_sI, zL_sJ, zL_sR, zI_aI, zJ_aI, zR_aI, zK_aI, zL_aI, z2_at, z2_a, z2_k, z1_self, z1_ne, true_and, and_true, bIt, bIf, Bool.false_eq_true, Bool.true_eq_false, eq_self, not_true_eq_false, not_false_eq_true, sK0, sK1, sK2, sK3, sK4, sK5, sK6, sK7, sK8, sK9, sK10, sK11, sK12, sK13, sK14, sK15, sK16, sK17, sK18, sK19, sK20, sK21, sK22, sK23, sK24, sK25, sK26, sK27, sK28, sK29, sK30, sK31, sK32, sK33, sK34, sK35, sK36, sK37, sK38, sK39, sK40, sK41, sK42, sK43, sK44, sK45, sK46, sK47, sK48, sK49, sK50, sK51, sK52, sK53, sK54, sK55, sK56, sK57, sK58, sK59, sK60, sK61, sK62, sK63, sK64, sK65, sK66, sK67, sK68, sK69, sK70, sK71, sK72, sK73, sK74, sK75, sL1, sL3, sL6, sL8, sL9, sL10, sL11, sL12, sL15, sL17, sL18, sL21, sL23, sL24, sL26, sL29, sL31, sL32, sL34, sL36, sL37, sL39, sL40, sL41, sL43, sL45, sL46, sL47, sL48, sL49, sL50, sL51, sL52, sL53, sL55, sL57, sL59, sL61, sL62, sL63, sL64, sL65, sL67, sL68, sL70, sL71, sL73, sL74, sL75, sR0_0, sR0_2, sR0_5, sR0_6, sR0_11, sR2_5, sR2_6, sR2_7, sR4_1, sR4_2, sR4_4, sR7_0, sR7_1, sR13_1, sR13_2, sR13_4, sR16_0, sR16_1, sR19_1, sR19_2, sR19_4, sR22_0, sR22_1, sR25_0, sR25_2, sR25_3, sR25_4, sR25_5, sR25_6, sR25_7, sR25_8, sR25_10, sR27_1, sR27_2, sR27_4, sR30_0, sR30_1, sR33_0, sR35_0, sR35_1, sR38_0, sR38_1, sR38_2, sR42_0, sR42_5, sR42_7, sR42_11, sR42_12, sR42_13, sR53_0, sR53_1, sR53_2, sR53_3, sR54_1, sR56_1, sR58_1, sR60_1, sR65_0, sR65_1, sR65_2, sR66_0, sR66_1, sR69_0, sR69_1, sR72_0, sR72_1, ↓sB0_0, ↓sB0_2, ↓sB0_5, ↓sB0_6, ↓sB0_11, ↓sB2_5, ↓sB2_6, ↓sB2_7, ↓sB4_1, ↓sB4_2, ↓sB4_4, ↓sB7_0, ↓sB7_1, ↓sB13_1, ↓sB13_2, ↓sB13_4, ↓sB16_0, ↓sB16_1, ↓sB19_1, ↓sB19_2, ↓sB19_4, ↓sB22_0, ↓sB22_1, ↓sB25_0, ↓sB25_2, ↓sB25_3, ↓sB25_4, ↓sB25_5, ↓sB25_6, ↓sB25_7, ↓sB25_8, ↓sB25_10, ↓sB27_1, ↓sB27_2, ↓sB27_4, ↓sB30_0, ↓sB30_1, ↓sB33_0, ↓sB35_0, ↓sB35_1, ↓sB38_0, ↓sB38_1, ↓sB38_2, ↓sB42_0, ↓sB42_5, ↓sB42_7, ↓sB42_11, ↓sB42_12, ↓sB42_13, ↓sB53_0, ↓sB53_1, ↓sB53_2, ↓sB53_3, ↓sB54_1, ↓sB56_1, ↓sB58_1, ↓sB60_1, ↓sB65_0, ↓sB65_1, ↓sB65_2, ↓sB66_0, ↓sB66_1, ↓sB69_0, ↓sB69_1, ↓sB72_0, ↓sB72_1, ↓bd_of a5, e43, a7, h14]
    exact (lp_bd l1').trans hk
  · rw [zI_sI, z2_a _ _ _ _ n42', zI_sI, z2_a _ _ _ _ (by decide), l2.I m42]
    exact e42 j j1 j2
  · rw [zI_sI, z2_a _ _ _ _ n42', zI_sI, z2_a _ _ _ _ (by decide), l2.I m42, zI_sI, z2_at]
  · have : Fm [43, OW] h' (zsI (zsI h' 43 x (iI row)) OW row (iI ((x : Int) + 1))) := (Fm_sI _ _ _ (by simp)).tr (Fm_sI _ _ _ (by simp))
    exact l3.fm this (by simp; omega)
  · unfold Mr0
    rw [zI_sI, z2_row _ _ _ n52', zI_sI, z2_row _ _ _ (by decide)]
    exact l4
  · have := f1.put (x := x) (row := row) n43
    refine ⟨fun y hy he => ?_, this.2⟩
    by_cases c : y = x
    · rw [c, updN_at, zI_sI, z2_a _ _ _ _ n43', zI_sI, z2_at]; rfl
    · exact this.1 y hy c
  · by_cases c : y = x
    · rw [c, updN_at]; rfl
    · rw [updN_ne _ _ c, f5 y c]
      unfold clrN
      rw [if_neg c]
      exact hpf y hy
  · rw [updN_ne _ _ (by omega), f4 y hy]
  · obtain ⟨j, j1, j2⟩ := hf
    have hr2 : r = cr x j * tT t + r % tT t := by
      rw [j2, Nat.mul_comm]; exact (Nat.div_add_mod r (tT t)).symm
    have hm := Nat.mod_lt r (show tT t > 0 by omega)
    rw [hr2]
    by_cases c1 : j < i
    · exact l9 j c1 _ hm
    · by_cases c2 : j = i
      · rw [c2] at hr2 ⊢
        refine l10 _ ?_
        generalize cr x i * tT t = y0 at *
        omega
      · exfalso
        have h1 := has x hx i j (by omega) j1
        have h2 : (cr x i + 1) * tT t ≤ cr x j * tT t := Nat.mul_le_mul_right _ h1
        rw [Nat.add_mul, Nat.one_mul] at h2
        generalize cr x i * tT t = y0 at *
        generalize cr x j * tT t = y2 at *
        omega
