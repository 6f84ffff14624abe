/-! the class's pairing: room for its rows -/
theorem zN_nw (h : Zh) (kd len sl : Nat) : zN (znw h kd len sl) = zN h + 1 := rfl
theorem zS_nw (h : Zh) (kd len sl : Nat) : zS (znw h kd len sl) = zS h + sl := rfl
theorem zK_nw (h : Zh) (kd len sl : Nat) : zK (znw h kd len sl) = z1 (zK h) (zN h) kd := rfl
theorem zL_nw (h : Zh) (kd len sl : Nat) : zL (znw h kd len sl) = z1 (zL h) (zN h) len := rfl
theorem zI_nw (h : Zh) (kd len sl : Nat) : zI (znw h kd len sl) = z1 (zI h) (zN h) (fun _ => 0) := rfl
theorem zJ_nw (h : Zh) (kd len sl : Nat) : zJ (znw h kd len sl) = z1 (zJ h) (zN h) (fun _ => 0) := rfl
theorem zR_nw (h : Zh) (kd len sl : Nat) : zR (znw h kd len sl) = z1 (zR h) (zN h) (fun _ => none) := rfl
theorem rfT_lt : ∀ q, q ∈ rfT → q.1 < 101 := by decide
theorem St.nw {h : Zh} (s : St h) (kd len sl : Nat) : St (znw h kd len sl) := by
  have hN := s.1
  refine ⟨by rw [zN_nw]; omega, fun i hi => ?_, fun i hi => ?_, fun q hq => ?_⟩
  · rw [zK_nw, z1_ne _ _ (by omega)]; exact s.2.1 i hi
  · rw [zL_nw, z1_ne _ _ (by omega)]; exact s.2.2.1 i hi
  · have := rfT_lt q hq
    rw [zR_nw, z1_ne _ _ (by omega)]; exact s.2.2.2 q hq
theorem St.sR {h : Zh} (s : St h) {a k : Nat} (v : Option Nat) (hne : ∀ q, q ∈ rfT → ¬ (q.1 = a ∧ q.2.1 = k)) : St (zsR h a k v) := by
  refine ⟨s.1, s.2.1, s.2.2.1, fun q hq => ?_⟩
  rw [zR_sR]
  unfold z2
  rw [if_neg (hne q hq)]
  exact s.2.2.2 q hq
theorem Fc_nw {A : Nat → Prop} (h : Zh) (kd len sl : Nat) : Fc A h (znw h kd len sl) := ⟨by rw [zN_nw]; omega, fun i hi => by rw [zK_nw, zL_nw, z1_ne _ _ (by omega), z1_ne _ _ (by omega)]; exact ⟨rfl, rfl⟩, fun i hi _ => by rw [zI_nw, zJ_nw, zR_nw, z1_ne _ _ (by omega), z1_ne _ _ (by omega), z1_ne _ _ (by omega)]; exact ⟨rfl, rfl, rfl⟩⟩
theorem Fc_sR {A : Nat → Prop} (h : Zh) {a : Nat} (k : Nat) (v : Option Nat) (ha : A a) : Fc A h (zsR h a k v) := ⟨Nat.le_refl _, fun _ _ => ⟨rfl, rfl⟩, fun i _ hA => ⟨rfl, rfl, by
  rw [zR_sR]
  exact z2_row _ _ _ (fun e => hA (e ▸ ha))⟩⟩
theorem fX0_waysToShow_eq {d : Nat} {t : Tk} {h : Zh} (q : Dk h d t) (tok : Tok t) : fX0_waysToShow d h = some (iI ((pcn t * tT t : Nat) : Int), h) := by
  obtain ⟨bn4, bn12, bu1, bu4, bnu, bk2, bk5, bkn, bp1, bp2, bpk, bH, bsp, bs1, bs4, bT1, bT16, bR1, bR2, bH1, bff, bff1⟩ := tok.b
  have hpb := pcn_b tok
  unfold fX0_waysToShow
  have ha := fX0_anyOrder_eq q
  cases e : anyO t
  · rw [e] at ha
    have e0 := fX0_choose_eq (n := tk t) (k := tsh t) (by omega) (by omega) h
    have h1 := (pcn_kt (tk t) (by omega) (tsh t) (by omega) (by omega)).2.2
    rw [h1, show hnd (tk t) (tsh t) true = pcn t by unfold pcn; rw [e]; rfl] at e0
    simp (maxSteps := 1000000) (disch := (first | assumption | exact ne_b rfl | omega)) only [↓reduceIte, ↓zlet_eq, ↓bdR_sI, ↓bdR_sJ, ↓bdR_aI, zc2_some, Option.bind_some, ↓si_m1, ↓si_m2, ↓si_m3, iI_lit, iI_add, iI_sub, iI_mul, leT, leF, ltT, ltF, eqT, eqF, zinT, clI, Int.toNat_natCast, Int.reduceToNat, tN1, tNa, tN0, tNm, if_pos, if_neg, zI_sI, zI_sJ, zI_sR, zJ_sI, zJ_sJ, zJ_sR, zR_sI, zR_sJ, zR_sR, zK_sI, zK_sJ, zK_sR, zL_sI, zL_sJ, zL_sR, zI_aI, zJ_aI, zR_aI, zK_aI, zL_aI, z2_at, z2_a, z2_k, z1_self, z1_ne, true_and, and_true, bIt, bIf, Bool.false_eq_true, Bool.true_eq_false, eq_self, not_true_eq_false, not_false_eq_true, q.fK, q.f0, q.f1, q.f2, q.f3, q.f4, q.f5, q.f6, q.f7, q.f8, q.f9, q.f10, q.f11, q.f12, ↓zc_of ha, e0, jI_int]
    rw [← Int.natCast_mul]
  · rw [e] at ha
    have e0 := fX0_falling_eq (n := ((tk t : Nat) : Int)) (k := tsh t) ⟨by omega, by omega⟩ (by omega) h
    have h1 := (pcn_kf (tk t) (by omega) (tsh t) (by omega) (by omega)).2.2
    rw [h1, show hnd (tk t) (tsh t) false = pcn t by unfold pcn; rw [e]; rfl] at e0
    simp (maxSteps := 1000000) (disch := (first | assumption | exact ne_b rfl | omega)) only [↓reduceIte, ↓zlet_eq, ↓bdR_sI, ↓bdR_sJ, ↓bdR_aI, zc2_some, Option.bind_some, ↓si_m1, ↓si_m2, ↓si_m3, iI_lit, iI_add, iI_sub, iI_mul, leT, leF, ltT, ltF, eqT, eqF, zinT, clI, Int.toNat_natCast, Int.reduceToNat, tN1, tNa, tN0, tNm, if_pos, if_neg, zI_sI, zI_sJ, zI_sR, zJ_sI, zJ_sJ, zJ_sR, zR_sI, zR_sJ, zR_sR, zK_sI, zK_sJ, zK_sR, zL_sI, zL_sJ, zL_sR, zI_aI, zJ_aI, zR_aI, zK_aI, zL_aI, z2_at, z2_a, z2_k, z1_self, z1_ne, true_and, and_true, bIt, bIf, Bool.false_eq_true, Bool.true_eq_false, eq_self, not_true_eq_false, not_false_eq_true, q.fK, q.f0, q.f1, q.f2, q.f3, q.f4, q.f5, q.f6, q.f7, q.f8, q.f9, q.f10, q.f11, q.f12, ↓zc_of ha, e0, jI_int]
    rw [← Int.natCast_mul]
/-- what the pairing stands on before its room is looked at -/
def P0 (h : Zh) (t : Tk) (d CR OW : Nat) : Prop := St h ∧ zR h 42 3 = some d ∧ zR h 42 4 = some 26 ∧ zR h 42 8 = some CR ∧ zR h 42 9 = some OW ∧ zK h CR = 100 ∧ zK h OW = 100 ∧ zL h CR < 2147483648 ∧ zL h OW < 2147483648 ∧ CR ≠ OW ∧ (CR = 48 ∨ 101 ≤ CR) ∧ (OW = 49 ∨ 101 ≤ OW) ∧ CR < zN h ∧ OW < zN h ∧ (d = 14 ∨ d = 20) ∧ Dk h d t ∧ HdC h t
theorem P0.fm {S : List Nat} {h h' : Zh} {t : Tk} {d CR OW : Nat} (p : P0 h t d CR OW) (f : Fm S h h') (h1 : 26 ∉ S) (h3 : d ∉ S) : P0 h' t d CR OW := by
  obtain ⟨a1, a2, a3, a4, a5, a6, a7, a8, a9, a10, a11, a12, a13, a14, a15, a16, a17⟩ := p
  refine ⟨a1.fm f, by rw [f.R]; exact a2, by rw [f.R]; exact a3, by rw [f.R]; exact a4, by rw [f.R]; exact a5, by rw [f.K]; exact a6, by rw [f.K]; exact a7, by rw [f.L]; exact a8, by rw [f.L]; exact a9, a10, a11, a12, by rw [f.N]; exact a13, by rw [f.N]; exact a14, a15, a16.fm f h3, ?_⟩
  unfold HdC
  rw [f.I h1]
  exact a17
/-- a longer array in its place -/
theorem P0.newC {h : Zh} {t : Tk} {d CR OW len : Nat} (p : P0 h t d CR OW) (hl : len < 2147483648) : P0 (zsR (znw h 100 len len) 42 8 (some (zN h))) t d (zN h) OW := by
  obtain ⟨a1, a2, a3, a4, a5, a6, a7, a8, a9, a10, a11, a12, a13, a14, a15, a16, a17⟩ := p
  have hN := a1.1
  have r42 : ∀ k, zR (znw h 100 len len) 42 k = zR h 42 k := fun k => by rw [zR_nw, z1_ne _ _ (by omega)]
  refine ⟨(a1.nw 100 len len).sR _ (by decide), ?_, ?_, ?_, ?_, ?_, ?_, ?_, ?_, by omega, Or.inr hN, a12, ?_, ?_, a15, ?_, ?_⟩
  · rw [zR_sR, z2_k _ _ _ (by decide), r42]; exact a2
  · rw [zR_sR, z2_k _ _ _ (by decide), r42]; exact a3
  · rw [zR_sR, z2_at]
  · rw [zR_sR, z2_k _ _ _ (by decide), r42]; exact a5
  · rw [zK_sR, zK_nw, z1_self]
  · rw [zK_sR, zK_nw, z1_ne _ _ (by omega)]; exact a7
  · rw [zL_sR, zL_nw, z1_self]; exact hl
  · rw [zL_sR, zL_nw, z1_ne _ _ (by omega)]; exact a9
  · show zN h < zN h + 1; omega
  · show OW < zN h + 1; omega
  · have : Fc (fun _ => False) h (znw h 100 len len) := Fc_nw h 100 len len
    exact (a16.fc (A := fun _ => False) this (by omega) (fun q => q) : Dk (znw h 100 len len) d t)
  · have : Fc (fun _ => False) h (znw h 100 len len) := Fc_nw h 100 len len
    exact (a17.fc (A := fun _ => False) this hN (fun q => q) : HdC (znw h 100 len len) t)
theorem P0.newO {h : Zh} {t : Tk} {d CR OW len : Nat} (p : P0 h t d CR OW) (hl : len < 2147483648) : P0 (zsR (znw h 100 len len) 42 9 (some (zN h))) t d CR (zN h) := by
  obtain ⟨a1, a2, a3, a4, a5, a6, a7, a8, a9, a10, a11, a12, a13, a14, a15, a16, a17⟩ := p
  have hN := a1.1
  have r42 : ∀ k, zR (znw h 100 len len) 42 k = zR h 42 k := fun k => by rw [zR_nw, z1_ne _ _ (by omega)]
  refine ⟨(a1.nw 100 len len).sR _ (by decide), ?_, ?_, ?_, ?_, ?_, ?_, ?_, ?_, by omega, a11, Or.inr hN, ?_, ?_, a15, ?_, ?_⟩
  · rw [zR_sR, z2_k _ _ _ (by decide), r42]; exact a2
  · rw [zR_sR, z2_k _ _ _ (by decide), r42]; exact a3
  · rw [zR_sR, z2_k _ _ _ (by decide), r42]; exact a4
  · rw [zR_sR, z2_at]
  · rw [zK_sR, zK_nw, z1_ne _ _ (by omega)]; exact a6
  · rw [zK_sR, zK_nw, z1_self]
  · rw [zL_sR, zL_nw, z1_ne _ _ (by omega)]; exact a8
  · rw [zL_sR, zL_nw, z1_self]; exact hl
  · show CR < zN h + 1; omega
  · show zN h < zN h + 1; omega
  · have : Fc (fun _ => False) h (znw h 100 len len) := Fc_nw h 100 len len
    exact (a16.fc (A := fun _ => False) this (by omega) (fun q => q) : Dk (znw h 100 len len) d t)
  · have : Fc (fun _ => False) h (znw h 100 len len) := Fc_nw h 100 len len
    exact (a17.fc (A := fun _ => False) this hN (fun q => q) : HdC (znw h 100 len len) t)
/-- how long an array must be, and what it costs -/
def grw (a b : Nat) : Nat := if a < b then b else 0
/-- the pairing's arrays, made ready -/
def Rdy (h : Zh) (t : Tk) (d CR OW : Nat) : Prop := PX h t d CR OW ∧ CC h t CR (crC t) ∧ PW h t OW (fun _ => none) (fun _ => none) 1000 ∧ zI h 42 10 = iI 0
