/-! the class's pairing: solve -/
def PI (h : Zh) (CR OW se : Nat) : Prop := zR h 42 8 = some CR ∧ zR h 42 9 = some OW ∧ zK h CR = 100 ∧ zK h OW = 100 ∧ zL h CR < 2147483648 ∧ zL h OW < 2147483648 ∧ CR ≠ OW ∧ (CR = 48 ∨ 101 ≤ CR) ∧ (OW = 49 ∨ 101 ≤ OW) ∧ CR < zN h ∧ OW < zN h ∧ zI h 42 14 = iI se ∧ Mr0 h se
/-- what it costs: nothing, or the longer arrays -/
def Cst (h h' : Zh) (t : Tk) (CR OW CR' OW' : Nat) : Prop := zN h' ≤ zN h + 2 ∧ ((zS h' = zS h ∧ zL h' CR' = zL h CR ∧ zL h' OW' = zL h OW) ∨ (tH t ≤ 300 ∧ zS h' = zS h + grw (zL h CR) (tH t * pcn t) + grw (zL h OW) (tR t) ∧ zL h' CR' = max (zL h CR) (tH t * pcn t) ∧ zL h' OW' = max (zL h OW) (tR t))) ∧ (CR' = CR ∨ zN h ≤ CR') ∧ (OW' = OW ∨ zN h ≤ OW')
def hA0 (h : Zh) (d : Nat) : Zh := zsR (zsR (zsI h 42 1 (iI 1)) 42 3 (some d)) 42 4 (some 26)
theorem solve_a {h : Zh} {t : Tk} {d : Nat} (tok : Tok t) (s : St h) (e1 : zI h 42 1 = iI (bI false)) (sA : St (hA0 h d)) (rA3 : zR (hA0 h d) 42 3 = some d) (dA : Dk (hA0 h d) d t) : fX6_solve 42 d 26 33 h = if tH t ≤ 300 ∧ tH t ≤ rwsC t then jX6_solve_68 h 42 33 (iI 1) 42 (hA0 h d) else jX6_solve_68 h 42 33 (iI 0) 42 (hA0 h d) := by
  obtain ⟨bn4, bn12, bu1, bu4, bnu, bk2, bk5, bkn, bp1, bp2, bpk, bH, bsp, bs1, bs4, bT1, bT16, bR1, bR2, bH1, bff, bff1⟩ := tok.b

  have hdef : hA0 h d = zsR (zsR (zsI h 42 1 (iI 1)) 42 3 (some d)) 42 4 (some 26) := rfl
  have s1 : St (zsI h 42 1 (iI 1)) := s.sI _ _ _
  have s2 : St (zsR (zsI h 42 1 (iI 1)) 42 3 (some d)) := s1.sR _ (by decide)
  have hro := fX0_rowsOf_eq dA tok
  have hrw : rwsC t ≤ 11880 * 16 := by
    unfold rwsC
    refine Nat.mul_le_mul ?_ bT16
    split
    · have := (pch_h (tn t) (by omega) (tsh t) (by omega) (by omega)).2
      omega
    · exact bff
  unfold fX6_solve
  rw [zlet_eq, if_pos (sK42 s), e1, if_pos (show iI (bI false) = 0 from rfl), show (1 : Int32) = iI 1 from rfl, zlet_eq, if_pos (sK42 s1), zlet_eq, if_pos (sK42 s2), zlet_eq, ← hdef, if_pos (sK42 sA), bd_of rA3, if_pos dA.fK, dA.f9]
  by_cases c : tH t ≤ 300
  · rw [if_neg (by rw [show (300 : Int32) = iI ((300 : Nat) : Int) from rfl, iI_lt ⟨by omega, by omega⟩ ⟨by omega, by omega⟩]; omega), bd_of rA3, if_pos dA.fK, bd_of rA3, bd_of rA3, if_pos dA.fK, if_pos dA.fK, dA.f0, zc_of hro, dA.f9, iI_long ⟨by omega, by omega⟩]
    by_cases c2 : tH t ≤ rwsC t
    · have hcm : ¬ (0 : Int32) < lg_cmp (jI ((tH t : Nat) : Int)) (jI ((rwsC t : Nat) : Int)) := by
        unfold lg_cmp
        rw [if_neg (by rw [gt_iff_lt, jI_lt ⟨by omega, by omega⟩ ⟨by omega, by omega⟩]; omega)]
        split <;> decide
      rw [if_neg hcm, if_pos (show tH t ≤ 300 ∧ tH t ≤ rwsC t from ⟨c, c2⟩)]
    · have hcm : (0 : Int32) < lg_cmp (jI ((tH t : Nat) : Int)) (jI ((rwsC t : Nat) : Int)) := by
        unfold lg_cmp
        rw [if_pos (by rw [gt_iff_lt, jI_lt ⟨by omega, by omega⟩ ⟨by omega, by omega⟩]; omega)]
        decide
      rw [if_pos hcm, if_neg (show ¬ (tH t ≤ 300 ∧ tH t ≤ rwsC t) from fun q => c2 q.2)]
      rfl
  · rw [if_pos (by rw [show (300 : Int32) = iI ((300 : Nat) : Int) from rfl, iI_lt ⟨by omega, by omega⟩ ⟨by omega, by omega⟩]; omega), if_neg (show ¬ (tH t ≤ 300 ∧ tH t ≤ rwsC t) from fun q => c q.1)]
    rfl
