/-! the model's settles -/
theorem PM.clr {h h' : Zh} {t : Tk} {pr ow : Nat → Option Nat} {f : Nat → Option Int} {c c' x r0 : Nat} (p : PM h t pr ow f c (tH t)) (fm : Fm [86, 87] h h') (mo : MO h' (updO f r0 (-1)) c') : PM h' t (clrN pr x) (clrN ow r0) (updO f r0 (-1)) c' x := by
  refine ⟨fun y hy he => ?_, mo, fun r => ?_⟩
  · rw [fm.I (by simp)]
    unfold clrN
    rw [if_neg he]
    exact p.1 y hy (by omega)
  · unfold clrN updO
    by_cases q : r = r0
    · rw [if_pos q, if_pos q]; rfl
    · rw [if_neg q, if_neg q]; exact p.2.2 r
theorem PM.set {h h' : Zh} {t : Tk} {pr ow : Nat → Option Nat} {f : Nat → Option Int} {c c' x row : Nat} (p : PM h t pr ow f c x) (fm : Fm [86, 87] (zsI h 88 x (iI row)) h') (mo : MO h' (updO f row x) c') : PM h' t (updN pr x row) (updN ow row x) (updO f row x) c' (tH t) := by
  refine ⟨fun y hy _ => ?_, mo, fun r => ?_⟩
  · rw [fm.I (by simp), zI_sI]
    by_cases q : y = x
    · rw [q, z2_at, updN_at]; rfl
    · rw [z2_k _ _ _ q, updN_ne _ _ q]; exact p.1 y hy q
  · by_cases q : r = row
    · rw [q, updN_at]
      unfold updO
      rw [if_pos rfl]; rfl
    · rw [updN_ne _ _ q]
      unfold updO
      rw [if_neg q]; exact p.2.2 r
