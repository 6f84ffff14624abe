/-! the model's table, whole -/
theorem MX.fm2 {S : List Nat} {h h' : Zh} {t : Tk} {tr : Nat} (p : MX h t tr) (f : Fm S h h') (h1 : zI h' 76 17 = zI h 76 17) (h2 : zI h' 76 24 = zI h 76 24) (hS : ∀ x, x ∈ S → x < 101 ∧ x ≠ 78 ∧ x ≠ 83) : MX h' t tr := by
  obtain ⟨a1, a2, a3, a4, a5, a6⟩ := p
  refine ⟨a1.fm f, a2, by rw [f.R]; exact a3, a4.fm f (fun m => ?_), ⟨by rw [h1]; exact a5.1, ?_⟩, a6.fm f h2 (fun m => (hS _ m).2.2 rfl)⟩
  · have := (hS _ m).1; omega
  · rw [f.I (fun m => (hS _ m).2.1 rfl)]; exact a5.2
theorem PNx.none {h : Zh} {t : Tk} {k : Nat} (tok : Tok t) (p : PNx h t (tH t) k) (hk : k ≠ tH t) : ¬ ∃ M, isTb t M := by
  obtain ⟨pr, ow, f, c, D, a1, a2, a3, a4, a5, a6, a7, a8, a9, a10⟩ := p
  have hy : ∃ y, y < tH t ∧ (pr y).isSome = false := by
    refine Classical.byContradiction (fun hn => hk ?_)
    rw [a10]
    refine cnS_full (fun y hy => ?_)
    cases e : (pr y).isSome
    · exact absurd ⟨y, hy, e⟩ hn
    · rfl
  obtain ⟨y, y1, y2⟩ := hy
  have hDy : D y = true := (a7 y y1).resolve_left (by rw [y2]; decide)
  exact cls_no tok a2 a4 hDy (by
    cases e : pr y
    · rfl
    · rw [e] at y2; cases y2)
