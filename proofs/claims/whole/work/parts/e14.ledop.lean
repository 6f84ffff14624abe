/-! led on both sides -/
theorem led_fin {g : Zh} {v : Vw} {u tb tr ra : Nat} {x i : Int} (ok : VOK v) (c : KC g v (u + 3) tr ra) (m : KM g v tr ra) (t : Trb g v tb) (hx : iR x) (hi : iR i) : ∃ h3, fX12_led 76 (iI x) (iI i) g = some (iI (match ldV v x i with | some n => (n : Int) | none => 0), h3) ∧ fX12_thrown 76 h3 = some (iI (match ldV v x i with | some _ => 0 | none => 1), h3) ∧ zJ h3 = zJ g ∧ St h3 ∧ Inv h3 (u + 100) := by
  obtain ⟨h3, q1, q2, q3, q4, q5, q6⟩ := led_m ok m hx hi
  have c3 := c.mz ok q3
  obtain ⟨S, f, hS⟩ := id q3
  refine ⟨h3, q1, ?_, f.J, q2.1, v, tb, tr, ra, ok, c3.mono (by omega), q2, ?_, ?_, ?_⟩
  · unfold fX12_thrown
    rw [zlet_eq, if_pos (sK76 q2.1), q4]
    cases ldV v x i <;> rfl
  · rw [f.I (x := 0) (fun z => by have := hS 0 z; omega)]
    exact t.1
  · rw [q5]; exact t.2.1
  · rw [q6]; exact t.2.2
theorem led_op {h : Zh} {u : Nat} {x i : Int} (inv : Inv h u) (hu : u ≤ 59000) (hx : iR x) (hi : iR i) : ∃ (y : Int32) (h1 : Zh), LdP (iI x) (iI i) h y h1 ∧ (zK h 0 = 10 ∧ zR h 0 5 = some 25 ∧ zK h 25 = 4) ∧ (zN h1 + 1 ≤ zNC ∧ zS h1 + 6 ≤ zNS) ∧ (zK h1 100 = 102 ∧ zL h1 100 = 1) ∧ (0 ≤ y → ∃ h3, fX12_led 76 (iI x) (iI i) (zsJ h1 100 (0 : Int32).toNatClampNeg y.toInt64) = some (y, h3) ∧ fX12_thrown 76 h3 = some (0, h3) ∧ zJ h3 100 (0 : Int32).toNatClampNeg = y.toInt64 ∧ St h3 ∧ Inv h3 (u + 100)) ∧ (y < 0 → ∀ n : Nat, n ≤ 6 → ∃ (o : Int32) (h3 : Zh), fX12_led 76 (iI x) (iI i) (znw h1 999 n n) = some (o, h3) ∧ fX12_thrown 76 h3 = some (1, h3) ∧ St h3 ∧ Inv h3 (u + 100)) := by
  obtain ⟨v, tb, tr, ra, ok, c, m, t1, t2, t3⟩ := inv
  obtain ⟨h1, e1, c1, f1, e8⟩ : ∃ h1, LdP (iI x) (iI i) h (iI (match ldV v x i with | some n => (n : Int) | none => -2)) h1 ∧ KC h1 v (u + 1) tr ra ∧ Fc (CFr tr ra) h h1 ∧ zI h1 0 8 = zI h 0 8 := by
    by_cases p : 0 ≤ x ∧ x < RCv v
    · obtain ⟨k, h1, ek, q1, q2, c1, f1, e8⟩ := led_c ok c p hi (by omega)
      exact ⟨h1, Or.inr ⟨54 + 2 * k, h1, noRule_0 ok c p, by rw [ek]; exact q1, sK25 c1.1, q2⟩, c1, f1, e8⟩
    · have hn : ldV v x i = none := by
        unfold ldV
        rw [if_neg (fun z => p ⟨z.1, z.2.1⟩)]
      rw [hn]
      exact ⟨h, Or.inl ⟨noRule_1 ok c hx p, rfl, rfl⟩, c.mono (by omega), Fc.rf, rfl⟩
  have s0 := c.1
  have s1 := c1.1
  have hN := s0.1
  have m1 : KM h1 v tr ra := m.fc s1 f1 c.2.2.2.2.2.2.2.2.2.2.1 c.2.2.2.2.2.2.2.2.2.2.2.1
  have n76 : ¬ CFr tr ra 76 := fun q => by unfold CFr at q; omega
  have tt : Trb h1 v tb := ⟨by rw [e8]; exact t1, by rw [f1.I (by omega) n76]; exact t2, by rw [f1.I (by omega) n76]; exact t3⟩
  have hb : zN h1 ≤ 101 + 4 * (u + 1) ∧ zS h1 ≤ 440000 + 4 * (u + 1) := by
    obtain ⟨-, -, -, -, -, -, -, -, -, -, -, -, -, CR, OW, se, sp, -, -, -, b3, b4, -⟩ := c1
    unfold Pot at b4
    exact ⟨b3, by omega⟩
  have hld : ∀ n, ldV v x i = some n → n < 2147483648 := fun n hn => by
    unfold ldV at hn
    split at hn
    · next p =>
      obtain ⟨on, k, ek, hk⟩ := RCv_on ⟨p.1, p.2.1⟩
      have tok := (ok.2.2.2.2.2.2 on).1
      have hH := tok.b.2.2.2.2.2.2.2.2.2.2.2.1
      have hex := flP_ex (ρ := lay v.t (v.ru x.toNat)) (n := i.toNat) (H := tH v.t) (by have := p.2.2; omega)
      have := Option.some.inj hn
      omega
    · cases hn
  refine ⟨_, h1, e1, ⟨sK0 s0, s0.2.2.2 (0, 5, 25) (by decide), sK25 s0⟩, ⟨by unfold zNC; omega, by unfold zNS; omega⟩, ⟨sK100 s1, sL100 s1⟩, ?_, ?_⟩
  · intro hy
    cases hv : ldV v x i with
    | none => rw [hv] at hy; exact absurd hy (by decide)
    | some n =>
      have cJ : KC (zsJ h1 100 (0 : Int32).toNatClampNeg (iI (n : Int)).toInt64) v (u + 3) tr ra := c1.fc ok (s1.sJ _ _ _) ⟨Nat.le_refl _, fun _ _ => ⟨rfl, rfl⟩, fun j _ hj => ⟨rfl, z2_row _ _ _ (fun q => hj (by omega)), rfl⟩⟩ (by omega) (show zN h1 ≤ _ by omega) (show zS h1 ≤ _ by omega) ⟨c1.2.2.2.2.2.2.2.2.2.2.1, c1.2.2.2.2.2.2.2.2.2.2.2.1⟩ ⟨Or.inl rfl, Or.inl rfl⟩
      have mJ : KM (zsJ h1 100 (0 : Int32).toNatClampNeg (iI (n : Int)).toInt64) v tr ra := m1
      obtain ⟨h3, q1, q2, q3, q4, q5⟩ := led_fin (u := u) (tb := tb) ok cJ mJ tt hx hi
      rw [hv] at q1 q2
      exact ⟨h3, q1, q2, by rw [q3, zJ_sJ, z2_at], q4, q5⟩
  · intro hy n hn
    cases hv : ldV v x i with
    | some k =>
      rw [hv] at hy
      have hk := hld k hv
      have h9 : (iI (k : Int)).toInt = k := iI_toInt ⟨by omega, by omega⟩
      have h10 := Int32.lt_iff_toInt_lt.mp hy
      rw [h9] at h10
      exact absurd h10 (by show ¬ (k : Int) < 0; omega)
    | none =>
      have f2 : ∀ A, Fc A h1 (znw h1 999 n n) := fun A => Fc_nw _ _ _ _
      have hN1 := s1.1
      have sJ := s1.nw 999 n n
      have g1 := c1.2.2.2.2.2.2.2.2.2.2.1
      have g2 := c1.2.2.2.2.2.2.2.2.2.2.2.1
      have cJ : KC (znw h1 999 n n) v (u + 3) tr ra := c1.fc ok sJ (f2 _) (by omega) (show zN h1 + 1 ≤ _ by omega) (show zS h1 + n ≤ _ by omega) ⟨show _ < zN h1 + 1 by omega, show _ < zN h1 + 1 by omega⟩ ⟨Or.inl rfl, Or.inl rfl⟩
      have mJ : KM (znw h1 999 n n) v tr ra := m1.fc sJ (f2 _) g1 g2
      have ff := f2 (fun _ => False)
      have tJ : Trb (znw h1 999 n n) v tb := ⟨by rw [ff.I (i := 0) (by omega) id]; exact tt.1, by rw [ff.I (i := 76) (by omega) id]; exact tt.2.1, by rw [ff.I (i := 76) (by omega) id]; exact tt.2.2⟩
      obtain ⟨h3, q1, q2, q3, q4, q5⟩ := led_fin (u := u) (tb := tb) ok cJ mJ tJ hx hi
      rw [hv] at q1 q2
      exact ⟨_, h3, q1, q2, q4, q5⟩
