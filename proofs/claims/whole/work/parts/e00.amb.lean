/-! the law's entry: what all methods find -/
def ztm (i : Nat) : Term := Term.string (zlit.getD i ("", 0, "", 0)).1 (zlit.getD i ("", 0, "", 0)).2.1
theorem arr_of {A : Array Value} {s : State} {ty : FieldType} (h : (Cond.arrayClass ty).before A s = true) (hr : ∀ cA, s.vm.findClass ("[" ++ ty.toString) = some cA → va_RA s cA ty) : ∃ cA, ArrOfT s cA ty ∧ va_RA s cA ty := by
  obtain ⟨c, k, comp, h1, h2, h3⟩ := Cond.arrayClass_spec h
  exact ⟨c, fun n z => ⟨fun k h => (by cases h), k, h2, comp, h3⟩, hr c h1⟩
theorem arr_ov {A : Array Value} {s : State} {C : String} (h : (Cond.arrayOver (.object C)).before A s = true) : ∃ cA, ArrOfT s cA (.object C) ∧ va_RA s cA (.object C) := by
  obtain ⟨comp, c, k, h1, -, h3, h4, h5⟩ := Cond.arrayOver_spec h
  exact ⟨c, fun n z => ⟨fun k h => (by cases h), k, h3, comp, h4⟩, k, comp, h3, h4, h1, h5⟩
theorem cls_of {s : State} {A : Array Value} (hts : ∀ w ∈ lw_tbl, w.before A s = true) : ∀ k : Nat, ∃ q : ClassId × (Nat → Nat), ∀ r : vw_C, zcl[k]? = some r → u_Kn s r.1 r.2.1 r.2.2 q.1 q.2 := by
  have hg : ∀ w ∈ zgd, w.before A s = true := fun w hw => hts w (List.mem_filter.mp hw).1
  have mk : ∀ {k : Nat} {C : String} {T : u_T} {N : Nat}, zcl[k]? = some (C, T, N) → (∀ w ∈ u_ws C T N, w ∈ zgd) → (Cond.instantiable C N).before A s = true → ∃ q : ClassId × (Nat → Nat), ∀ r : vw_C, zcl[k]? = some r → u_Kn s r.1 r.2.1 r.2.2 q.1 q.2 := by
    intro k C T N e hu hi
    obtain ⟨cC, iS, hk⟩ := u_known (C := C) (T := T) (N := N) (n := N) hg hu hi
    refine ⟨(cC, iS), fun r hr => ?_⟩
    rw [e] at hr
    injection hr with hr
    rw [← hr]
    exact hk
  intro k
  match k with
  | 0 => exact mk (C := RX0) (T := TX0) (N := 13) rfl zu0 (hts _ (by decide +kernel))
  | 1 => exact mk (C := RX1) (T := TX1) (N := 4) rfl zu1 (hts _ (by decide +kernel))
  | 2 => exact mk (C := RX2) (T := TX2) (N := 10) rfl zu2 (hts _ (by decide +kernel))
  | 3 => exact mk (C := RX3) (T := TX3) (N := 2) rfl zu3 (hts _ (by decide +kernel))
  | 4 => exact mk (C := RX4) (T := TX4) (N := 11) rfl zu4 (hts _ (by decide +kernel))
  | 5 => exact mk (C := RX5) (T := TX5) (N := 1) rfl zu5 (hts _ (by decide +kernel))
  | 6 => exact mk (C := RX6) (T := TX6) (N := 15) rfl zu6 (hts _ (by decide +kernel))
  | 7 => exact mk (C := RX7) (T := TX7) (N := 12) rfl zu7 (hts _ (by decide +kernel))
  | 8 => exact mk (C := RX8) (T := TX8) (N := 4) rfl zu8 (hts _ (by decide +kernel))
  | 9 => exact mk (C := RX9) (T := TX9) (N := 5) rfl zu9 (hts _ (by decide +kernel))
  | 10 => exact mk (C := RX10) (T := TX10) (N := 12) rfl zu10 (hts _ (by decide +kernel))
  | 11 => exact mk (C := RX11) (T := TX11) (N := 15) rfl zu11 (hts _ (by decide +kernel))
  | 12 => exact mk (C := RX12) (T := TX12) (N := 46) rfl zu12 (hts _ (by decide +kernel))
  | k + 13 => exact ⟨(0, fun _ => 0), fun r hr => by simp at hr⟩
theorem zlit_c : ∀ k, k < zlit.length → (zlit.getD k ("", 0, "", 0)).2.2.2 < 26 ∧ ((zlit.getD k ("", 0, "", 0)).2.2.2 = k ∨ Cond.eq (ztm (zlit.getD k ("", 0, "", 0)).2.2.2) (ztm k) ∈ flatC (Jvm.Cond.and given_1 narrow_1)) ∧ Cond.stringRef (zlit.getD k ("", 0, "", 0)).1 (zlit.getD k ("", 0, "", 0)).2.1 (zlit.getD k ("", 0, "", 0)).2.2.1 ∈ lw_tbl := by decide +kernel
def zcd (i d : Nat) : Cond := if d = 0 then Cond.exactly (ztm i) "java/lang/String" else if d = 1 then Cond.eq (.field (ztm i) "java/lang/String" "coder" "B") (.int 0) else if d = 2 then Cond.arrayOf (.field (ztm i) "java/lang/String" "value" "[B") .byte else if d = 3 then Cond.eq (.length (.field (ztm i) "java/lang/String" "value" "[B")) (.int (Int32.ofNat (ztxt.getD i []).length)) else Cond.eq (.elem (.field (ztm i) "java/lang/String" "value" "[B") (.int (Int32.ofNat (d - 4)))) (.int ((ztxt.getD i []).getD (d - 4) 0))
theorem zs_0 : ∀ d, d < 9 → (flatC (Jvm.Cond.and given_1 narrow_1))[54 + d]? = some (zcd 0 d) := by decide +kernel
theorem zs_1 : ∀ d, d < 9 → (flatC (Jvm.Cond.and given_1 narrow_1))[63 + d]? = some (zcd 1 d) := by decide +kernel
theorem zs_2 : ∀ d, d < 9 → (flatC (Jvm.Cond.and given_1 narrow_1))[72 + d]? = some (zcd 2 d) := by decide +kernel
theorem zs_3 : ∀ d, d < 8 → (flatC (Jvm.Cond.and given_1 narrow_1))[81 + d]? = some (zcd 3 d) := by decide +kernel
theorem zs_4 : ∀ d, d < 8 → (flatC (Jvm.Cond.and given_1 narrow_1))[89 + d]? = some (zcd 4 d) := by decide +kernel
theorem zs_5 : ∀ d, d < 12 → (flatC (Jvm.Cond.and given_1 narrow_1))[97 + d]? = some (zcd 5 d) := by decide +kernel
theorem zs_6 : ∀ d, d < 7 → (flatC (Jvm.Cond.and given_1 narrow_1))[109 + d]? = some (zcd 6 d) := by decide +kernel
theorem zs_7 : ∀ d, d < 8 → (flatC (Jvm.Cond.and given_1 narrow_1))[116 + d]? = some (zcd 7 d) := by decide +kernel
theorem zs_8 : ∀ d, d < 9 → (flatC (Jvm.Cond.and given_1 narrow_1))[124 + d]? = some (zcd 8 d) := by decide +kernel
theorem zs_9 : ∀ d, d < 8 → (flatC (Jvm.Cond.and given_1 narrow_1))[133 + d]? = some (zcd 9 d) := by decide +kernel
theorem zs_10 : ∀ d, d < 11 → (flatC (Jvm.Cond.and given_1 narrow_1))[141 + d]? = some (zcd 10 d) := by decide +kernel
theorem zs_11 : ∀ d, d < 9 → (flatC (Jvm.Cond.and given_1 narrow_1))[152 + d]? = some (zcd 11 d) := by decide +kernel
theorem zs_12 : ∀ d, d < 10 → (flatC (Jvm.Cond.and given_1 narrow_1))[161 + d]? = some (zcd 12 d) := by decide +kernel
theorem zs_13 : ∀ d, d < 8 → (flatC (Jvm.Cond.and given_1 narrow_1))[171 + d]? = some (zcd 13 d) := by decide +kernel
theorem zs_14 : ∀ d, d < 9 → (flatC (Jvm.Cond.and given_1 narrow_1))[179 + d]? = some (zcd 14 d) := by decide +kernel
theorem zs_15 : ∀ d, d < 9 → (flatC (Jvm.Cond.and given_1 narrow_1))[188 + d]? = some (zcd 15 d) := by decide +kernel
theorem zs_16 : ∀ d, d < 7 → (flatC (Jvm.Cond.and given_1 narrow_1))[197 + d]? = some (zcd 16 d) := by decide +kernel
theorem zs_17 : ∀ d, d < 8 → (flatC (Jvm.Cond.and given_1 narrow_1))[204 + d]? = some (zcd 17 d) := by decide +kernel
theorem zs_18 : ∀ d, d < 7 → (flatC (Jvm.Cond.and given_1 narrow_1))[212 + d]? = some (zcd 18 d) := by decide +kernel
theorem zs_19 : ∀ d, d < 7 → (flatC (Jvm.Cond.and given_1 narrow_1))[219 + d]? = some (zcd 19 d) := by decide +kernel
theorem zs_20 : ∀ d, d < 9 → (flatC (Jvm.Cond.and given_1 narrow_1))[226 + d]? = some (zcd 20 d) := by decide +kernel
theorem zs_21 : ∀ d, d < 9 → (flatC (Jvm.Cond.and given_1 narrow_1))[235 + d]? = some (zcd 21 d) := by decide +kernel
theorem zs_22 : ∀ d, d < 8 → (flatC (Jvm.Cond.and given_1 narrow_1))[244 + d]? = some (zcd 22 d) := by decide +kernel
theorem zs_23 : ∀ d, d < 7 → (flatC (Jvm.Cond.and given_1 narrow_1))[252 + d]? = some (zcd 23 d) := by decide +kernel
theorem zs_24 : ∀ d, d < 8 → (flatC (Jvm.Cond.and given_1 narrow_1))[259 + d]? = some (zcd 24 d) := by decide +kernel
theorem zs_25 : ∀ d, d < 16 → (flatC (Jvm.Cond.and given_1 narrow_1))[267 + d]? = some (zcd 25 d) := by decide +kernel
theorem zs_all : ∀ i, i < 26 → ∀ d, d < 4 + (ztxt.getD i []).length → zcd i d ∈ flatC (Jvm.Cond.and given_1 narrow_1) := by
  intro i hi d hd
  match i with
  | 0 => exact List.mem_of_getElem? (zs_0 d hd)
  | 1 => exact List.mem_of_getElem? (zs_1 d hd)
  | 2 => exact List.mem_of_getElem? (zs_2 d hd)
  | 3 => exact List.mem_of_getElem? (zs_3 d hd)
  | 4 => exact List.mem_of_getElem? (zs_4 d hd)
  | 5 => exact List.mem_of_getElem? (zs_5 d hd)
  | 6 => exact List.mem_of_getElem? (zs_6 d hd)
  | 7 => exact List.mem_of_getElem? (zs_7 d hd)
  | 8 => exact List.mem_of_getElem? (zs_8 d hd)
  | 9 => exact List.mem_of_getElem? (zs_9 d hd)
  | 10 => exact List.mem_of_getElem? (zs_10 d hd)
  | 11 => exact List.mem_of_getElem? (zs_11 d hd)
  | 12 => exact List.mem_of_getElem? (zs_12 d hd)
  | 13 => exact List.mem_of_getElem? (zs_13 d hd)
  | 14 => exact List.mem_of_getElem? (zs_14 d hd)
  | 15 => exact List.mem_of_getElem? (zs_15 d hd)
  | 16 => exact List.mem_of_getElem? (zs_16 d hd)
  | 17 => exact List.mem_of_getElem? (zs_17 d hd)
  | 18 => exact List.mem_of_getElem? (zs_18 d hd)
  | 19 => exact List.mem_of_getElem? (zs_19 d hd)
  | 20 => exact List.mem_of_getElem? (zs_20 d hd)
  | 21 => exact List.mem_of_getElem? (zs_21 d hd)
  | 22 => exact List.mem_of_getElem? (zs_22 d hd)
  | 23 => exact List.mem_of_getElem? (zs_23 d hd)
  | 24 => exact List.mem_of_getElem? (zs_24 d hd)
  | 25 => exact List.mem_of_getElem? (zs_25 d hd)
  | i + 26 => exact absurd hi (by omega)
theorem zstr_c : ∀ i, i < 26 → Cond.exactly (ztm i) "java/lang/String" ∈ flatC (Jvm.Cond.and given_1 narrow_1) ∧ Cond.eq (.field (ztm i) "java/lang/String" "coder" "B") (.int 0) ∈ flatC (Jvm.Cond.and given_1 narrow_1) ∧ Cond.arrayOf (.field (ztm i) "java/lang/String" "value" "[B") .byte ∈ flatC (Jvm.Cond.and given_1 narrow_1) ∧ Cond.eq (.length (.field (ztm i) "java/lang/String" "value" "[B")) (.int (Int32.ofNat (ztxt.getD i []).length)) ∈ flatC (Jvm.Cond.and given_1 narrow_1) ∧ ∀ j, j < (ztxt.getD i []).length → Cond.eq (.elem (.field (ztm i) "java/lang/String" "value" "[B") (.int (Int32.ofNat j))) (.int ((ztxt.getD i []).getD j 0)) ∈ flatC (Jvm.Cond.and given_1 narrow_1) := by
  intro i hi
  refine ⟨zs_all i hi 0 (by omega), zs_all i hi 1 (by omega), zs_all i hi 2 (by omega), zs_all i hi 3 (by omega), fun j hj => ?_⟩
  have := zs_all i hi (4 + j) (by omega)
  unfold zcd at this
  rw [if_neg (by omega), if_neg (by omega), if_neg (by omega), if_neg (by omega), show 4 + j - 4 = j by omega] at this
  exact this
theorem xc_ch {α β : Type} {r : α → β → Prop} (h : ∀ x, ∃ y, r x y) : ∃ f : α → β, ∀ x, r x (f x) := ⟨fun x => Classical.choose (h x), fun x => Classical.choose_spec (h x)⟩
theorem zlen_c : zlit.length = 51 ∧ ztxt.length = 26 ∧ ∀ i, i < 26 → (ztxt.getD i []).length < 2 ^ 31 := by decide +kernel
theorem str_of {s : State} {b : Nat} (hgv : (Jvm.Cond.and given_1 narrow_1).before #[Value.ref b] s = true) (hts : ∀ w ∈ lw_tbl, w.before #[Value.ref b] s = true) : ∃ sA : Nat → Nat, zSt s.heap.size sA s s.heap := by
  have hs := flat_of_before _ hgv
  have hA : ∀ a : Nat, a < s.heap.size → ¬ zA s.heap.size a := fun a h => Nat.not_le.mpr h
  have h0 : ∀ i : Nat, ∃ q : Nat × Nat, i < 26 → (ztm i).eval #[Value.ref b] s none [] s = some (.ref q.1) ∧ va_O "java/lang/String" q.1 (zA s.heap.size) s s.heap ∧ va_OF "java/lang/String" "coder" "B" (.int 0) q.1 (zA s.heap.size) s s.heap ∧ va_OF "java/lang/String" "value" "[B" (.ref q.2) q.1 (zA s.heap.size) s s.heap ∧ va_T .byte q.2 (ztxt.getD i []).length (fun j => .int ((ztxt.getD i []).getD j 0)) (zA s.heap.size) s s.heap := by
    intro i
    by_cases hi : i < 26
    · obtain ⟨c1, c2, c3, c4, c5⟩ := zstr_c i hi
      obtain ⟨a, c, cA, kA, q1, q2, q3, q4, q5, q6, -⟩ := Cond.exactly_spec (args := #[Value.ref b]) (first := s) (o := none) (s := s) (idx := []) (t := ztm i) (cls := "java/lang/String") (hs _ c1)
      obtain ⟨t, ht, hT⟩ := va_Tof (f := fun j => .int ((ztxt.getD i []).getD j 0)) (A := zA s.heap.size) (zlen_c.2.2 i hi) (hs _ c3) (va_eqt (hs _ c4)) (fun j hj => va_eqt (hs _ (c5 j hj))) hA
      exact ⟨(a, t), fun _ => ⟨q1, ⟨cA, q3, q5, by rw [q6]; exact q2, hA a (Array.getElem?_eq_some_iff.mp q3).1⟩, vk_OFof q1 (va_eqt (hs _ c2)) hA, vk_OFof q1 ht hA, hT⟩⟩
    · exact ⟨(0, 0), fun h => absurd h hi⟩
  obtain ⟨ad, had⟩ := xc_ch h0
  refine ⟨fun i => if i < 1000 then (ad i).1 else (ad (i - 1000)).2, fun q hq => ?_, fun i hi => ?_, ?_, ?_⟩
  · obtain ⟨k, hk, rfl⟩ := List.mem_iff_getElem.mp hq
    have ek : zlit[k] = zlit.getD k ("", 0, "", 0) := by rw [List.getD_eq_getElem?_getD, List.getElem?_eq_getElem hk]; rfl
    rw [ek]
    obtain ⟨z1, z2, z3⟩ := zlit_c k hk
    have e1 := (had _ z1).1
    refine vk_R.of (A := #[Value.ref b]) (hts _ z3) ?_
    show _ = some (Value.ref (if (zlit.getD k ("", 0, "", 0)).2.2.2 < 1000 then (ad (zlit.getD k ("", 0, "", 0)).2.2.2).1 else (ad ((zlit.getD k ("", 0, "", 0)).2.2.2 - 1000)).2))
    rw [if_pos (by omega)]
    rcases z2 with e | e
    · rw [e] at e1 ⊢
      exact e1
    · exact va_eqR (hs _ e) e1
  · have hi' : i < 26 := by rw [zlen_c.2.1] at hi; exact hi
    obtain ⟨-, e2, e3, e4, e5⟩ := had i hi'
    show va_O "java/lang/String" (if i < 1000 then (ad i).1 else (ad (i - 1000)).2) _ _ _ ∧ va_OF "java/lang/String" "coder" "B" (.int 0) (if i < 1000 then (ad i).1 else (ad (i - 1000)).2) _ _ _ ∧ va_OF "java/lang/String" "value" "[B" (.ref (if 1000 + i < 1000 then (ad (1000 + i)).1 else (ad (1000 + i - 1000)).2)) (if i < 1000 then (ad i).1 else (ad (i - 1000)).2) _ _ _ ∧ va_T .byte (if 1000 + i < 1000 then (ad (1000 + i)).1 else (ad (1000 + i - 1000)).2) _ _ _ _ _
    rw [if_pos (by omega), if_neg (by omega), show 1000 + i - 1000 = i by omega]
    exact ⟨e2, e3, e4, e5⟩
  · exact va_Zof (hts (Cond.laysStatic "java/lang/String" "COMPACT_STRINGS" "Z") (by decide +kernel)) (hts (Cond.initialized "java/lang/String") (by decide +kernel)) (va_eqt (hs (Cond.eq (.static "java/lang/String" "COMPACT_STRINGS" "Z") (.int 1)) (by decide +kernel))) hA
  · exact va_Zqof (hts (Cond.laysStatic "jdk/internal/util/Preconditions" "SIOOBE_FORMATTER" "Ljava/util/function/BiFunction;") (by decide +kernel)) (hts (Cond.initialized "jdk/internal/util/Preconditions") (by decide +kernel)) (hs (Cond.isRef (.static "jdk/internal/util/Preconditions" "SIOOBE_FORMATTER" "Ljava/util/function/BiFunction;")) (by decide +kernel)) hA
theorem amb_of {s : State} {b : Nat} (hgv : (Jvm.Cond.and given_1 narrow_1).before #[Value.ref b] s = true) (hts : ∀ w ∈ lw_tbl, w.before #[Value.ref b] s = true) : ∃ (D : va_G) (cA : Nat → ClassId) (sA : Nat → Nat), zAm D cA s.heap.size sA s := by
  obtain ⟨sA, hSt⟩ := str_of hgv hts
  obtain ⟨f, hf⟩ := xc_ch (cls_of hts)
  obtain ⟨c0, a0, b0⟩ := arr_of (ty := .int) (hts _ (by decide +kernel)) (fun _ h => h)
  obtain ⟨c1, a1, b1⟩ := arr_of (ty := .byte) (hts _ (by decide +kernel)) (fun _ h => h)
  obtain ⟨c2, a2, b2⟩ := arr_of (ty := .long) (hts _ (by decide +kernel)) (fun _ h => h)
  obtain ⟨c3, a3, b3⟩ := arr_of (ty := .boolean) (hts _ (by decide +kernel)) (fun _ h => h)
  have o2 : (Cond.arrayOver (.object RX2)).before #[Value.ref b] s = true := hts _ (by decide +kernel)
  have o1 : (Cond.arrayOver (.object RX1)).before #[Value.ref b] s = true := hts _ (by decide +kernel)
  obtain ⟨c4, a4, b4⟩ := arr_ov o2
  obtain ⟨c5, a5, b5⟩ := arr_ov o1
  refine ⟨(fun k => (f k).1, fun k => (f k).2), fun t => match t with | 0 => c0 | 1 => c1 | 2 => c2 | 3 => c3 | 4 => c4 | _ => c5, sA, ⟨fun c q hq => hf c q hq, fun k q hq => ?_⟩, fun w hw => ?_, va_AO.of o2, va_AO.of o1, hSt⟩
  · match k, hq with
    | 0, hq => cases hq; exact ⟨a0, b0⟩
    | 1, hq => cases hq; exact ⟨a1, b1⟩
    | 2, hq => cases hq; exact ⟨a2, b2⟩
    | 3, hq => cases hq; exact ⟨a3, b3⟩
    | 4, hq => cases hq; exact ⟨a4, b4⟩
    | 5, hq => cases hq; exact ⟨a5, b5⟩
    | k + 6, hq => simp [ztys] at hq
  · obtain ⟨h1, h2⟩ := List.mem_filter.mp hw
    refine va_Nw.of ?_ (hts w h1)
    unfold zisN at h2
    split at h2
    · rfl
    · rfl
    · cases h2
