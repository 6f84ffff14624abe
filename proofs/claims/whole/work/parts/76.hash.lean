/-! open tables: a slot for a key, looked for from its hash on, round -/
def prb (M b d : Nat) : Nat := (b + d) % M
def pst (M : Nat) (hs : Nat → Nat) (occ : Nat → Bool) (key : Nat → Nat) (r d : Nat) : Bool := !occ (prb M (hs r) d) || decide (key (prb M (hs r) d) = r)
def sdt (M : Nat) (hs : Nat → Nat) (occ : Nat → Bool) (key : Nat → Nat) (r : Nat) : Nat := zfst (pst M hs occ key r) M
def slt (M : Nat) (hs : Nat → Nat) (occ : Nat → Bool) (key : Nat → Nat) (r : Nat) : Nat := prb M (hs r) (sdt M hs occ key r)
def ocn (occ : Nat → Bool) : Nat → Nat
  | 0 => 0
  | p + 1 => ocn occ p + (if occ p then 1 else 0)
theorem ocn_le (occ : Nat → Bool) : ∀ n, ocn occ n ≤ n
  | 0 => Nat.le_refl _
  | n + 1 => by
    have := ocn_le occ n
    rw [ocn]; split <;> omega
theorem ocn_ex {occ : Nat → Bool} : ∀ n, ocn occ n < n → ∃ p, p < n ∧ occ p = false
  | 0, h => by omega
  | n + 1, h => by
    rw [ocn] at h
    cases e : occ n
    · exact ⟨n, by omega, e⟩
    · rw [e] at h
      obtain ⟨p, h1, h2⟩ := ocn_ex n (by simp at h; omega)
      exact ⟨p, by omega, h2⟩
theorem ocn_congr {o o2 : Nat → Bool} : ∀ n, (∀ p, p < n → o p = o2 p) → ocn o n = ocn o2 n
  | 0, _ => rfl
  | n + 1, h => by rw [ocn, ocn, ocn_congr n (fun p hp => h p (by omega)), h n (by omega)]
theorem ocn_put {occ : Nat → Bool} {p : Nat} (ho : occ p = false) : ∀ n, p < n → ocn (z1 occ p true) n = ocn occ n + 1
  | 0, h => by omega
  | n + 1, h => by
    rw [ocn, ocn]
    by_cases e : p = n
    · subst e
      rw [z1_self, ho, ocn_congr (o := z1 occ p true) (o2 := occ) p (fun q hq => z1_ne _ _ (by omega))]
      simp
    · rw [ocn_put ho n (by omega), z1_ne _ _ (fun q => e q.symm)]
      omega
theorem ocn_none {occ : Nat → Bool} : ∀ n, (∀ p, p < n → occ p = false) → ocn occ n = 0
  | 0, _ => rfl
  | n + 1, h => by rw [ocn, ocn_none n (fun p hp => h p (by omega)), h n (by omega)]; rfl
theorem prb_lt {M b d : Nat} (hM : 0 < M) : prb M b d < M := Nat.mod_lt _ hM
theorem prb_all {M b p : Nat} (hM : 0 < M) (hp : p < M) : ∃ d, d < M ∧ prb M b d = p := by
  refine ⟨(p + M - b % M) % M, Nat.mod_lt _ hM, ?_⟩
  unfold prb
  have hb := Nat.mod_lt b hM
  rw [Nat.add_mod_mod, ← Nat.mod_add_mod, show b % M + (p + M - b % M) = p + M by omega, Nat.add_mod_right, Nat.mod_eq_of_lt hp]
/-- each key taken stands where it is looked for -/
def HV (M : Nat) (hs : Nat → Nat) (occ : Nat → Bool) (key : Nat → Nat) (c : Nat) : Prop := 0 < M ∧ c < M ∧ ocn occ M = c ∧ ∀ p, p < M → occ p = true → slt M hs occ key (key p) = p
theorem HV.found {M : Nat} {hs : Nat → Nat} {occ : Nat → Bool} {key : Nat → Nat} {c : Nat} (v : HV M hs occ key c) (r : Nat) : sdt M hs occ key r < M ∧ (occ (slt M hs occ key r) = true → key (slt M hs occ key r) = r) ∧ slt M hs occ key r < M := by
  obtain ⟨hM, hc, ho, hk⟩ := v
  obtain ⟨p, hp, hpo⟩ := ocn_ex (occ := occ) M (by omega)
  obtain ⟨d, hd, hpd⟩ := prb_all (b := hs r) hM hp
  have h1 : sdt M hs occ key r < M := by
    refine Classical.byContradiction fun c => ?_
    have hl := zfst_le (pst M hs occ key r) M
    have := zfst_before (P := pst M hs occ key r) (n := M) (i := d) (by unfold sdt at c; omega)
    unfold pst at this
    rw [hpd, hpo] at this
    simp at this
  refine ⟨h1, fun q => ?_, prb_lt hM⟩
  have q2 : occ (prb M (hs r) (sdt M hs occ key r)) = true := q
  have t2 : pst M hs occ key r (sdt M hs occ key r) = true := zfst_at (P := pst M hs occ key r) (n := M) h1
  unfold pst at t2
  rw [q2] at t2
  show key (prb M (hs r) (sdt M hs occ key r)) = r
  simpa using t2
theorem HV.in {M : Nat} {hs : Nat → Nat} {occ : Nat → Bool} {key : Nat → Nat} {c : Nat} (v : HV M hs occ key c) {r p : Nat} (hp : p < M) (ho : occ p = true) (hk : key p = r) : slt M hs occ key r = p := by
  rw [← hk]; exact v.2.2.2 p hp ho
def lk {α : Type} (M : Nat) (hs : Nat → Nat) (occ : Nat → Bool) (key : Nat → Nat) (val : Nat → α) (r : Nat) : Option α := if occ (slt M hs occ key r) = true then some (val (slt M hs occ key r)) else none
theorem sdt_keep {M : Nat} {hs : Nat → Nat} {occ occ2 : Nat → Bool} {key key2 : Nat → Nat} {r : Nat} (h1 : sdt M hs occ key r < M) (h2 : ∀ d, d < sdt M hs occ key r → occ2 (prb M (hs r) d) = occ (prb M (hs r) d) ∧ key2 (prb M (hs r) d) = key (prb M (hs r) d)) (h3 : key2 (prb M (hs r) (sdt M hs occ key r)) = r) : sdt M hs occ2 key2 r = sdt M hs occ key r := by
  refine zfst_eq (by omega) (fun d hd => ?_) (fun _ => ?_)
  · have := zfst_before (P := pst M hs occ key r) (n := M) (i := d) hd
    unfold pst at this ⊢
    rw [(h2 d hd).1, (h2 d hd).2]
    exact this
  · unfold pst
    rw [h3]
    simp
theorem sdt_path {M : Nat} {hs : Nat → Nat} {occ : Nat → Bool} {key : Nat → Nat} {r d : Nat} (hd : d < sdt M hs occ key r) : occ (prb M (hs r) d) = true ∧ key (prb M (hs r) d) ≠ r := by
  have := zfst_before (P := pst M hs occ key r) (n := M) (i := d) hd
  unfold pst at this
  simpa using this
theorem HV.put {α : Type} {M : Nat} {hs : Nat → Nat} {occ : Nat → Bool} {key : Nat → Nat} {c : Nat} (v : HV M hs occ key c) (val : Nat → α) (r : Nat) (w : α) (ho : occ (slt M hs occ key r) = false) (hc : c + 1 < M) : HV M hs (z1 occ (slt M hs occ key r) true) (z1 key (slt M hs occ key r) r) (c + 1) ∧ ∀ q, lk M hs (z1 occ (slt M hs occ key r) true) (z1 key (slt M hs occ key r) r) (z1 val (slt M hs occ key r) w) q = if q = r then some w else lk M hs occ key val q := by
  obtain ⟨f1, f2, f3⟩ := v.found r
  have hne : ∀ q, occ q = true → q ≠ slt M hs occ key r := fun q h1 e => by rw [e, ho] at h1; cases h1
  have e1 : slt M hs (z1 occ (slt M hs occ key r) true) (z1 key (slt M hs occ key r) r) r = slt M hs occ key r := by
    have := sdt_keep (occ2 := z1 occ (slt M hs occ key r) true) (key2 := z1 key (slt M hs occ key r) r) f1 (fun d hd => by
      have hp := sdt_path hd
      rw [z1_ne _ _ (hne _ hp.1), z1_ne _ _ (hne _ hp.1)]
      exact ⟨rfl, rfl⟩) (z1_self _ _ _)
    unfold slt at this ⊢
    rw [this]
  have e2 : ∀ p, p < M → occ p = true → slt M hs (z1 occ (slt M hs occ key r) true) (z1 key (slt M hs occ key r) r) (key p) = p := by
    intro p hp hop
    have hs1 := v.2.2.2 p hp hop
    have f4 := (v.found (key p)).1
    have hpp : prb M (hs (key p)) (sdt M hs occ key (key p)) = p := hs1
    have := sdt_keep (occ2 := z1 occ (slt M hs occ key r) true) (key2 := z1 key (slt M hs occ key r) r) f4 (fun d hd => by
      have hp := sdt_path hd
      rw [z1_ne _ _ (hne _ hp.1), z1_ne _ _ (hne _ hp.1)]
      exact ⟨rfl, rfl⟩) (by rw [hpp, z1_ne _ _ (hne p hop)])
    unfold slt at this ⊢
    rw [this]
    exact hpp
  have hv : HV M hs (z1 occ (slt M hs occ key r) true) (z1 key (slt M hs occ key r) r) (c + 1) := by
    refine ⟨v.1, hc, by rw [ocn_put ho M f3, v.2.2.1], fun p hp hop => ?_⟩
    by_cases e : p = slt M hs occ key r
    · rw [e, z1_self]
      exact e1
    · rw [z1_ne _ _ e] at hop
      rw [z1_ne _ _ e]
      exact e2 p hp hop
  refine ⟨hv, fun q => ?_⟩
  by_cases e : q = r
  · rw [if_pos e, e]
    unfold lk
    rw [e1, z1_self, if_pos rfl, z1_self]
  · rw [if_neg e]
    unfold lk
    obtain ⟨g1, g2, g3⟩ := v.found q
    obtain ⟨k1, k2, k3⟩ := hv.found q
    cases c1 : occ (slt M hs occ key q)
    · rw [if_neg (show ¬ (false = true) by decide), if_neg]
      intro c2
      have c3 := k2 c2
      by_cases c4 : slt M hs (z1 occ (slt M hs occ key r) true) (z1 key (slt M hs occ key r) r) q = slt M hs occ key r
      · rw [c4, z1_self] at c3
        exact e c3.symm
      · rw [z1_ne _ _ c4] at c2 c3
        have := v.in k3 c2 c3
        rw [← this] at c2
        rw [c1] at c2
        cases c2
    · have c3 := g2 c1
      have := e2 _ g3 c1
      rw [c3] at this
      rw [this, z1_ne _ _ (hne _ c1), c1, z1_ne _ _ (hne _ c1)]
theorem HV.set {α : Type} {M : Nat} {hs : Nat → Nat} {occ : Nat → Bool} {key : Nat → Nat} {c : Nat} (v : HV M hs occ key c) (val : Nat → α) (r : Nat) (w : α) (ho : occ (slt M hs occ key r) = true) : ∀ q, lk M hs occ key (z1 val (slt M hs occ key r) w) q = if q = r then some w else lk M hs occ key val q := by
  intro q
  unfold lk
  by_cases e : q = r
  · rw [if_pos e, e, if_pos ho, z1_self]
  · rw [if_neg e]
    cases c1 : occ (slt M hs occ key q)
    · rfl
    · have h1 := (v.found q).2.1 c1
      have h2 := (v.found r).2.1 ho
      rw [z1_ne _ _ (fun z => e (by rw [← h1, z, h2]))]
theorem HV.empty {M : Nat} {hs : Nat → Nat} {occ : Nat → Bool} {key : Nat → Nat} (hM : 0 < M) (h : ∀ p, p < M → occ p = false) : HV M hs occ key 0 ∧ ∀ {α : Type} (val : Nat → α) q, lk M hs occ key val q = none := by
  have hv : HV M hs occ key 0 := ⟨hM, hM, ocn_none M h, fun p hp ho => by rw [h p hp] at ho; cases ho⟩
  refine ⟨hv, fun val q => ?_⟩
  unfold lk
  rw [h _ (hv.found q).2.2, if_neg (by decide)]
/-! the hash -/
theorem pk_ush20 (x : Int32) : zush x 20 = iI ((x.toBitVec.toNat / 1048576 : Nat) : Int) := by
  have h := pk_ushr x 20 20 (by decide)
  have hb : x.toBitVec.toNat / 1048576 < 2 ^ 32 := Nat.lt_of_le_of_lt (Nat.div_le_self _ _) x.toBitVec.isLt
  refine Int32.toBitVec_inj.mp (BitVec.eq_of_toNat_eq ?_)
  show _ = (BitVec.ofNat 32 (x.toBitVec.toNat / 1048576)).toNat
  rw [BitVec.toNat_ofNat, Nat.mod_eq_of_lt hb]
  exact h
theorem pk_ush17 (x : Int32) : zush x 17 = iI ((x.toBitVec.toNat / 131072 : Nat) : Int) := by
  have h := pk_ushr x 17 17 (by decide)
  have hb : x.toBitVec.toNat / 131072 < 2 ^ 32 := Nat.lt_of_le_of_lt (Nat.div_le_self _ _) x.toBitVec.isLt
  refine Int32.toBitVec_inj.mp (BitVec.eq_of_toNat_eq ?_)
  show _ = (BitVec.ofNat 32 (x.toBitVec.toNat / 131072)).toNat
  rw [BitVec.toNat_ofNat, Nat.mod_eq_of_lt hb]
  exact h
def hsC (r : Nat) : Nat := (iI (r : Int) * (-1640531535 : Int32)).toBitVec.toNat / 1048576
def hsM (r : Nat) : Nat := (iI (r : Int) * (-1640531535 : Int32)).toBitVec.toNat / 131072
theorem hsC_lt (r : Nat) : hsC r < 4096 := by
  unfold hsC
  have := (iI (r : Int) * (-1640531535 : Int32)).toBitVec.isLt
  omega
theorem hsM_lt (r : Nat) : hsM r < 32768 := by
  unfold hsM
  have := (iI (r : Int) * (-1640531535 : Int32)).toBitVec.isLt
  omega
theorem and_4095 {a : Nat} (ha : a < 2147483647) : (iI ((a : Int) + 1)) &&& iI 4095 = iI (((a + 1) % 4096 : Nat) : Int) := by
  have := iI_and (a + 1) 4095
  rw [show (4095 : Nat) = 2 ^ 12 - 1 from rfl, Nat.and_two_pow_sub_one_eq_mod] at this
  exact this
theorem and_32767 {a : Nat} (ha : a < 2147483647) : (iI ((a : Int) + 1)) &&& iI 32767 = iI (((a + 1) % 32768 : Nat) : Int) := by
  have := iI_and (a + 1) 32767
  rw [show (32767 : Nat) = 2 ^ 15 - 1 from rfl, Nat.and_two_pow_sub_one_eq_mod] at this
  exact this
theorem prb_s {M b d : Nat} : prb M b (d + 1) = (prb M b d + 1) % M := by
  unfold prb
  rw [Nat.mod_add_mod, Nat.add_assoc]
