/-! the law: its cases -/
set_option maxRecDepth 100000 in
theorem lc_15 {p : Program} {l : Launch} {e : Env} {s : State} {m : MethodId} {args : Array Value} {below : List Frame} {meth : Method} {c : Code} {Q : State → Prop} {D : va_G} {cA : Nat → ClassId} {base : Nat} {sA : Nat → Nat} {b L : Nat} {xs : Nat → Int32} {i : Int32} {h : Zh} {u : Nat} (X : zX p s m args meth c cL_law RL 7 D cA base sA) (r : zRm room_1 s D cA base zh0) (hb : base = s.heap.size ∧ b < s.heap.size ∧ va_X b L xs s s.heap) (inv : Inv h u) (hu : u ≤ 59000) (hz : ∀ k : Int32, k = 1 ∨ k = 2 ∨ k = 3 ∨ k = 4 ∨ k = 5 → zin (i + k) L) (K : ∀ h2, Inv h2 (u + 100) → zGA p l e room_1 s m args below meth c Q 7 D cA base zh0 1565 (lwLO base b i) [] h2) : zGA p l e room_1 s m args below meth c Q 7 D cA base zh0 731 (lwLO base b i) [] h := by
  obtain ⟨o, h1, h2, e1, e2, inv2⟩ := op_works inv hu (toR (xs (i + 1).toNatClampNeg))
  simp only [toI] at e1 e2
  have k0 := inv.k0
  have k76 := kx_works e2
  refine a_aload_n X 3 dL_law_731 rfl ?_
  refine ax_arg X hb (v := 1) dL_law_732 dL_law_733 dL_law_735 dL_law_736 dL_law_737 (by decide) (hz 1 (by decide)) ?_
  refine a_callVA X r 1 (sX10_works e1) zf10 k0 ydX10_works w_ml_RL_83 w_instanceMethod_X10_works w_sel_X10_works w_ini_RX10 w_code_X10_works (by decide) rfl (st := []) rfl rfl (Nat.le_of_ble_eq_true rfl) dL_law_738 ?_
  refine a_aload_n X 2 dL_law_741 rfl ?_
  refine ax_arg X hb (v := 1) dL_law_742 dL_law_743 dL_law_745 dL_law_746 dL_law_747 (by decide) (hz 1 (by decide)) ?_
  refine a_callV X r 1 (sX12_works e2) zf12 k76 ydX12_works w_ml_RL_86 w_instanceMethod_X12_works w_sel_X12_works w_ini_RX12 w_code_X12_works (by decide) rfl (st := [.int o]) rfl rfl (Nat.le_of_ble_eq_true rfl) dL_law_748 ?_
  exact a_icmp_eq X 1565 dL_law_751 (by decide) (fun _ => K h2 inv2) (fun hn => absurd rfl hn)
set_option maxRecDepth 100000 in
theorem lc_16 {p : Program} {l : Launch} {e : Env} {s : State} {m : MethodId} {args : Array Value} {below : List Frame} {meth : Method} {c : Code} {Q : State → Prop} {D : va_G} {cA : Nat → ClassId} {base : Nat} {sA : Nat → Nat} {b L : Nat} {xs : Nat → Int32} {i : Int32} {h : Zh} {u : Nat} (X : zX p s m args meth c cL_law RL 7 D cA base sA) (r : zRm room_1 s D cA base zh0) (hb : base = s.heap.size ∧ b < s.heap.size ∧ va_X b L xs s s.heap) (inv : Inv h u) (hu : u ≤ 59000) (hz : ∀ k : Int32, k = 1 ∨ k = 2 ∨ k = 3 ∨ k = 4 ∨ k = 5 → zin (i + k) L) (K : ∀ h2, Inv h2 (u + 100) → zGA p l e room_1 s m args below meth c Q 7 D cA base zh0 1565 (lwLO base b i) [] h2) : zGA p l e room_1 s m args below meth c Q 7 D cA base zh0 756 (lwLO base b i) [] h := by
  obtain ⟨o, h1, h2, e1, e2, inv2⟩ := op_clash (b := decide (¬ xs (i + 2).toNatClampNeg = 0)) inv hu (toR (xs (i + 1).toNatClampNeg))
  simp only [toI] at e1 e2
  have k0 := inv.k0
  have k76 := kx_clash e2
  refine a_aload_n X 3 dL_law_756 rfl ?_
  refine ax_arg X hb (v := 1) dL_law_757 dL_law_758 dL_law_760 dL_law_761 dL_law_762 (by decide) (hz 1 (by decide)) ?_
  refine ax_bool X hb (v := 2) dL_law_763 dL_law_764 dL_law_766 dL_law_767 dL_law_768 dL_law_769 dL_law_772 dL_law_773 dL_law_776 (by decide) (hz 2 (by decide)) (by decide) (by decide) ?_
  refine a_callVA X r 2 (sX10_clash e1) zf10 k0 ydX10_clash w_ml_RL_87 w_instanceMethod_X10_clash w_sel_X10_clash w_ini_RX10 w_code_X10_clash (by decide) rfl (st := []) rfl rfl (Nat.le_of_ble_eq_true rfl) dL_law_777 ?_
  refine a_aload_n X 2 dL_law_780 rfl ?_
  refine ax_arg X hb (v := 1) dL_law_781 dL_law_782 dL_law_784 dL_law_785 dL_law_786 (by decide) (hz 1 (by decide)) ?_
  refine ax_bool X hb (v := 2) dL_law_787 dL_law_788 dL_law_790 dL_law_791 dL_law_792 dL_law_793 dL_law_796 dL_law_797 dL_law_800 (by decide) (hz 2 (by decide)) (by decide) (by decide) ?_
  refine a_callV X r 2 (sX12_clash e2) zf12 k76 ydX12_clash w_ml_RL_91 w_instanceMethod_X12_clash w_sel_X12_clash w_ini_RX12 w_code_X12_clash (by decide) rfl (st := [.int o]) rfl rfl (Nat.le_of_ble_eq_true rfl) dL_law_801 ?_
  exact a_icmp_eq X 1565 dL_law_804 (by decide) (fun _ => K h2 inv2) (fun hn => absurd rfl hn)
set_option maxRecDepth 100000 in
theorem lc_17 {p : Program} {l : Launch} {e : Env} {s : State} {m : MethodId} {args : Array Value} {below : List Frame} {meth : Method} {c : Code} {Q : State → Prop} {D : va_G} {cA : Nat → ClassId} {base : Nat} {sA : Nat → Nat} {b L : Nat} {xs : Nat → Int32} {i : Int32} {h : Zh} {u : Nat} (X : zX p s m args meth c cL_law RL 7 D cA base sA) (r : zRm room_1 s D cA base zh0) (hb : base = s.heap.size ∧ b < s.heap.size ∧ va_X b L xs s s.heap) (inv : Inv h u) (hu : u ≤ 59000) (hz : ∀ k : Int32, k = 1 ∨ k = 2 ∨ k = 3 ∨ k = 4 ∨ k = 5 → zin (i + k) L) (K : ∀ h2, Inv h2 (u + 100) → zGA p l e room_1 s m args below meth c Q 7 D cA base zh0 1565 (lwLO base b i) [] h2) : zGA p l e room_1 s m args below meth c Q 7 D cA base zh0 809 (lwLO base b i) [] h := by
  obtain ⟨o, h1, h2, e1, e2, inv2⟩ := op_laid inv hu (toR (xs (i + 1).toNatClampNeg))
  simp only [toI] at e1 e2
  have k0 := inv.k0
  have k76 := kx_laid e2
  refine a_aload_n X 3 dL_law_809 rfl ?_
  refine ax_arg X hb (v := 1) dL_law_810 dL_law_811 dL_law_813 dL_law_814 dL_law_815 (by decide) (hz 1 (by decide)) ?_
  refine a_callVA X r 1 (sX10_laid e1) zf10 k0 ydX10_laid w_ml_RL_92 w_instanceMethod_X10_laid w_sel_X10_laid w_ini_RX10 w_code_X10_laid (by decide) rfl (st := []) rfl rfl (Nat.le_of_ble_eq_true rfl) dL_law_816 ?_
  refine a_aload_n X 2 dL_law_819 rfl ?_
  refine ax_arg X hb (v := 1) dL_law_820 dL_law_821 dL_law_823 dL_law_824 dL_law_825 (by decide) (hz 1 (by decide)) ?_
  refine a_callV X r 1 (sX12_laid e2) zf12 k76 ydX12_laid w_ml_RL_95 w_instanceMethod_X12_laid w_sel_X12_laid w_ini_RX12 w_code_X12_laid (by decide) rfl (st := [.int o]) rfl rfl (Nat.le_of_ble_eq_true rfl) dL_law_826 ?_
  exact a_icmp_eq X 1565 dL_law_829 (by decide) (fun _ => K h2 inv2) (fun hn => absurd rfl hn)
set_option maxRecDepth 100000 in
theorem lc_18 {p : Program} {l : Launch} {e : Env} {s : State} {m : MethodId} {args : Array Value} {below : List Frame} {meth : Method} {c : Code} {Q : State → Prop} {D : va_G} {cA : Nat → ClassId} {base : Nat} {sA : Nat → Nat} {b L : Nat} {xs : Nat → Int32} {i : Int32} {h : Zh} {u : Nat} (X : zX p s m args meth c cL_law RL 7 D cA base sA) (r : zRm room_1 s D cA base zh0) (hb : base = s.heap.size ∧ b < s.heap.size ∧ va_X b L xs s s.heap) (inv : Inv h u) (hu : u ≤ 59000) (hz : ∀ k : Int32, k = 1 ∨ k = 2 ∨ k = 3 ∨ k = 4 ∨ k = 5 → zin (i + k) L) (K : ∀ h2, Inv h2 (u + 100) → zGA p l e room_1 s m args below meth c Q 7 D cA base zh0 1565 (lwLO base b i) [] h2) : zGA p l e room_1 s m args below meth c Q 7 D cA base zh0 834 (lwLO base b i) [] h := by
  obtain ⟨o, h1, h2, e1, e2, inv2⟩ := op_fails inv hu (toR (xs (i + 1).toNatClampNeg))
  simp only [toI] at e1 e2
  have k0 := inv.k0
  have k76 := kx_fails e2
  refine a_aload_n X 3 dL_law_834 rfl ?_
  refine ax_arg X hb (v := 1) dL_law_835 dL_law_836 dL_law_838 dL_law_839 dL_law_840 (by decide) (hz 1 (by decide)) ?_
  refine a_callVA X r 1 (sX10_fails e1) zf10 k0 ydX10_fails w_ml_RL_96 w_instanceMethod_X10_fails w_sel_X10_fails w_ini_RX10 w_code_X10_fails (by decide) rfl (st := []) rfl rfl (Nat.le_of_ble_eq_true rfl) dL_law_841 ?_
  refine a_aload_n X 2 dL_law_844 rfl ?_
  refine ax_arg X hb (v := 1) dL_law_845 dL_law_846 dL_law_848 dL_law_849 dL_law_850 (by decide) (hz 1 (by decide)) ?_
  refine a_callV X r 1 (sX12_fails e2) zf12 k76 ydX12_fails w_ml_RL_99 w_instanceMethod_X12_fails w_sel_X12_fails w_ini_RX12 w_code_X12_fails (by decide) rfl (st := [.int o]) rfl rfl (Nat.le_of_ble_eq_true rfl) dL_law_851 ?_
  exact a_icmp_eq X 1565 dL_law_854 (by decide) (fun _ => K h2 inv2) (fun hn => absurd rfl hn)
set_option maxRecDepth 100000 in
theorem lc_19 {p : Program} {l : Launch} {e : Env} {s : State} {m : MethodId} {args : Array Value} {below : List Frame} {meth : Method} {c : Code} {Q : State → Prop} {D : va_G} {cA : Nat → ClassId} {base : Nat} {sA : Nat → Nat} {b L : Nat} {xs : Nat → Int32} {i : Int32} {h : Zh} {u : Nat} (X : zX p s m args meth c cL_law RL 7 D cA base sA) (r : zRm room_1 s D cA base zh0) (hb : base = s.heap.size ∧ b < s.heap.size ∧ va_X b L xs s s.heap) (inv : Inv h u) (hu : u ≤ 59000) (hz : ∀ k : Int32, k = 1 ∨ k = 2 ∨ k = 3 ∨ k = 4 ∨ k = 5 → zin (i + k) L) (K : ∀ h2, Inv h2 (u + 100) → zGA p l e room_1 s m args below meth c Q 7 D cA base zh0 1565 (lwLO base b i) [] h2) : zGA p l e room_1 s m args below meth c Q 7 D cA base zh0 859 (lwLO base b i) [] h := by
  obtain ⟨o, h1, h2, e1, e2, inv2⟩ := op_seen inv hu (toR (xs (i + 1).toNatClampNeg))
  simp only [toI] at e1 e2
  have k0 := inv.k0
  have k76 := kx_seen e2
  refine a_aload_n X 3 dL_law_859 rfl ?_
  refine ax_arg X hb (v := 1) dL_law_860 dL_law_861 dL_law_863 dL_law_864 dL_law_865 (by decide) (hz 1 (by decide)) ?_
  refine a_callVA X r 1 (sX10_seen e1) zf10 k0 ydX10_seen w_ml_RL_100 w_instanceMethod_X10_seen w_sel_X10_seen w_ini_RX10 w_code_X10_seen (by decide) rfl (st := []) rfl rfl (Nat.le_of_ble_eq_true rfl) dL_law_866 ?_
  refine a_aload_n X 2 dL_law_869 rfl ?_
  refine ax_arg X hb (v := 1) dL_law_870 dL_law_871 dL_law_873 dL_law_874 dL_law_875 (by decide) (hz 1 (by decide)) ?_
  refine a_callV X r 1 (sX12_seen e2) zf12 k76 ydX12_seen w_ml_RL_103 w_instanceMethod_X12_seen w_sel_X12_seen w_ini_RX12 w_code_X12_seen (by decide) rfl (st := [.int o]) rfl rfl (Nat.le_of_ble_eq_true rfl) dL_law_876 ?_
  exact a_icmp_eq X 1565 dL_law_879 (by decide) (fun _ => K h2 inv2) (fun hn => absurd rfl hn)
set_option maxRecDepth 100000 in
theorem lc_20 {p : Program} {l : Launch} {e : Env} {s : State} {m : MethodId} {args : Array Value} {below : List Frame} {meth : Method} {c : Code} {Q : State → Prop} {D : va_G} {cA : Nat → ClassId} {base : Nat} {sA : Nat → Nat} {b L : Nat} {xs : Nat → Int32} {i : Int32} {h : Zh} {u : Nat} (X : zX p s m args meth c cL_law RL 7 D cA base sA) (r : zRm room_1 s D cA base zh0) (hb : base = s.heap.size ∧ b < s.heap.size ∧ va_X b L xs s s.heap) (inv : Inv h u) (hu : u ≤ 59000) (hz : ∀ k : Int32, k = 1 ∨ k = 2 ∨ k = 3 ∨ k = 4 ∨ k = 5 → zin (i + k) L) (K : ∀ h2, Inv h2 (u + 100) → zGA p l e room_1 s m args below meth c Q 7 D cA base zh0 1565 (lwLO base b i) [] h2) : zGA p l e room_1 s m args below meth c Q 7 D cA base zh0 884 (lwLO base b i) [] h := by
  obtain ⟨o, h1, h2, e1, e2, inv2⟩ := op_borne inv hu (toR (xs (i + 1).toNatClampNeg))
  simp only [toI] at e1 e2
  have k0 := inv.k0
  have k76 := kx_borne e2
  refine a_aload_n X 3 dL_law_884 rfl ?_
  refine ax_arg X hb (v := 1) dL_law_885 dL_law_886 dL_law_888 dL_law_889 dL_law_890 (by decide) (hz 1 (by decide)) ?_
  refine a_callVA X r 1 (sX10_borne e1) zf10 k0 ydX10_borne w_ml_RL_104 w_instanceMethod_X10_borne w_sel_X10_borne w_ini_RX10 w_code_X10_borne (by decide) rfl (st := []) rfl rfl (Nat.le_of_ble_eq_true rfl) dL_law_891 ?_
  refine a_aload_n X 2 dL_law_894 rfl ?_
  refine ax_arg X hb (v := 1) dL_law_895 dL_law_896 dL_law_898 dL_law_899 dL_law_900 (by decide) (hz 1 (by decide)) ?_
  refine a_callV X r 1 (sX12_borne e2) zf12 k76 ydX12_borne w_ml_RL_107 w_instanceMethod_X12_borne w_sel_X12_borne w_ini_RX12 w_code_X12_borne (by decide) rfl (st := [.int o]) rfl rfl (Nat.le_of_ble_eq_true rfl) dL_law_901 ?_
  exact a_icmp_eq X 1565 dL_law_904 (by decide) (fun _ => K h2 inv2) (fun hn => absurd rfl hn)
set_option maxRecDepth 100000 in
theorem lc_21 {p : Program} {l : Launch} {e : Env} {s : State} {m : MethodId} {args : Array Value} {below : List Frame} {meth : Method} {c : Code} {Q : State → Prop} {D : va_G} {cA : Nat → ClassId} {base : Nat} {sA : Nat → Nat} {b L : Nat} {xs : Nat → Int32} {i : Int32} {h : Zh} {u : Nat} (X : zX p s m args meth c cL_law RL 7 D cA base sA) (r : zRm room_1 s D cA base zh0) (hb : base = s.heap.size ∧ b < s.heap.size ∧ va_X b L xs s s.heap) (inv : Inv h u) (hu : u ≤ 59000) (hz : ∀ k : Int32, k = 1 ∨ k = 2 ∨ k = 3 ∨ k = 4 ∨ k = 5 → zin (i + k) L) (K : ∀ h2, Inv h2 (u + 100) → zGA p l e room_1 s m args below meth c Q 7 D cA base zh0 1565 (lwLO base b i) [] h2) : zGA p l e room_1 s m args below meth c Q 7 D cA base zh0 909 (lwLO base b i) [] h := by
  obtain ⟨o, h1, h2, e1, e2, inv2⟩ := op_wordsWork inv hu (toR (xs (i + 1).toNatClampNeg))
  simp only [toI] at e1 e2
  have k0 := inv.k0
  have k76 := kx_wordsWork e2
  refine a_aload_n X 3 dL_law_909 rfl ?_
  refine ax_arg X hb (v := 1) dL_law_910 dL_law_911 dL_law_913 dL_law_914 dL_law_915 (by decide) (hz 1 (by decide)) ?_
  refine a_callV X r 1 (sX10_wordsWork e1) zf10 k0 ydX10_wordsWork w_ml_RL_108 w_instanceMethod_X10_wordsWork w_sel_X10_wordsWork w_ini_RX10 w_code_X10_wordsWork (by decide) rfl (st := []) rfl rfl (Nat.le_of_ble_eq_true rfl) dL_law_916 ?_
  refine a_aload_n X 2 dL_law_919 rfl ?_
  refine ax_arg X hb (v := 1) dL_law_920 dL_law_921 dL_law_923 dL_law_924 dL_law_925 (by decide) (hz 1 (by decide)) ?_
  refine a_callV X r 1 (sX12_wordsWork e2) zf12 k76 ydX12_wordsWork w_ml_RL_111 w_instanceMethod_X12_wordsWork w_sel_X12_wordsWork w_ini_RX12 w_code_X12_wordsWork (by decide) rfl (st := [.int o]) rfl rfl (Nat.le_of_ble_eq_true rfl) dL_law_926 ?_
  exact a_icmp_eq X 1565 dL_law_929 (by decide) (fun _ => K h2 inv2) (fun hn => absurd rfl hn)
set_option maxRecDepth 100000 in
theorem lc_22 {p : Program} {l : Launch} {e : Env} {s : State} {m : MethodId} {args : Array Value} {below : List Frame} {meth : Method} {c : Code} {Q : State → Prop} {D : va_G} {cA : Nat → ClassId} {base : Nat} {sA : Nat → Nat} {b L : Nat} {xs : Nat → Int32} {i : Int32} {h : Zh} {u : Nat} (X : zX p s m args meth c cL_law RL 7 D cA base sA) (r : zRm room_1 s D cA base zh0) (hb : base = s.heap.size ∧ b < s.heap.size ∧ va_X b L xs s s.heap) (inv : Inv h u) (hu : u ≤ 59000) (hz : ∀ k : Int32, k = 1 ∨ k = 2 ∨ k = 3 ∨ k = 4 ∨ k = 5 → zin (i + k) L) (K : ∀ h2, Inv h2 (u + 100) → zGA p l e room_1 s m args below meth c Q 7 D cA base zh0 1565 (lwLO base b i) [] h2) : zGA p l e room_1 s m args below meth c Q 7 D cA base zh0 934 (lwLO base b i) [] h := by
  obtain ⟨o, h1, h2, e1, e2, inv2⟩ := op_shortest inv hu
  have k0 := inv.k0
  have k76 := kx_shortest e2
  refine a_aload_n X 3 dL_law_934 rfl ?_
  refine a_callV X r 0 (sX10_shortest e1) zf10 k0 ydX10_shortest w_ml_RL_112 w_instanceMethod_X10_shortest w_sel_X10_shortest w_ini_RX10 w_code_X10_shortest (by decide) rfl (st := []) rfl rfl (Nat.le_of_ble_eq_true rfl) dL_law_935 ?_
  refine a_aload_n X 2 dL_law_938 rfl ?_
  refine a_callV X r 0 (sX12_shortest e2) zf12 k76 ydX12_shortest w_ml_RL_115 w_instanceMethod_X12_shortest w_sel_X12_shortest w_ini_RX12 w_code_X12_shortest (by decide) rfl (st := [.int o]) rfl rfl (Nat.le_of_ble_eq_true rfl) dL_law_939 ?_
  exact a_icmp_eq X 1565 dL_law_942 (by decide) (fun _ => K h2 inv2) (fun hn => absurd rfl hn)
set_option maxRecDepth 100000 in
theorem lc_23 {p : Program} {l : Launch} {e : Env} {s : State} {m : MethodId} {args : Array Value} {below : List Frame} {meth : Method} {c : Code} {Q : State → Prop} {D : va_G} {cA : Nat → ClassId} {base : Nat} {sA : Nat → Nat} {b L : Nat} {xs : Nat → Int32} {i : Int32} {h : Zh} {u : Nat} (X : zX p s m args meth c cL_law RL 7 D cA base sA) (r : zRm room_1 s D cA base zh0) (hb : base = s.heap.size ∧ b < s.heap.size ∧ va_X b L xs s s.heap) (inv : Inv h u) (hu : u ≤ 59000) (hz : ∀ k : Int32, k = 1 ∨ k = 2 ∨ k = 3 ∨ k = 4 ∨ k = 5 → zin (i + k) L) (K : ∀ h2, Inv h2 (u + 100) → zGA p l e room_1 s m args below meth c Q 7 D cA base zh0 1565 (lwLO base b i) [] h2) : zGA p l e room_1 s m args below meth c Q 7 D cA base zh0 947 (lwLO base b i) [] h := by
  obtain ⟨o, h1, h2, e1, e2, inv2⟩ := op_pairs inv hu
  have k0 := inv.k0
  have k76 := kx_pairs e2
  refine a_aload_n X 3 dL_law_947 rfl ?_
  refine a_callV X r 0 (sX10_pairs e1) zf10 k0 ydX10_pairs w_ml_RL_116 w_instanceMethod_X10_pairs w_sel_X10_pairs w_ini_RX10 w_code_X10_pairs (by decide) rfl (st := []) rfl rfl (Nat.le_of_ble_eq_true rfl) dL_law_948 ?_
  refine a_aload_n X 2 dL_law_951 rfl ?_
  refine a_callV X r 0 (sX12_pairs e2) zf12 k76 ydX12_pairs w_ml_RL_119 w_instanceMethod_X12_pairs w_sel_X12_pairs w_ini_RX12 w_code_X12_pairs (by decide) rfl (st := [.int o]) rfl rfl (Nat.le_of_ble_eq_true rfl) dL_law_952 ?_
  exact a_icmp_eq X 1565 dL_law_955 (by decide) (fun _ => K h2 inv2) (fun hn => absurd rfl hn)
set_option maxRecDepth 100000 in
theorem lc_24 {p : Program} {l : Launch} {e : Env} {s : State} {m : MethodId} {args : Array Value} {below : List Frame} {meth : Method} {c : Code} {Q : State → Prop} {D : va_G} {cA : Nat → ClassId} {base : Nat} {sA : Nat → Nat} {b L : Nat} {xs : Nat → Int32} {i : Int32} {h : Zh} {u : Nat} (X : zX p s m args meth c cL_law RL 7 D cA base sA) (r : zRm room_1 s D cA base zh0) (hb : base = s.heap.size ∧ b < s.heap.size ∧ va_X b L xs s s.heap) (inv : Inv h u) (hu : u ≤ 59000) (hz : ∀ k : Int32, k = 1 ∨ k = 2 ∨ k = 3 ∨ k = 4 ∨ k = 5 → zin (i + k) L) (K : ∀ h2, Inv h2 (u + 100) → zGA p l e room_1 s m args below meth c Q 7 D cA base zh0 1565 (lwLO base b i) [] h2) : zGA p l e room_1 s m args below meth c Q 7 D cA base zh0 960 (lwLO base b i) [] h := by
  obtain ⟨o, h1, h2, e1, e2, inv2⟩ := op_table inv hu (toR (xs (i + 1).toNatClampNeg))
  simp only [toI] at e1 e2
  have k0 := inv.k0
  have k76 := kx_table e2
  refine a_aload_n X 3 dL_law_960 rfl ?_
  refine ax_arg X hb (v := 1) dL_law_961 dL_law_962 dL_law_964 dL_law_965 dL_law_966 (by decide) (hz 1 (by decide)) ?_
  refine a_callVA X r 1 (sX10_table e1) zf10 k0 ydX10_table w_ml_RL_120 w_instanceMethod_X10_table w_sel_X10_table w_ini_RX10 w_code_X10_table (by decide) rfl (st := []) rfl rfl (Nat.le_of_ble_eq_true rfl) dL_law_967 ?_
  refine a_aload_n X 2 dL_law_970 rfl ?_
  refine ax_arg X hb (v := 1) dL_law_971 dL_law_972 dL_law_974 dL_law_975 dL_law_976 (by decide) (hz 1 (by decide)) ?_
  refine a_callV X r 1 (sX12_table e2) zf12 k76 ydX12_table w_ml_RL_123 w_instanceMethod_X12_table w_sel_X12_table w_ini_RX12 w_code_X12_table (by decide) rfl (st := [.int o]) rfl rfl (Nat.le_of_ble_eq_true rfl) dL_law_977 ?_
  exact a_icmp_eq X 1565 dL_law_980 (by decide) (fun _ => K h2 inv2) (fun hn => absurd rfl hn)
set_option maxRecDepth 100000 in
theorem lc_25 {p : Program} {l : Launch} {e : Env} {s : State} {m : MethodId} {args : Array Value} {below : List Frame} {meth : Method} {c : Code} {Q : State → Prop} {D : va_G} {cA : Nat → ClassId} {base : Nat} {sA : Nat → Nat} {b L : Nat} {xs : Nat → Int32} {i : Int32} {h : Zh} {u : Nat} (X : zX p s m args meth c cL_law RL 7 D cA base sA) (r : zRm room_1 s D cA base zh0) (hb : base = s.heap.size ∧ b < s.heap.size ∧ va_X b L xs s s.heap) (inv : Inv h u) (hu : u ≤ 59000) (hz : ∀ k : Int32, k = 1 ∨ k = 2 ∨ k = 3 ∨ k = 4 ∨ k = 5 → zin (i + k) L) (K : ∀ h2, Inv h2 (u + 100) → zGA p l e room_1 s m args below meth c Q 7 D cA base zh0 1565 (lwLO base b i) [] h2) : zGA p l e room_1 s m args below meth c Q 7 D cA base zh0 985 (lwLO base b i) [] h := by
  obtain ⟨o, h1, h2, e1, e2, inv2⟩ := op_count (b := decide (¬ xs (i + 2).toNatClampNeg = 0)) inv hu (toR (xs (i + 1).toNatClampNeg))
  simp only [toI] at e1 e2
  have k0 := inv.k0
  have k76 := kx_count e2
  refine a_aload_n X 3 dL_law_985 rfl ?_
  refine ax_arg X hb (v := 1) dL_law_986 dL_law_987 dL_law_989 dL_law_990 dL_law_991 (by decide) (hz 1 (by decide)) ?_
  refine ax_bool X hb (v := 2) dL_law_992 dL_law_993 dL_law_995 dL_law_996 dL_law_997 dL_law_998 dL_law_1001 dL_law_1002 dL_law_1005 (by decide) (hz 2 (by decide)) (by decide) (by decide) ?_
  refine a_callV X r 2 (sX10_count e1) zf10 k0 ydX10_count w_ml_RL_124 w_instanceMethod_X10_count w_sel_X10_count w_ini_RX10 w_code_X10_count (by decide) rfl (st := []) rfl rfl (Nat.le_of_ble_eq_true rfl) dL_law_1006 ?_
  refine a_aload_n X 2 dL_law_1009 rfl ?_
  refine ax_arg X hb (v := 1) dL_law_1010 dL_law_1011 dL_law_1013 dL_law_1014 dL_law_1015 (by decide) (hz 1 (by decide)) ?_
  refine ax_bool X hb (v := 2) dL_law_1016 dL_law_1017 dL_law_1019 dL_law_1020 dL_law_1021 dL_law_1022 dL_law_1025 dL_law_1026 dL_law_1029 (by decide) (hz 2 (by decide)) (by decide) (by decide) ?_
  refine a_callV X r 2 (sX12_count e2) zf12 k76 ydX12_count w_ml_RL_128 w_instanceMethod_X12_count w_sel_X12_count w_ini_RX12 w_code_X12_count (by decide) rfl (st := [.long o]) rfl rfl (Nat.le_of_ble_eq_true rfl) dL_law_1030 ?_
  refine a_lcmp X dL_law_1033 ?_
  exact a_if_eq X 1565 dL_law_1034 (by decide) (fun _ => K h2 inv2) (fun hn => absurd (lcmp_rf o) hn)
set_option maxRecDepth 100000 in
theorem lc_26 {p : Program} {l : Launch} {e : Env} {s : State} {m : MethodId} {args : Array Value} {below : List Frame} {meth : Method} {c : Code} {Q : State → Prop} {D : va_G} {cA : Nat → ClassId} {base : Nat} {sA : Nat → Nat} {b L : Nat} {xs : Nat → Int32} {i : Int32} {h : Zh} {u : Nat} (X : zX p s m args meth c cL_law RL 7 D cA base sA) (r : zRm room_1 s D cA base zh0) (hb : base = s.heap.size ∧ b < s.heap.size ∧ va_X b L xs s s.heap) (inv : Inv h u) (hu : u ≤ 59000) (hz : ∀ k : Int32, k = 1 ∨ k = 2 ∨ k = 3 ∨ k = 4 ∨ k = 5 → zin (i + k) L) (K : ∀ h2, Inv h2 (u + 100) → zGA p l e room_1 s m args below meth c Q 7 D cA base zh0 1565 (lwLO base b i) [] h2) : zGA p l e room_1 s m args below meth c Q 7 D cA base zh0 1039 (lwLO base b i) [] h := by
  obtain ⟨o, h1, h2, e1, e2, inv2⟩ := op_most inv hu
  have k0 := inv.k0
  have k76 := kx_most e2
  refine a_aload_n X 3 dL_law_1039 rfl ?_
  refine a_callV X r 0 (sX10_most e1) zf10 k0 ydX10_most w_ml_RL_129 w_instanceMethod_X10_most w_sel_X10_most w_ini_RX10 w_code_X10_most (by decide) rfl (st := []) rfl rfl (Nat.le_of_ble_eq_true rfl) dL_law_1040 ?_
  refine a_aload_n X 2 dL_law_1043 rfl ?_
  refine a_callV X r 0 (sX12_most e2) zf12 k76 ydX12_most w_ml_RL_132 w_instanceMethod_X12_most w_sel_X12_most w_ini_RX12 w_code_X12_most (by decide) rfl (st := [.int o]) rfl rfl (Nat.le_of_ble_eq_true rfl) dL_law_1044 ?_
  exact a_icmp_eq X 1565 dL_law_1047 (by decide) (fun _ => K h2 inv2) (fun hn => absurd rfl hn)
set_option maxRecDepth 100000 in
theorem lc_27 {p : Program} {l : Launch} {e : Env} {s : State} {m : MethodId} {args : Array Value} {below : List Frame} {meth : Method} {c : Code} {Q : State → Prop} {D : va_G} {cA : Nat → ClassId} {base : Nat} {sA : Nat → Nat} {b L : Nat} {xs : Nat → Int32} {i : Int32} {h : Zh} {u : Nat} (X : zX p s m args meth c cL_law RL 7 D cA base sA) (r : zRm room_1 s D cA base zh0) (hb : base = s.heap.size ∧ b < s.heap.size ∧ va_X b L xs s s.heap) (inv : Inv h u) (hu : u ≤ 59000) (hz : ∀ k : Int32, k = 1 ∨ k = 2 ∨ k = 3 ∨ k = 4 ∨ k = 5 → zin (i + k) L) (K : ∀ h2, Inv h2 (u + 100) → zGA p l e room_1 s m args below meth c Q 7 D cA base zh0 1565 (lwLO base b i) [] h2) : zGA p l e room_1 s m args below meth c Q 7 D cA base zh0 1052 (lwLO base b i) [] h := by
  obtain ⟨o, h1, h2, e1, e2, inv2⟩ := op_judge inv hu (toR (xs (i + 1).toNatClampNeg))
  simp only [toI] at e1 e2
  have k0 := inv.k0
  have k76 := kx_judge e2
  refine a_aload_n X 3 dL_law_1052 rfl ?_
  refine ax_arg X hb (v := 1) dL_law_1053 dL_law_1054 dL_law_1056 dL_law_1057 dL_law_1058 (by decide) (hz 1 (by decide)) ?_
  refine a_callV X r 1 (sX10_judge e1) zf10 k0 ydX10_judge w_ml_RL_133 w_instanceMethod_X10_judge w_sel_X10_judge w_ini_RX10 w_code_X10_judge (by decide) rfl (st := []) rfl rfl (Nat.le_of_ble_eq_true rfl) dL_law_1059 ?_
  refine a_aload_n X 2 dL_law_1062 rfl ?_
  refine ax_arg X hb (v := 1) dL_law_1063 dL_law_1064 dL_law_1066 dL_law_1067 dL_law_1068 (by decide) (hz 1 (by decide)) ?_
  refine a_callV X r 1 (sX12_judge e2) zf12 k76 ydX12_judge w_ml_RL_136 w_instanceMethod_X12_judge w_sel_X12_judge w_ini_RX12 w_code_X12_judge (by decide) rfl (st := [.int o]) rfl rfl (Nat.le_of_ble_eq_true rfl) dL_law_1069 ?_
  exact a_icmp_eq X 1565 dL_law_1072 (by decide) (fun _ => K h2 inv2) (fun hn => absurd rfl hn)
set_option maxRecDepth 100000 in
theorem lc_28 {p : Program} {l : Launch} {e : Env} {s : State} {m : MethodId} {args : Array Value} {below : List Frame} {meth : Method} {c : Code} {Q : State → Prop} {D : va_G} {cA : Nat → ClassId} {base : Nat} {sA : Nat → Nat} {b L : Nat} {xs : Nat → Int32} {i : Int32} {h : Zh} {u : Nat} (X : zX p s m args meth c cL_law RL 7 D cA base sA) (r : zRm room_1 s D cA base zh0) (hb : base = s.heap.size ∧ b < s.heap.size ∧ va_X b L xs s s.heap) (inv : Inv h u) (hu : u ≤ 59000) (hz : ∀ k : Int32, k = 1 ∨ k = 2 ∨ k = 3 ∨ k = 4 ∨ k = 5 → zin (i + k) L) (K : ∀ h2, Inv h2 (u + 100) → zGA p l e room_1 s m args below meth c Q 7 D cA base zh0 1565 (lwLO base b i) [] h2) : zGA p l e room_1 s m args below meth c Q 7 D cA base zh0 1077 (lwLO base b i) [] h := by
  obtain ⟨o, h1, h2, e1, e2, inv2⟩ := op_evening (b := decide (¬ xs (i + 2).toNatClampNeg = 0)) inv hu (toR (xs (i + 1).toNatClampNeg))
  simp only [toI] at e1 e2
  have k0 := inv.k0
  have k76 := kx_evening e2
  refine a_aload_n X 3 dL_law_1077 rfl ?_
  refine ax_arg X hb (v := 1) dL_law_1078 dL_law_1079 dL_law_1081 dL_law_1082 dL_law_1083 (by decide) (hz 1 (by decide)) ?_
  refine ax_bool X hb (v := 2) dL_law_1084 dL_law_1085 dL_law_1087 dL_law_1088 dL_law_1089 dL_law_1090 dL_law_1093 dL_law_1094 dL_law_1097 (by decide) (hz 2 (by decide)) (by decide) (by decide) ?_
  refine a_callV X r 2 (sX10_evening e1) zf10 k0 ydX10_evening w_ml_RL_137 w_instanceMethod_X10_evening w_sel_X10_evening w_ini_RX10 w_code_X10_evening (by decide) rfl (st := []) rfl rfl (Nat.le_of_ble_eq_true rfl) dL_law_1098 ?_
  refine a_aload_n X 2 dL_law_1101 rfl ?_
  refine ax_arg X hb (v := 1) dL_law_1102 dL_law_1103 dL_law_1105 dL_law_1106 dL_law_1107 (by decide) (hz 1 (by decide)) ?_
  refine ax_bool X hb (v := 2) dL_law_1108 dL_law_1109 dL_law_1111 dL_law_1112 dL_law_1113 dL_law_1114 dL_law_1117 dL_law_1118 dL_law_1121 (by decide) (hz 2 (by decide)) (by decide) (by decide) ?_
  refine a_callV X r 2 (sX12_evening e2) zf12 k76 ydX12_evening w_ml_RL_140 w_instanceMethod_X12_evening w_sel_X12_evening w_ini_RX12 w_code_X12_evening (by decide) rfl (st := [.int o]) rfl rfl (Nat.le_of_ble_eq_true rfl) dL_law_1122 ?_
  exact a_icmp_eq X 1565 dL_law_1125 (by decide) (fun _ => K h2 inv2) (fun hn => absurd rfl hn)
set_option maxRecDepth 100000 in
theorem lc_29 {p : Program} {l : Launch} {e : Env} {s : State} {m : MethodId} {args : Array Value} {below : List Frame} {meth : Method} {c : Code} {Q : State → Prop} {D : va_G} {cA : Nat → ClassId} {base : Nat} {sA : Nat → Nat} {b L : Nat} {xs : Nat → Int32} {i : Int32} {h : Zh} {u : Nat} (X : zX p s m args meth c cL_law RL 7 D cA base sA) (r : zRm room_1 s D cA base zh0) (hb : base = s.heap.size ∧ b < s.heap.size ∧ va_X b L xs s s.heap) (inv : Inv h u) (hu : u ≤ 59000) (hz : ∀ k : Int32, k = 1 ∨ k = 2 ∨ k = 3 ∨ k = 4 ∨ k = 5 → zin (i + k) L) (K : ∀ h2, Inv h2 (u + 100) → zGA p l e room_1 s m args below meth c Q 7 D cA base zh0 1565 (lwLO base b i) [] h2) : zGA p l e room_1 s m args below meth c Q 7 D cA base zh0 1130 (lwLO base b i) [] h := by
  obtain ⟨o, h1, h2, e1, e2, inv2⟩ := op_agrees inv hu (toR (xs (i + 1).toNatClampNeg))
  simp only [toI] at e1 e2
  have k0 := inv.k0
  have k76 := kx_agrees e2
  refine a_aload_n X 3 dL_law_1130 rfl ?_
  refine ax_arg X hb (v := 1) dL_law_1131 dL_law_1132 dL_law_1134 dL_law_1135 dL_law_1136 (by decide) (hz 1 (by decide)) ?_
  refine a_callVA X r 1 (sX10_agrees e1) zf10 k0 ydX10_agrees w_ml_RL_141 w_instanceMethod_X10_agrees w_sel_X10_agrees w_ini_RX10 w_code_X10_agrees (by decide) rfl (st := []) rfl rfl (Nat.le_of_ble_eq_true rfl) dL_law_1137 ?_
  refine a_aload_n X 2 dL_law_1140 rfl ?_
  refine ax_arg X hb (v := 1) dL_law_1141 dL_law_1142 dL_law_1144 dL_law_1145 dL_law_1146 (by decide) (hz 1 (by decide)) ?_
  refine a_callV X r 1 (sX12_agrees e2) zf12 k76 ydX12_agrees w_ml_RL_144 w_instanceMethod_X12_agrees w_sel_X12_agrees w_ini_RX12 w_code_X12_agrees (by decide) rfl (st := [.int o]) rfl rfl (Nat.le_of_ble_eq_true rfl) dL_law_1147 ?_
  exact a_icmp_eq X 1565 dL_law_1150 (by decide) (fun _ => K h2 inv2) (fun hn => absurd rfl hn)
