theorem w_c_RJ6_265 : Cond.constant RJ6 265 (1431655765) ∈ zgd := zgd_in (List.mem_append_right _ (List.mem_of_getElem? (i := 680) (by decide +kernel))) (by decide +kernel)
theorem w_c_RJ6_266 : Cond.constant RJ6 266 (858993459) ∈ zgd := zgd_in (List.mem_append_right _ (List.mem_of_getElem? (i := 681) (by decide +kernel))) (by decide +kernel)
theorem w_c_RJ6_267 : Cond.constant RJ6 267 (252645135) ∈ zgd := zgd_in (List.mem_append_right _ (List.mem_of_getElem? (i := 682) (by decide +kernel))) (by decide +kernel)
theorem w_code_J6_bitCount_0f7a4 : Cond.code yJ6_bitCount_0f7a4 cJ6_bitCount_0f7a4 1 (some .int) ∈ zgd := zgd_in (List.mem_append_right _ (List.mem_of_getElem? (i := 679) (by decide +kernel))) (by decide +kernel)
theorem w_code_X0_choose : Cond.code yX0_choose cX0_choose 5 (some .long) ∈ zgd := zgd_in (List.mem_append_right _ (List.mem_of_getElem? (i := 608) (by decide +kernel))) (by decide +kernel)
theorem w_code_X0_falling : Cond.code yX0_falling cX0_falling 5 (some .long) ∈ zgd := zgd_in (List.mem_append_right _ (List.mem_of_getElem? (i := 605) (by decide +kernel))) (by decide +kernel)
theorem w_f_RX0_18 : Cond.fieldLink RX0 18 RX0 "cards" "I" ∈ zgd := zgd_in (List.mem_append_right _ (List.mem_of_getElem? (i := 52) (by decide +kernel))) (by decide +kernel)
theorem w_f_RX0_27 : Cond.fieldLink RX0 27 RX0 "handSize" "I" ∈ zgd := zgd_in (List.mem_append_right _ (List.mem_of_getElem? (i := 63) (by decide +kernel))) (by decide +kernel)
theorem w_f_RX0_36 : Cond.fieldLink RX0 36 RX0 "stranger" "Z" ∈ zgd := zgd_in (List.mem_append_right _ (List.mem_of_getElem? (i := 79) (by decide +kernel))) (by decide +kernel)
theorem w_f_RX0_40 : Cond.fieldLink RX0 40 RX0 "held" "Z" ∈ zgd := zgd_in (List.mem_append_right _ (List.mem_of_getElem? (i := 85) (by decide +kernel))) (by decide +kernel)
theorem w_ini_RJ6 : Cond.initialized RJ6 ∈ zgd := zgd_in (List.mem_append_right _ (List.mem_of_getElem? (i := 18) (by decide +kernel))) (by decide +kernel)
theorem w_ini_RX0 : Cond.initialized RX0 ∈ zgd := zgd_in (List.mem_append_right _ (List.mem_of_getElem? (i := 4) (by decide +kernel))) (by decide +kernel)
theorem w_ml_RX0_52 : Cond.methodLink RX0 52 yX0_falling ∈ zgd := zgd_in (List.mem_append_right _ (List.mem_of_getElem? (i := 603) (by decide +kernel))) (by decide +kernel)
theorem w_ml_RX0_60 : Cond.methodLink RX0 60 yX0_choose ∈ zgd := zgd_in (List.mem_append_right _ (List.mem_of_getElem? (i := 606) (by decide +kernel))) (by decide +kernel)
theorem w_ml_RX0_75 : Cond.methodLink RX0 75 yJ6_bitCount_0f7a4 ∈ zgd := zgd_in (List.mem_append_right _ (List.mem_of_getElem? (i := 677) (by decide +kernel))) (by decide +kernel)
theorem w_static_J6_bitCount_0f7a4 : Cond.static yJ6_bitCount_0f7a4 ∈ zgd := zgd_in (List.mem_append_right _ (List.mem_of_getElem? (i := 678) (by decide +kernel))) (by decide +kernel)
theorem w_static_X0_choose : Cond.static yX0_choose ∈ zgd := zgd_in (List.mem_append_right _ (List.mem_of_getElem? (i := 607) (by decide +kernel))) (by decide +kernel)
theorem w_static_X0_falling : Cond.static yX0_falling ∈ zgd := zgd_in (List.mem_append_right _ (List.mem_of_getElem? (i := 604) (by decide +kernel))) (by decide +kernel)
theorem ysX0_falling : yX0_falling.cls ≠ "java/lang/invoke/MethodHandle" ∧ yX0_falling.cls ≠ "java/lang/invoke/VarHandle" ∧ (parseMethodDescriptor yX0_falling.desc).map (fun d => d.parameters.length) = some 2 := by decide +kernel
theorem ysX0_choose : yX0_choose.cls ≠ "java/lang/invoke/MethodHandle" ∧ yX0_choose.cls ≠ "java/lang/invoke/VarHandle" ∧ (parseMethodDescriptor yX0_choose.desc).map (fun d => d.parameters.length) = some 2 := by decide +kernel
theorem ysX0_cardAt : yX0_cardAt.cls ≠ "java/lang/invoke/MethodHandle" ∧ yX0_cardAt.cls ≠ "java/lang/invoke/VarHandle" ∧ (parseMethodDescriptor yX0_cardAt.desc).map (fun d => d.parameters.length) = some 2 := by decide +kernel
theorem ydX0_anyOrder : yX0_anyOrder.cls = RX0 ∧ yX0_anyOrder.cls ≠ "java/lang/invoke/MethodHandle" ∧ yX0_anyOrder.cls ≠ "java/lang/invoke/VarHandle" ∧ (parseMethodDescriptor yX0_anyOrder.desc).map (fun d => d.parameters.length) = some 0 := by decide +kernel
theorem ydX0_handsOf : yX0_handsOf.cls = RX0 ∧ yX0_handsOf.cls ≠ "java/lang/invoke/MethodHandle" ∧ yX0_handsOf.cls ≠ "java/lang/invoke/VarHandle" ∧ (parseMethodDescriptor yX0_handsOf.desc).map (fun d => d.parameters.length) = some 1 := by decide +kernel
theorem ysJ6_bitCount_0f7a4 : yJ6_bitCount_0f7a4.cls ≠ "java/lang/invoke/MethodHandle" ∧ yJ6_bitCount_0f7a4.cls ≠ "java/lang/invoke/VarHandle" ∧ (parseMethodDescriptor yJ6_bitCount_0f7a4.desc).map (fun d => d.parameters.length) = some 1 := by decide +kernel
theorem ydX0_rowNumber : yX0_rowNumber.cls = RX0 ∧ yX0_rowNumber.cls ≠ "java/lang/invoke/MethodHandle" ∧ yX0_rowNumber.cls ≠ "java/lang/invoke/VarHandle" ∧ (parseMethodDescriptor yX0_rowNumber.desc).map (fun d => d.parameters.length) = some 2 := by decide +kernel
theorem ydX0_unusedCard : yX0_unusedCard.cls = RX0 ∧ yX0_unusedCard.cls ≠ "java/lang/invoke/MethodHandle" ∧ yX0_unusedCard.cls ≠ "java/lang/invoke/VarHandle" ∧ (parseMethodDescriptor yX0_unusedCard.desc).map (fun d => d.parameters.length) = some 2 := by decide +kernel
theorem ysX0_sort : yX0_sort.cls ≠ "java/lang/invoke/MethodHandle" ∧ yX0_sort.cls ≠ "java/lang/invoke/VarHandle" ∧ (parseMethodDescriptor yX0_sort.desc).map (fun d => d.parameters.length) = some 2 := by decide +kernel
