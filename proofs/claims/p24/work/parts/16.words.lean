theorem tb1 {i : Nat} {w : Cond} (e : tables_1_1[i]? = some w) (hg : goodWord w = true) : w ∈ wsU := wsU_in (List.mem_append_right _ (have h : w ∈ tables_1_1 := List.mem_of_getElem? e; List.mem_append_left _ h)) hg
theorem ts1 {i n : Nat} {y : MethodName} (e : lw_privs_1[i]? = some (y, n)) (hg : goodWord (Cond.selects y.cls y y) = true) : Cond.selects y.cls y y ∈ wsU := wsU_in (List.mem_append_left _ (List.mem_map.mpr ⟨(y, n), (have h : (y, n) ∈ lw_privs_1 := List.mem_of_getElem? e; List.mem_append_left _ h), rfl⟩)) hg
theorem tb2 {i : Nat} {w : Cond} (e : tables_1_2[i]? = some w) (hg : goodWord w = true) : w ∈ wsU := wsU_in (List.mem_append_right _ (have h : w ∈ tables_1_2 := List.mem_of_getElem? e; List.mem_append_right _ (List.mem_append_left _ h))) hg
theorem ts2 {i n : Nat} {y : MethodName} (e : lw_privs_2[i]? = some (y, n)) (hg : goodWord (Cond.selects y.cls y y) = true) : Cond.selects y.cls y y ∈ wsU := wsU_in (List.mem_append_left _ (List.mem_map.mpr ⟨(y, n), (have h : (y, n) ∈ lw_privs_2 := List.mem_of_getElem? e; List.mem_append_right _ h), rfl⟩)) hg
theorem tb3 {i : Nat} {w : Cond} (e : tables_1_3[i]? = some w) (hg : goodWord w = true) : w ∈ wsU := wsU_in (List.mem_append_right _ (have h : w ∈ tables_1_3 := List.mem_of_getElem? e; List.mem_append_right _ (List.mem_append_right _ h))) hg
theorem wi_RL : Cond.initialized RL ∈ wsU := tb1 (i := 0) rfl rfl
theorem wi_RX11 : Cond.initialized RX11 ∈ wsU := tb1 (i := 1) rfl rfl
theorem wi_RX1 : Cond.initialized RX1 ∈ wsU := tb1 (i := 2) rfl rfl
theorem wi_RX8 : Cond.initialized RX8 ∈ wsU := tb1 (i := 3) rfl rfl
theorem wi_RX3 : Cond.initialized RX3 ∈ wsU := tb1 (i := 4) rfl rfl
theorem wi_RX10 : Cond.initialized RX10 ∈ wsU := tb1 (i := 5) rfl rfl
theorem wi_Throwable : Cond.initialized "java/lang/Throwable" ∈ wsU := tb1 (i := 6) rfl rfl
theorem wi_Exception : Cond.initialized "java/lang/Exception" ∈ wsU := tb1 (i := 7) rfl rfl
theorem wi_RuntimeException : Cond.initialized "java/lang/RuntimeException" ∈ wsU := tb1 (i := 8) rfl rfl
theorem wi_IllegalArgumentException : Cond.initialized "java/lang/IllegalArgumentException" ∈ wsU := tb1 (i := 9) rfl rfl
theorem wi_RX5 : Cond.initialized RX5 ∈ wsU := tb1 (i := 10) rfl rfl
theorem wi_IllegalStateException : Cond.initialized "java/lang/IllegalStateException" ∈ wsU := tb1 (i := 11) rfl rfl
theorem wi_IndexOutOfBoundsException : Cond.initialized "java/lang/IndexOutOfBoundsException" ∈ wsU := tb1 (i := 12) rfl rfl
theorem wi_RX7 : Cond.initialized RX7 ∈ wsU := tb1 (i := 13) rfl rfl
theorem wi_RJ9 : Cond.initialized RJ9 ∈ wsU := tb1 (i := 14) rfl rfl
theorem wi_RX0 : Cond.initialized RX0 ∈ wsU := tb1 (i := 15) rfl rfl
theorem wc_X0_mostBy : Cond.code yX0_mostBy cX0_mostBy 2 (some .int) ∈ wsU := tb2 (i := 104) rfl rfl
theorem wz_X0_mostBy : Cond.static yX0_mostBy ∈ wsU := tb2 (i := 103) rfl rfl
theorem pd_X0_mostBy : yX0_mostBy.cls ≠ "java/lang/invoke/MethodHandle" ∧ yX0_mostBy.cls ≠ "java/lang/invoke/VarHandle" ∧ (parseMethodDescriptor yX0_mostBy.desc).map (fun d => d.parameters.length) = some 2 := by decide +kernel
theorem wc_X0_move : Cond.code yX0_move cX0_move 7 (some .int) ∈ wsU := tb2 (i := 107) rfl rfl
theorem wz_X0_move : Cond.static yX0_move ∈ wsU := tb2 (i := 106) rfl rfl
theorem pd_X0_move : yX0_move.cls ≠ "java/lang/invoke/MethodHandle" ∧ yX0_move.cls ≠ "java/lang/invoke/VarHandle" ∧ (parseMethodDescriptor yX0_move.desc).map (fun d => d.parameters.length) = some 4 := by decide +kernel
theorem wc_X0_aheadOf : Cond.code yX0_aheadOf cX0_aheadOf 4 (some .int) ∈ wsU := tb2 (i := 121) rfl rfl
theorem wz_X0_aheadOf : Cond.static yX0_aheadOf ∈ wsU := tb2 (i := 120) rfl rfl
theorem pd_X0_aheadOf : yX0_aheadOf.cls ≠ "java/lang/invoke/MethodHandle" ∧ yX0_aheadOf.cls ≠ "java/lang/invoke/VarHandle" ∧ (parseMethodDescriptor yX0_aheadOf.desc).map (fun d => d.parameters.length) = some 4 := by decide +kernel
theorem wc_X0_canComplement : Cond.code yX0_canComplement cX0_canComplement 4 (some .boolean) ∈ wsU := tb2 (i := 145) rfl rfl
theorem wz_X0_canComplement : Cond.static yX0_canComplement ∈ wsU := tb2 (i := 144) rfl rfl
theorem pd_X0_canComplement : yX0_canComplement.cls ≠ "java/lang/invoke/MethodHandle" ∧ yX0_canComplement.cls ≠ "java/lang/invoke/VarHandle" ∧ (parseMethodDescriptor yX0_canComplement.desc).map (fun d => d.parameters.length) = some 2 := by decide +kernel
theorem wc_X0_complement : Cond.code yX0_complement cX0_complement 5 (some .int) ∈ wsU := tb2 (i := 148) rfl rfl
theorem wz_X0_complement : Cond.static yX0_complement ∈ wsU := tb2 (i := 147) rfl rfl
theorem pd_X0_complement : yX0_complement.cls ≠ "java/lang/invoke/MethodHandle" ∧ yX0_complement.cls ≠ "java/lang/invoke/VarHandle" ∧ (parseMethodDescriptor yX0_complement.desc).map (fun d => d.parameters.length) = some 2 := by decide +kernel
theorem wc_X1_init : Cond.code yX1_init cX1_init 1 none ∈ wsU := tb1 (i := 29) rfl rfl
theorem wj_X1_init : Cond.instanceMethod yX1_init ∈ wsU := tb1 (i := 28) rfl rfl
theorem pd_X1_init : yX1_init.cls ≠ "java/lang/invoke/MethodHandle" ∧ yX1_init.cls ≠ "java/lang/invoke/VarHandle" ∧ (parseMethodDescriptor yX1_init.desc).map (fun d => d.parameters.length) = some 0 := by decide +kernel
theorem wc_X1_begin : Cond.code yX1_begin cX1_begin 3 none ∈ wsU := tb2 (i := 61) rfl rfl
theorem wj_X1_begin : Cond.instanceMethod yX1_begin ∈ wsU := tb2 (i := 59) rfl rfl
theorem wx_X1_begin : Cond.selects RX1 yX1_begin yX1_begin ∈ wsU := tb2 (i := 60) rfl rfl
theorem pd_X1_begin : yX1_begin.cls ≠ "java/lang/invoke/MethodHandle" ∧ yX1_begin.cls ≠ "java/lang/invoke/VarHandle" ∧ (parseMethodDescriptor yX1_begin.desc).map (fun d => d.parameters.length) = some 1 := by decide +kernel
theorem wc_X1_copyFrom : Cond.code yX1_copyFrom cX1_copyFrom 3 none ∈ wsU := tb2 (i := 111) rfl rfl
theorem wj_X1_copyFrom : Cond.instanceMethod yX1_copyFrom ∈ wsU := tb2 (i := 109) rfl rfl
theorem wx_X1_copyFrom : Cond.selects RX1 yX1_copyFrom yX1_copyFrom ∈ wsU := tb2 (i := 110) rfl rfl
theorem pd_X1_copyFrom : yX1_copyFrom.cls ≠ "java/lang/invoke/MethodHandle" ∧ yX1_copyFrom.cls ≠ "java/lang/invoke/VarHandle" ∧ (parseMethodDescriptor yX1_copyFrom.desc).map (fun d => d.parameters.length) = some 1 := by decide +kernel
theorem wc_X1_side : Cond.code yX1_side cX1_side 1 (some .int) ∈ wsU := tb1 (i := 223) rfl rfl
theorem wj_X1_side : Cond.instanceMethod yX1_side ∈ wsU := tb1 (i := 221) rfl rfl
theorem wx_X1_side : Cond.selects RX1 yX1_side yX1_side ∈ wsU := tb1 (i := 222) rfl rfl
theorem pd_X1_side : yX1_side.cls ≠ "java/lang/invoke/MethodHandle" ∧ yX1_side.cls ≠ "java/lang/invoke/VarHandle" ∧ (parseMethodDescriptor yX1_side.desc).map (fun d => d.parameters.length) = some 0 := by decide +kernel
theorem wc_X1_size : Cond.code yX1_size cX1_size 1 (some .int) ∈ wsU := tb2 (i := 72) rfl rfl
theorem wj_X1_size : Cond.instanceMethod yX1_size ∈ wsU := tb2 (i := 70) rfl rfl
theorem wx_X1_size : Cond.selects RX1 yX1_size yX1_size ∈ wsU := tb2 (i := 71) rfl rfl
theorem pd_X1_size : yX1_size.cls ≠ "java/lang/invoke/MethodHandle" ∧ yX1_size.cls ≠ "java/lang/invoke/VarHandle" ∧ (parseMethodDescriptor yX1_size.desc).map (fun d => d.parameters.length) = some 0 := by decide +kernel
theorem wc_X1_placeOf : Cond.code yX1_placeOf cX1_placeOf 3 (some .int) ∈ wsU := tb2 (i := 7) rfl rfl
theorem wj_X1_placeOf : Cond.instanceMethod yX1_placeOf ∈ wsU := tb2 (i := 5) rfl rfl
theorem wx_X1_placeOf : Cond.selects RX1 yX1_placeOf yX1_placeOf ∈ wsU := tb2 (i := 6) rfl rfl
theorem pd_X1_placeOf : yX1_placeOf.cls ≠ "java/lang/invoke/MethodHandle" ∧ yX1_placeOf.cls ≠ "java/lang/invoke/VarHandle" ∧ (parseMethodDescriptor yX1_placeOf.desc).map (fun d => d.parameters.length) = some 2 := by decide +kernel
theorem wc_X1_read : Cond.code yX1_read cX1_read 2 (some .int) ∈ wsU := tb2 (i := 22) rfl rfl
theorem wj_X1_read : Cond.instanceMethod yX1_read ∈ wsU := tb2 (i := 20) rfl rfl
theorem wx_X1_read : Cond.selects RX1 yX1_read yX1_read ∈ wsU := tb2 (i := 21) rfl rfl
theorem pd_X1_read : yX1_read.cls ≠ "java/lang/invoke/MethodHandle" ∧ yX1_read.cls ≠ "java/lang/invoke/VarHandle" ∧ (parseMethodDescriptor yX1_read.desc).map (fun d => d.parameters.length) = some 1 := by decide +kernel
theorem wc_X1_write : Cond.code yX1_write cX1_write 4 (some .int) ∈ wsU := tb2 (i := 14) rfl rfl
theorem wj_X1_write : Cond.instanceMethod yX1_write ∈ wsU := tb2 (i := 12) rfl rfl
theorem wx_X1_write : Cond.selects RX1 yX1_write yX1_write ∈ wsU := tb2 (i := 13) rfl rfl
theorem pd_X1_write : yX1_write.cls ≠ "java/lang/invoke/MethodHandle" ∧ yX1_write.cls ≠ "java/lang/invoke/VarHandle" ∧ (parseMethodDescriptor yX1_write.desc).map (fun d => d.parameters.length) = some 2 := by decide +kernel
theorem wc_X1_countOf : Cond.code yX1_countOf cX1_countOf 4 (some .int) ∈ wsU := tb2 (i := 159) rfl rfl
theorem wj_X1_countOf : Cond.instanceMethod yX1_countOf ∈ wsU := tb2 (i := 157) rfl rfl
theorem wx_X1_countOf : Cond.selects RX1 yX1_countOf yX1_countOf ∈ wsU := tb2 (i := 158) rfl rfl
theorem pd_X1_countOf : yX1_countOf.cls ≠ "java/lang/invoke/MethodHandle" ∧ yX1_countOf.cls ≠ "java/lang/invoke/VarHandle" ∧ (parseMethodDescriptor yX1_countOf.desc).map (fun d => d.parameters.length) = some 1 := by decide +kernel
theorem wc_X3_init : Cond.code yX3_init cX3_init 1 none ∈ wsU := tb1 (i := 93) rfl rfl
theorem wj_X3_init : Cond.instanceMethod yX3_init ∈ wsU := tb1 (i := 92) rfl rfl
theorem pd_X3_init : yX3_init.cls ≠ "java/lang/invoke/MethodHandle" ∧ yX3_init.cls ≠ "java/lang/invoke/VarHandle" ∧ (parseMethodDescriptor yX3_init.desc).map (fun d => d.parameters.length) = some 0 := by decide +kernel
theorem wc_X5_holdsFor : Cond.code yX5_holdsFor cX5_holdsFor 2 (some .boolean) ∈ wsU := tb2 (i := 29) rfl rfl
theorem wz_X5_holdsFor : Cond.static yX5_holdsFor ∈ wsU := tb2 (i := 28) rfl rfl
theorem pd_X5_holdsFor : yX5_holdsFor.cls ≠ "java/lang/invoke/MethodHandle" ∧ yX5_holdsFor.cls ≠ "java/lang/invoke/VarHandle" ∧ (parseMethodDescriptor yX5_holdsFor.desc).map (fun d => d.parameters.length) = some 2 := by decide +kernel
theorem wc_X5_lay : Cond.code yX5_lay cX5_lay 3 none ∈ wsU := tb2 (i := 64) rfl rfl
theorem wz_X5_lay : Cond.static yX5_lay ∈ wsU := tb2 (i := 63) rfl rfl
theorem pd_X5_lay : yX5_lay.cls ≠ "java/lang/invoke/MethodHandle" ∧ yX5_lay.cls ≠ "java/lang/invoke/VarHandle" ∧ (parseMethodDescriptor yX5_lay.desc).map (fun d => d.parameters.length) = some 3 := by decide +kernel
theorem wc_X5_laySiege : Cond.code yX5_laySiege cX5_laySiege 7 none ∈ wsU := tb2 (i := 67) rfl rfl
theorem wz_X5_laySiege : Cond.static yX5_laySiege ∈ wsU := tb2 (i := 66) rfl rfl
theorem pd_X5_laySiege : yX5_laySiege.cls ≠ "java/lang/invoke/MethodHandle" ∧ yX5_laySiege.cls ≠ "java/lang/invoke/VarHandle" ∧ (parseMethodDescriptor yX5_laySiege.desc).map (fun d => d.parameters.length) = some 1 := by decide +kernel
theorem wc_X5_layCross : Cond.code yX5_layCross cX5_layCross 6 none ∈ wsU := tb2 (i := 84) rfl rfl
theorem wz_X5_layCross : Cond.static yX5_layCross ∈ wsU := tb2 (i := 83) rfl rfl
theorem pd_X5_layCross : yX5_layCross.cls ≠ "java/lang/invoke/MethodHandle" ∧ yX5_layCross.cls ≠ "java/lang/invoke/VarHandle" ∧ (parseMethodDescriptor yX5_layCross.desc).map (fun d => d.parameters.length) = some 1 := by decide +kernel
theorem wc_X5_layDigits : Cond.code yX5_layDigits cX5_layDigits 6 none ∈ wsU := tb2 (i := 93) rfl rfl
theorem wz_X5_layDigits : Cond.static yX5_layDigits ∈ wsU := tb2 (i := 92) rfl rfl
theorem pd_X5_layDigits : yX5_layDigits.cls ≠ "java/lang/invoke/MethodHandle" ∧ yX5_layDigits.cls ≠ "java/lang/invoke/VarHandle" ∧ (parseMethodDescriptor yX5_layDigits.desc).map (fun d => d.parameters.length) = some 1 := by decide +kernel
theorem wc_X5_layLux : Cond.code yX5_layLux cX5_layLux 8 none ∈ wsU := tb2 (i := 96) rfl rfl
theorem wz_X5_layLux : Cond.static yX5_layLux ∈ wsU := tb2 (i := 95) rfl rfl
theorem pd_X5_layLux : yX5_layLux.cls ≠ "java/lang/invoke/MethodHandle" ∧ yX5_layLux.cls ≠ "java/lang/invoke/VarHandle" ∧ (parseMethodDescriptor yX5_layLux.desc).map (fun d => d.parameters.length) = some 2 := by decide +kernel
theorem wc_X7_of : Cond.code yX7_of cX7_of 3 (some .int) ∈ wsU := tb2 (i := 10) rfl rfl
theorem wz_X7_of : Cond.static yX7_of ∈ wsU := tb2 (i := 9) rfl rfl
theorem pd_X7_of : yX7_of.cls ≠ "java/lang/invoke/MethodHandle" ∧ yX7_of.cls ≠ "java/lang/invoke/VarHandle" ∧ (parseMethodDescriptor yX7_of.desc).map (fun d => d.parameters.length) = some 3 := by decide +kernel
theorem wc_X7_rowOf : Cond.code yX7_rowOf cX7_rowOf 2 (some .int) ∈ wsU := tb2 (i := 87) rfl rfl
theorem wz_X7_rowOf : Cond.static yX7_rowOf ∈ wsU := tb2 (i := 86) rfl rfl
theorem pd_X7_rowOf : yX7_rowOf.cls ≠ "java/lang/invoke/MethodHandle" ∧ yX7_rowOf.cls ≠ "java/lang/invoke/VarHandle" ∧ (parseMethodDescriptor yX7_rowOf.desc).map (fun d => d.parameters.length) = some 2 := by decide +kernel
theorem wc_X7_columnOf : Cond.code yX7_columnOf cX7_columnOf 2 (some .int) ∈ wsU := tb2 (i := 90) rfl rfl
theorem wz_X7_columnOf : Cond.static yX7_columnOf ∈ wsU := tb2 (i := 89) rfl rfl
theorem pd_X7_columnOf : yX7_columnOf.cls ≠ "java/lang/invoke/MethodHandle" ∧ yX7_columnOf.cls ≠ "java/lang/invoke/VarHandle" ∧ (parseMethodDescriptor yX7_columnOf.desc).map (fun d => d.parameters.length) = some 2 := by decide +kernel
theorem wc_X7_wrap : Cond.code yX7_wrap cX7_wrap 2 (some .int) ∈ wsU := tb2 (i := 77) rfl rfl
theorem wz_X7_wrap : Cond.static yX7_wrap ∈ wsU := tb2 (i := 76) rfl rfl
theorem pd_X7_wrap : yX7_wrap.cls ≠ "java/lang/invoke/MethodHandle" ∧ yX7_wrap.cls ≠ "java/lang/invoke/VarHandle" ∧ (parseMethodDescriptor yX7_wrap.desc).map (fun d => d.parameters.length) = some 2 := by decide +kernel
theorem wc_X7_aheadOfTurn : Cond.code yX7_aheadOfTurn cX7_aheadOfTurn 6 (some .int) ∈ wsU := tb2 (i := 124) rfl rfl
theorem wz_X7_aheadOfTurn : Cond.static yX7_aheadOfTurn ∈ wsU := tb2 (i := 123) rfl rfl
theorem pd_X7_aheadOfTurn : yX7_aheadOfTurn.cls ≠ "java/lang/invoke/MethodHandle" ∧ yX7_aheadOfTurn.cls ≠ "java/lang/invoke/VarHandle" ∧ (parseMethodDescriptor yX7_aheadOfTurn.desc).map (fun d => d.parameters.length) = some 3 := by decide +kernel
theorem wc_X7_aheadOfFlip : Cond.code yX7_aheadOfFlip cX7_aheadOfFlip 3 (some .int) ∈ wsU := tb2 (i := 130) rfl rfl
theorem wz_X7_aheadOfFlip : Cond.static yX7_aheadOfFlip ∈ wsU := tb2 (i := 129) rfl rfl
theorem pd_X7_aheadOfFlip : yX7_aheadOfFlip.cls ≠ "java/lang/invoke/MethodHandle" ∧ yX7_aheadOfFlip.cls ≠ "java/lang/invoke/VarHandle" ∧ (parseMethodDescriptor yX7_aheadOfFlip.desc).map (fun d => d.parameters.length) = some 3 := by decide +kernel
theorem wc_X7_aheadOfShift : Cond.code yX7_aheadOfShift cX7_aheadOfShift 4 (some .int) ∈ wsU := tb2 (i := 133) rfl rfl
theorem wz_X7_aheadOfShift : Cond.static yX7_aheadOfShift ∈ wsU := tb2 (i := 132) rfl rfl
theorem pd_X7_aheadOfShift : yX7_aheadOfShift.cls ≠ "java/lang/invoke/MethodHandle" ∧ yX7_aheadOfShift.cls ≠ "java/lang/invoke/VarHandle" ∧ (parseMethodDescriptor yX7_aheadOfShift.desc).map (fun d => d.parameters.length) = some 4 := by decide +kernel
theorem wc_X7_aheadOfPairs : Cond.code yX7_aheadOfPairs cX7_aheadOfPairs 3 (some .int) ∈ wsU := tb2 (i := 137) rfl rfl
theorem wz_X7_aheadOfPairs : Cond.static yX7_aheadOfPairs ∈ wsU := tb2 (i := 136) rfl rfl
theorem pd_X7_aheadOfPairs : yX7_aheadOfPairs.cls ≠ "java/lang/invoke/MethodHandle" ∧ yX7_aheadOfPairs.cls ≠ "java/lang/invoke/VarHandle" ∧ (parseMethodDescriptor yX7_aheadOfPairs.desc).map (fun d => d.parameters.length) = some 3 := by decide +kernel
theorem wc_X7_swapped : Cond.code yX7_swapped cX7_swapped 4 (some .int) ∈ wsU := tb2 (i := 140) rfl rfl
theorem wz_X7_swapped : Cond.static yX7_swapped ∈ wsU := tb2 (i := 139) rfl rfl
theorem pd_X7_swapped : yX7_swapped.cls ≠ "java/lang/invoke/MethodHandle" ∧ yX7_swapped.cls ≠ "java/lang/invoke/VarHandle" ∧ (parseMethodDescriptor yX7_swapped.desc).map (fun d => d.parameters.length) = some 3 := by decide +kernel
theorem wc_X8_init : Cond.code yX8_init cX8_init 1 none ∈ wsU := tb1 (i := 43) rfl rfl
theorem wj_X8_init : Cond.instanceMethod yX8_init ∈ wsU := tb1 (i := 42) rfl rfl
theorem pd_X8_init : yX8_init.cls ≠ "java/lang/invoke/MethodHandle" ∧ yX8_init.cls ≠ "java/lang/invoke/VarHandle" ∧ (parseMethodDescriptor yX8_init.desc).map (fun d => d.parameters.length) = some 0 := by decide +kernel
theorem wc_X8_load : Cond.code yX8_load cX8_load 4 none ∈ wsU := tb2 (i := 163) rfl rfl
theorem wj_X8_load : Cond.instanceMethod yX8_load ∈ wsU := tb2 (i := 161) rfl rfl
theorem wx_X8_load : Cond.selects RX8 yX8_load yX8_load ∈ wsU := tb2 (i := 162) rfl rfl
theorem pd_X8_load : yX8_load.cls ≠ "java/lang/invoke/MethodHandle" ∧ yX8_load.cls ≠ "java/lang/invoke/VarHandle" ∧ (parseMethodDescriptor yX8_load.desc).map (fun d => d.parameters.length) = some 1 := by decide +kernel
theorem wc_X8_begin : Cond.code yX8_begin cX8_begin 3 none ∈ wsU := tb2 (i := 168) rfl rfl
theorem wj_X8_begin : Cond.instanceMethod yX8_begin ∈ wsU := tb2 (i := 167) rfl rfl
theorem wx_X8_begin : Cond.selects RX8 yX8_begin yX8_begin ∈ wsU := ts1 (i := 4) (n := 14) (y := yX8_begin) rfl rfl
theorem pd_X8_begin : yX8_begin.cls ≠ "java/lang/invoke/MethodHandle" ∧ yX8_begin.cls ≠ "java/lang/invoke/VarHandle" ∧ (parseMethodDescriptor yX8_begin.desc).map (fun d => d.parameters.length) = some 1 := by decide +kernel
theorem wc_X8_lineThrough : Cond.code yX8_lineThrough cX8_lineThrough 5 (some .int) ∈ wsU := tb2 (i := 172) rfl rfl
theorem wj_X8_lineThrough : Cond.instanceMethod yX8_lineThrough ∈ wsU := tb2 (i := 171) rfl rfl
theorem wx_X8_lineThrough : Cond.selects RX8 yX8_lineThrough yX8_lineThrough ∈ wsU := ts1 (i := 5) (n := 14) (y := yX8_lineThrough) rfl rfl
theorem pd_X8_lineThrough : yX8_lineThrough.cls ≠ "java/lang/invoke/MethodHandle" ∧ yX8_lineThrough.cls ≠ "java/lang/invoke/VarHandle" ∧ (parseMethodDescriptor yX8_lineThrough.desc).map (fun d => d.parameters.length) = some 2 := by decide +kernel
theorem wc_X8_addEmpty : Cond.code yX8_addEmpty cX8_addEmpty 2 none ∈ wsU := tb2 (i := 180) rfl rfl
theorem wj_X8_addEmpty : Cond.instanceMethod yX8_addEmpty ∈ wsU := tb2 (i := 179) rfl rfl
theorem wx_X8_addEmpty : Cond.selects RX8 yX8_addEmpty yX8_addEmpty ∈ wsU := ts1 (i := 6) (n := 14) (y := yX8_addEmpty) rfl rfl
theorem pd_X8_addEmpty : yX8_addEmpty.cls ≠ "java/lang/invoke/MethodHandle" ∧ yX8_addEmpty.cls ≠ "java/lang/invoke/VarHandle" ∧ (parseMethodDescriptor yX8_addEmpty.desc).map (fun d => d.parameters.length) = some 1 := by decide +kernel
theorem wc_X8_countAll : Cond.code yX8_countAll cX8_countAll 1 (some .int) ∈ wsU := tb2 (i := 204) rfl rfl
theorem wj_X8_countAll : Cond.instanceMethod yX8_countAll ∈ wsU := tb2 (i := 202) rfl rfl
theorem wx_X8_countAll : Cond.selects RX8 yX8_countAll yX8_countAll ∈ wsU := tb2 (i := 203) rfl rfl
theorem pd_X8_countAll : yX8_countAll.cls ≠ "java/lang/invoke/MethodHandle" ∧ yX8_countAll.cls ≠ "java/lang/invoke/VarHandle" ∧ (parseMethodDescriptor yX8_countAll.desc).map (fun d => d.parameters.length) = some 0 := by decide +kernel
theorem wc_X8_numberIn : Cond.code yX8_numberIn cX8_numberIn 3 (some .int) ∈ wsU := tb3 (i := 6) rfl rfl
theorem wj_X8_numberIn : Cond.instanceMethod yX8_numberIn ∈ wsU := tb3 (i := 4) rfl rfl
theorem wx_X8_numberIn : Cond.selects RX8 yX8_numberIn yX8_numberIn ∈ wsU := tb3 (i := 5) rfl rfl
theorem pd_X8_numberIn : yX8_numberIn.cls ≠ "java/lang/invoke/MethodHandle" ∧ yX8_numberIn.cls ≠ "java/lang/invoke/VarHandle" ∧ (parseMethodDescriptor yX8_numberIn.desc).map (fun d => d.parameters.length) = some 2 := by decide +kernel
theorem wc_X8_seek : Cond.code yX8_seek cX8_seek 3 none ∈ wsU := tb2 (i := 208) rfl rfl
theorem wj_X8_seek : Cond.instanceMethod yX8_seek ∈ wsU := tb2 (i := 207) rfl rfl
theorem wx_X8_seek : Cond.selects RX8 yX8_seek yX8_seek ∈ wsU := ts1 (i := 12) (n := 14) (y := yX8_seek) rfl rfl
theorem pd_X8_seek : yX8_seek.cls ≠ "java/lang/invoke/MethodHandle" ∧ yX8_seek.cls ≠ "java/lang/invoke/VarHandle" ∧ (parseMethodDescriptor yX8_seek.desc).map (fun d => d.parameters.length) = some 2 := by decide +kernel
theorem wc_X8_fillFrom : Cond.code yX8_fillFrom cX8_fillFrom 5 none ∈ wsU := tb2 (i := 215) rfl rfl
theorem wz_X8_fillFrom : Cond.static yX8_fillFrom ∈ wsU := tb2 (i := 214) rfl rfl
theorem pd_X8_fillFrom : yX8_fillFrom.cls ≠ "java/lang/invoke/MethodHandle" ∧ yX8_fillFrom.cls ≠ "java/lang/invoke/VarHandle" ∧ (parseMethodDescriptor yX8_fillFrom.desc).map (fun d => d.parameters.length) = some 2 := by decide +kernel
theorem wc_X8_meet : Cond.code yX8_meet cX8_meet 1 none ∈ wsU := tb2 (i := 219) rfl rfl
theorem wj_X8_meet : Cond.instanceMethod yX8_meet ∈ wsU := tb2 (i := 218) rfl rfl
theorem wx_X8_meet : Cond.selects RX8 yX8_meet yX8_meet ∈ wsU := ts1 (i := 14) (n := 14) (y := yX8_meet) rfl rfl
theorem pd_X8_meet : yX8_meet.cls ≠ "java/lang/invoke/MethodHandle" ∧ yX8_meet.cls ≠ "java/lang/invoke/VarHandle" ∧ (parseMethodDescriptor yX8_meet.desc).map (fun d => d.parameters.length) = some 0 := by decide +kernel
theorem wc_X8_fits : Cond.code yX8_fits cX8_fits 2 (some .boolean) ∈ wsU := tb2 (i := 212) rfl rfl
theorem wj_X8_fits : Cond.instanceMethod yX8_fits ∈ wsU := tb2 (i := 211) rfl rfl
theorem wx_X8_fits : Cond.selects RX8 yX8_fits yX8_fits ∈ wsU := ts1 (i := 13) (n := 14) (y := yX8_fits) rfl rfl
theorem pd_X8_fits : yX8_fits.cls ≠ "java/lang/invoke/MethodHandle" ∧ yX8_fits.cls ≠ "java/lang/invoke/VarHandle" ∧ (parseMethodDescriptor yX8_fits.desc).map (fun d => d.parameters.length) = some 0 := by decide +kernel
theorem wc_X8_lowestAt : Cond.code yX8_lowestAt cX8_lowestAt 5 (some .int) ∈ wsU := tb2 (i := 230) rfl rfl
theorem wj_X8_lowestAt : Cond.instanceMethod yX8_lowestAt ∈ wsU := tb2 (i := 229) rfl rfl
theorem wx_X8_lowestAt : Cond.selects RX8 yX8_lowestAt yX8_lowestAt ∈ wsU := ts2 (i := 0) (n := 14) (y := yX8_lowestAt) rfl rfl
theorem pd_X8_lowestAt : yX8_lowestAt.cls ≠ "java/lang/invoke/MethodHandle" ∧ yX8_lowestAt.cls ≠ "java/lang/invoke/VarHandle" ∧ (parseMethodDescriptor yX8_lowestAt.desc).map (fun d => d.parameters.length) = some 1 := by decide +kernel
theorem wc_X8_highestAt : Cond.code yX8_highestAt cX8_highestAt 6 (some .int) ∈ wsU := tb2 (i := 223) rfl rfl
theorem wj_X8_highestAt : Cond.instanceMethod yX8_highestAt ∈ wsU := tb2 (i := 222) rfl rfl
theorem wx_X8_highestAt : Cond.selects RX8 yX8_highestAt yX8_highestAt ∈ wsU := ts1 (i := 15) (n := 14) (y := yX8_highestAt) rfl rfl
theorem pd_X8_highestAt : yX8_highestAt.cls ≠ "java/lang/invoke/MethodHandle" ∧ yX8_highestAt.cls ≠ "java/lang/invoke/VarHandle" ∧ (parseMethodDescriptor yX8_highestAt.desc).map (fun d => d.parameters.length) = some 1 := by decide +kernel
theorem wc_X8_lay : Cond.code yX8_lay cX8_lay 3 none ∈ wsU := tb2 (i := 188) rfl rfl
theorem wj_X8_lay : Cond.instanceMethod yX8_lay ∈ wsU := tb2 (i := 187) rfl rfl
theorem wx_X8_lay : Cond.selects RX8 yX8_lay yX8_lay ∈ wsU := ts1 (i := 8) (n := 14) (y := yX8_lay) rfl rfl
theorem pd_X8_lay : yX8_lay.cls ≠ "java/lang/invoke/MethodHandle" ∧ yX8_lay.cls ≠ "java/lang/invoke/VarHandle" ∧ (parseMethodDescriptor yX8_lay.desc).map (fun d => d.parameters.length) = some 2 := by decide +kernel
theorem wc_X8_lift : Cond.code yX8_lift cX8_lift 3 none ∈ wsU := tb2 (i := 237) rfl rfl
theorem wj_X8_lift : Cond.instanceMethod yX8_lift ∈ wsU := tb2 (i := 236) rfl rfl
theorem wx_X8_lift : Cond.selects RX8 yX8_lift yX8_lift ∈ wsU := ts2 (i := 1) (n := 14) (y := yX8_lift) rfl rfl
theorem pd_X8_lift : yX8_lift.cls ≠ "java/lang/invoke/MethodHandle" ∧ yX8_lift.cls ≠ "java/lang/invoke/VarHandle" ∧ (parseMethodDescriptor yX8_lift.desc).map (fun d => d.parameters.length) = some 2 := by decide +kernel
theorem wc_X8_tally : Cond.code yX8_tally cX8_tally 6 none ∈ wsU := tb2 (i := 192) rfl rfl
theorem wj_X8_tally : Cond.instanceMethod yX8_tally ∈ wsU := tb2 (i := 191) rfl rfl
theorem wx_X8_tally : Cond.selects RX8 yX8_tally yX8_tally ∈ wsU := ts1 (i := 9) (n := 14) (y := yX8_tally) rfl rfl
theorem pd_X8_tally : yX8_tally.cls ≠ "java/lang/invoke/MethodHandle" ∧ yX8_tally.cls ≠ "java/lang/invoke/VarHandle" ∧ (parseMethodDescriptor yX8_tally.desc).map (fun d => d.parameters.length) = some 3 := by decide +kernel
theorem wc_X8_lineAt : Cond.code yX8_lineAt cX8_lineAt 4 (some .int) ∈ wsU := tb2 (i := 196) rfl rfl
theorem wj_X8_lineAt : Cond.instanceMethod yX8_lineAt ∈ wsU := tb2 (i := 195) rfl rfl
theorem wx_X8_lineAt : Cond.selects RX8 yX8_lineAt yX8_lineAt ∈ wsU := ts1 (i := 10) (n := 14) (y := yX8_lineAt) rfl rfl
theorem pd_X8_lineAt : yX8_lineAt.cls ≠ "java/lang/invoke/MethodHandle" ∧ yX8_lineAt.cls ≠ "java/lang/invoke/VarHandle" ∧ (parseMethodDescriptor yX8_lineAt.desc).map (fun d => d.parameters.length) = some 2 := by decide +kernel
theorem wc_X8_isLine : Cond.code yX8_isLine cX8_isLine 2 (some .boolean) ∈ wsU := tb2 (i := 200) rfl rfl
theorem wj_X8_isLine : Cond.instanceMethod yX8_isLine ∈ wsU := tb2 (i := 199) rfl rfl
theorem wx_X8_isLine : Cond.selects RX8 yX8_isLine yX8_isLine ∈ wsU := ts1 (i := 11) (n := 14) (y := yX8_isLine) rfl rfl
theorem pd_X8_isLine : yX8_isLine.cls ≠ "java/lang/invoke/MethodHandle" ∧ yX8_isLine.cls ≠ "java/lang/invoke/VarHandle" ∧ (parseMethodDescriptor yX8_isLine.desc).map (fun d => d.parameters.length) = some 1 := by decide +kernel
theorem wc_X8_isFree : Cond.code yX8_isFree cX8_isFree 2 (some .boolean) ∈ wsU := tb2 (i := 184) rfl rfl
theorem wj_X8_isFree : Cond.instanceMethod yX8_isFree ∈ wsU := tb2 (i := 183) rfl rfl
theorem wx_X8_isFree : Cond.selects RX8 yX8_isFree yX8_isFree ∈ wsU := ts1 (i := 7) (n := 14) (y := yX8_isFree) rfl rfl
theorem pd_X8_isFree : yX8_isFree.cls ≠ "java/lang/invoke/MethodHandle" ∧ yX8_isFree.cls ≠ "java/lang/invoke/VarHandle" ∧ (parseMethodDescriptor yX8_isFree.desc).map (fun d => d.parameters.length) = some 1 := by decide +kernel
theorem wc_X10_init : Cond.code yX10_init cX10_init 1 none ∈ wsU := tb1 (i := 103) rfl rfl
theorem wj_X10_init : Cond.instanceMethod yX10_init ∈ wsU := tb1 (i := 102) rfl rfl
theorem pd_X10_init : yX10_init.cls ≠ "java/lang/invoke/MethodHandle" ∧ yX10_init.cls ≠ "java/lang/invoke/VarHandle" ∧ (parseMethodDescriptor yX10_init.desc).map (fun d => d.parameters.length) = some 0 := by decide +kernel
theorem wc_X11_init : Cond.code yX11_init cX11_init 2 none ∈ wsU := tb1 (i := 20) rfl rfl
theorem wj_X11_init : Cond.instanceMethod yX11_init ∈ wsU := tb1 (i := 19) rfl rfl
theorem pd_X11_init : yX11_init.cls ≠ "java/lang/invoke/MethodHandle" ∧ yX11_init.cls ≠ "java/lang/invoke/VarHandle" ∧ (parseMethodDescriptor yX11_init.desc).map (fun d => d.parameters.length) = some 0 := by decide +kernel
theorem wc_X11_put : Cond.code yX11_put cX11_put 6 (some .int) ∈ wsU := tb1 (i := 144) rfl rfl
theorem wj_X11_put : Cond.instanceMethod yX11_put ∈ wsU := tb1 (i := 142) rfl rfl
theorem wx_X11_put : Cond.selects RX11 yX11_put yX11_put ∈ wsU := tb1 (i := 143) rfl rfl
theorem pd_X11_put : yX11_put.cls ≠ "java/lang/invoke/MethodHandle" ∧ yX11_put.cls ≠ "java/lang/invoke/VarHandle" ∧ (parseMethodDescriptor yX11_put.desc).map (fun d => d.parameters.length) = some 4 := by decide +kernel
theorem wc_X11_at : Cond.code yX11_at cX11_at 5 (some .int) ∈ wsU := tb2 (i := 18) rfl rfl
theorem wj_X11_at : Cond.instanceMethod yX11_at ∈ wsU := tb2 (i := 16) rfl rfl
theorem wx_X11_at : Cond.selects RX11 yX11_at yX11_at ∈ wsU := tb2 (i := 17) rfl rfl
theorem pd_X11_at : yX11_at.cls ≠ "java/lang/invoke/MethodHandle" ∧ yX11_at.cls ≠ "java/lang/invoke/VarHandle" ∧ (parseMethodDescriptor yX11_at.desc).map (fun d => d.parameters.length) = some 3 := by decide +kernel
theorem wc_X11_make : Cond.code yX11_make cX11_make 4 (some .int) ∈ wsU := tb2 (i := 26) rfl rfl
theorem wj_X11_make : Cond.instanceMethod yX11_make ∈ wsU := tb2 (i := 24) rfl rfl
theorem wx_X11_make : Cond.selects RX11 yX11_make yX11_make ∈ wsU := tb2 (i := 25) rfl rfl
theorem pd_X11_make : yX11_make.cls ≠ "java/lang/invoke/MethodHandle" ∧ yX11_make.cls ≠ "java/lang/invoke/VarHandle" ∧ (parseMethodDescriptor yX11_make.desc).map (fun d => d.parameters.length) = some 2 := by decide +kernel
theorem wc_X11_change : Cond.code yX11_change cX11_change 5 (some .int) ∈ wsU := tb2 (i := 101) rfl rfl
theorem wj_X11_change : Cond.instanceMethod yX11_change ∈ wsU := tb2 (i := 99) rfl rfl
theorem wx_X11_change : Cond.selects RX11 yX11_change yX11_change ∈ wsU := tb2 (i := 100) rfl rfl
theorem pd_X11_change : yX11_change.cls ≠ "java/lang/invoke/MethodHandle" ∧ yX11_change.cls ≠ "java/lang/invoke/VarHandle" ∧ (parseMethodDescriptor yX11_change.desc).map (fun d => d.parameters.length) = some 3 := by decide +kernel
theorem wc_X11_completions : Cond.code yX11_completions cX11_completions 3 (some .int) ∈ wsU := tb2 (i := 152) rfl rfl
theorem wj_X11_completions : Cond.instanceMethod yX11_completions ∈ wsU := tb2 (i := 150) rfl rfl
theorem wx_X11_completions : Cond.selects RX11 yX11_completions yX11_completions ∈ wsU := tb2 (i := 151) rfl rfl
theorem pd_X11_completions : yX11_completions.cls ≠ "java/lang/invoke/MethodHandle" ∧ yX11_completions.cls ≠ "java/lang/invoke/VarHandle" ∧ (parseMethodDescriptor yX11_completions.desc).map (fun d => d.parameters.length) = some 1 := by decide +kernel
theorem wc_X11_completion : Cond.code yX11_completion cX11_completion 6 (some .int) ∈ wsU := tb3 (i := 1) rfl rfl
theorem wj_X11_completion : Cond.instanceMethod yX11_completion ∈ wsU := tb2 (i := 239) rfl rfl
theorem wx_X11_completion : Cond.selects RX11 yX11_completion yX11_completion ∈ wsU := tb3 (i := 0) rfl rfl
theorem pd_X11_completion : yX11_completion.cls ≠ "java/lang/invoke/MethodHandle" ∧ yX11_completion.cls ≠ "java/lang/invoke/VarHandle" ∧ (parseMethodDescriptor yX11_completion.desc).map (fun d => d.parameters.length) = some 4 := by decide +kernel
theorem wc_X11_requireRange : Cond.code yX11_requireRange cX11_requireRange 3 none ∈ wsU := tb1 (i := 227) rfl rfl
theorem wz_X11_requireRange : Cond.static yX11_requireRange ∈ wsU := tb1 (i := 226) rfl rfl
theorem pd_X11_requireRange : yX11_requireRange.cls ≠ "java/lang/invoke/MethodHandle" ∧ yX11_requireRange.cls ≠ "java/lang/invoke/VarHandle" ∧ (parseMethodDescriptor yX11_requireRange.desc).map (fun d => d.parameters.length) = some 3 := by decide +kernel
theorem wc_X11_requirePoint : Cond.code yX11_requirePoint cX11_requirePoint 3 none ∈ wsU := tb1 (i := 219) rfl rfl
theorem wz_X11_requirePoint : Cond.static yX11_requirePoint ∈ wsU := tb1 (i := 218) rfl rfl
theorem pd_X11_requirePoint : yX11_requirePoint.cls ≠ "java/lang/invoke/MethodHandle" ∧ yX11_requirePoint.cls ≠ "java/lang/invoke/VarHandle" ∧ (parseMethodDescriptor yX11_requirePoint.desc).map (fun d => d.parameters.length) = some 3 := by decide +kernel
theorem wc_X11_requireState : Cond.code yX11_requireState cX11_requireState 1 none ∈ wsU := tb2 (i := 32) rfl rfl
theorem wz_X11_requireState : Cond.static yX11_requireState ∈ wsU := tb2 (i := 31) rfl rfl
theorem pd_X11_requireState : yX11_requireState.cls ≠ "java/lang/invoke/MethodHandle" ∧ yX11_requireState.cls ≠ "java/lang/invoke/VarHandle" ∧ (parseMethodDescriptor yX11_requireState.desc).map (fun d => d.parameters.length) = some 1 := by decide +kernel
theorem wc_X11_requireRoom : Cond.code yX11_requireRoom cX11_requireRoom 1 none ∈ wsU := tb2 (i := 52) rfl rfl
theorem wj_X11_requireRoom : Cond.instanceMethod yX11_requireRoom ∈ wsU := tb2 (i := 51) rfl rfl
theorem wx_X11_requireRoom : Cond.selects RX11 yX11_requireRoom yX11_requireRoom ∈ wsU := ts1 (i := 2) (n := 6) (y := yX11_requireRoom) rfl rfl
theorem pd_X11_requireRoom : yX11_requireRoom.cls ≠ "java/lang/invoke/MethodHandle" ∧ yX11_requireRoom.cls ≠ "java/lang/invoke/VarHandle" ∧ (parseMethodDescriptor yX11_requireRoom.desc).map (fun d => d.parameters.length) = some 0 := by decide +kernel
theorem wc_X11_canBeCompleted : Cond.code yX11_canBeCompleted cX11_canBeCompleted 1 (some .boolean) ∈ wsU := tb2 (i := 155) rfl rfl
theorem wz_X11_canBeCompleted : Cond.static yX11_canBeCompleted ∈ wsU := tb2 (i := 154) rfl rfl
theorem pd_X11_canBeCompleted : yX11_canBeCompleted.cls ≠ "java/lang/invoke/MethodHandle" ∧ yX11_canBeCompleted.cls ≠ "java/lang/invoke/VarHandle" ∧ (parseMethodDescriptor yX11_canBeCompleted.desc).map (fun d => d.parameters.length) = some 1 := by decide +kernel
theorem wc_X11_figureOf : Cond.code yX11_figureOf cX11_figureOf 2 (some (.object "LoshuHall$Figure")) ∈ wsU := tb1 (i := 148) rfl rfl
theorem wj_X11_figureOf : Cond.instanceMethod yX11_figureOf ∈ wsU := tb1 (i := 147) rfl rfl
theorem wx_X11_figureOf : Cond.selects RX11 yX11_figureOf yX11_figureOf ∈ wsU := ts1 (i := 0) (n := 6) (y := yX11_figureOf) rfl rfl
theorem pd_X11_figureOf : yX11_figureOf.cls ≠ "java/lang/invoke/MethodHandle" ∧ yX11_figureOf.cls ≠ "java/lang/invoke/VarHandle" ∧ (parseMethodDescriptor yX11_figureOf.desc).map (fun d => d.parameters.length) = some 1 := by decide +kernel
theorem wc_X11_addFigure : Cond.code yX11_addFigure cX11_addFigure 3 (some .int) ∈ wsU := tb2 (i := 57) rfl rfl
theorem wj_X11_addFigure : Cond.instanceMethod yX11_addFigure ∈ wsU := tb2 (i := 56) rfl rfl
theorem wx_X11_addFigure : Cond.selects RX11 yX11_addFigure yX11_addFigure ∈ wsU := ts1 (i := 3) (n := 6) (y := yX11_addFigure) rfl rfl
theorem pd_X11_addFigure : yX11_addFigure.cls ≠ "java/lang/invoke/MethodHandle" ∧ yX11_addFigure.cls ≠ "java/lang/invoke/VarHandle" ∧ (parseMethodDescriptor yX11_addFigure.desc).map (fun d => d.parameters.length) = some 1 := by decide +kernel
theorem wc_J9_floorMod_7cf53 : Cond.code yJ9_floorMod_7cf53 cJ9_floorMod_7cf53 3 (some .int) ∈ wsU := tb2 (i := 80) rfl rfl
theorem wz_J9_floorMod_7cf53 : Cond.static yJ9_floorMod_7cf53 ∈ wsU := tb2 (i := 79) rfl rfl
theorem pd_J9_floorMod_7cf53 : yJ9_floorMod_7cf53.cls ≠ "java/lang/invoke/MethodHandle" ∧ yJ9_floorMod_7cf53.cls ≠ "java/lang/invoke/VarHandle" ∧ (parseMethodDescriptor yJ9_floorMod_7cf53.desc).map (fun d => d.parameters.length) = some 2 := by decide +kernel
theorem wc_J9_max_7cf53 : Cond.code yJ9_max_7cf53 cJ9_max_7cf53 2 (some .int) ∈ wsU := tb2 (i := 233) rfl rfl
theorem wz_J9_max_7cf53 : Cond.static yJ9_max_7cf53 ∈ wsU := tb2 (i := 232) rfl rfl
theorem pd_J9_max_7cf53 : yJ9_max_7cf53.cls ≠ "java/lang/invoke/MethodHandle" ∧ yJ9_max_7cf53.cls ≠ "java/lang/invoke/VarHandle" ∧ (parseMethodDescriptor yJ9_max_7cf53.desc).map (fun d => d.parameters.length) = some 2 := by decide +kernel
theorem wc_J9_min_7cf53 : Cond.code yJ9_min_7cf53 cJ9_min_7cf53 2 (some .int) ∈ wsU := tb2 (i := 226) rfl rfl
theorem wz_J9_min_7cf53 : Cond.static yJ9_min_7cf53 ∈ wsU := tb2 (i := 225) rfl rfl
theorem pd_J9_min_7cf53 : yJ9_min_7cf53.cls ≠ "java/lang/invoke/MethodHandle" ∧ yJ9_min_7cf53.cls ≠ "java/lang/invoke/VarHandle" ∧ (parseMethodDescriptor yJ9_min_7cf53.desc).map (fun d => d.parameters.length) = some 2 := by decide +kernel
theorem wc_L_told : Cond.code yL_told cL_told 2 (some .int) ∈ wsU := tb3 (i := 9) rfl rfl
theorem wz_L_told : Cond.static yL_told ∈ wsU := tb3 (i := 8) rfl rfl
theorem pd_L_told : yL_told.cls ≠ "java/lang/invoke/MethodHandle" ∧ yL_told.cls ≠ "java/lang/invoke/VarHandle" ∧ (parseMethodDescriptor yL_told.desc).map (fun d => d.parameters.length) = some 2 := by decide +kernel
theorem wc_L_isSum : Cond.code yL_isSum cL_isSum 6 (some .boolean) ∈ wsU := tb3 (i := 17) rfl rfl
theorem wz_L_isSum : Cond.static yL_isSum ∈ wsU := tb3 (i := 16) rfl rfl
theorem pd_L_isSum : yL_isSum.cls ≠ "java/lang/invoke/MethodHandle" ∧ yL_isSum.cls ≠ "java/lang/invoke/VarHandle" ∧ (parseMethodDescriptor yL_isSum.desc).map (fun d => d.parameters.length) = some 4 := by decide +kernel
theorem wc_L_isRight : Cond.code yL_isRight cL_isRight 5 (some .boolean) ∈ wsU := tb3 (i := 14) rfl rfl
theorem wz_L_isRight : Cond.static yL_isRight ∈ wsU := tb3 (i := 13) rfl rfl
theorem pd_L_isRight : yL_isRight.cls ≠ "java/lang/invoke/MethodHandle" ∧ yL_isRight.cls ≠ "java/lang/invoke/VarHandle" ∧ (parseMethodDescriptor yL_isRight.desc).map (fun d => d.parameters.length) = some 2 := by decide +kernel
theorem wc_L_compare : Cond.code yL_compare cL_compare 4 (some .int) ∈ wsU := tb3 (i := 23) rfl rfl
theorem wz_L_compare : Cond.static yL_compare ∈ wsU := tb3 (i := 22) rfl rfl
theorem pd_L_compare : yL_compare.cls ≠ "java/lang/invoke/MethodHandle" ∧ yL_compare.cls ≠ "java/lang/invoke/VarHandle" ∧ (parseMethodDescriptor yL_compare.desc).map (fun d => d.parameters.length) = some 3 := by decide +kernel
theorem wc_L_areCompletions : Cond.code yL_areCompletions cL_areCompletions 12 (some .boolean) ∈ wsU := tb3 (i := 20) rfl rfl
theorem wz_L_areCompletions : Cond.static yL_areCompletions ∈ wsU := tb3 (i := 19) rfl rfl
theorem pd_L_areCompletions : yL_areCompletions.cls ≠ "java/lang/invoke/MethodHandle" ∧ yL_areCompletions.cls ≠ "java/lang/invoke/VarHandle" ∧ (parseMethodDescriptor yL_areCompletions.desc).map (fun d => d.parameters.length) = some 5 := by decide +kernel
theorem pd_L_law : yL_law.cls ≠ "java/lang/invoke/MethodHandle" ∧ yL_law.cls ≠ "java/lang/invoke/VarHandle" ∧ (parseMethodDescriptor yL_law.desc).map (fun d => d.parameters.length) = some 1 := by decide +kernel
theorem k_L_33 : Cond.methodLink RL 33 yX11_init ∈ wsU := tb1 (i := 18) rfl rfl
theorem k_X11_15 : Cond.methodLink RX11 15 yX1_init ∈ wsU := tb1 (i := 27) rfl rfl
theorem k_X11_22 : Cond.methodLink RX11 22 yX8_init ∈ wsU := tb1 (i := 41) rfl rfl
theorem k_X11_29 : Cond.methodLink RX11 29 yX3_init ∈ wsU := tb1 (i := 91) rfl rfl
theorem k_X11_36 : Cond.methodLink RX11 36 yX10_init ∈ wsU := tb1 (i := 101) rfl rfl
theorem k_L_49 : lkV RL RX11 49 yX11_put cX11_put 6 (some .int) 4 := ⟨gi_V (tb1 (i := 141) rfl rfl) wj_X11_put wx_X11_put wi_RX11 wc_X11_put, rfl, pd_X11_put⟩
theorem k_X11_56 : lkV RX11 RX11 56 yX11_figureOf cX11_figureOf 2 (some (.object "LoshuHall$Figure")) 1 := ⟨gi_V (tb1 (i := 145) rfl rfl) wj_X11_figureOf wx_X11_figureOf wi_RX11 wc_X11_figureOf, rfl, pd_X11_figureOf⟩
theorem k_X11_60 : lkS RX11 60 yX11_requirePoint cX11_requirePoint 3 none 3 := ⟨gi_S (tb1 (i := 217) rfl rfl) wz_X11_requirePoint wi_RX11 wc_X11_requirePoint, pd_X11_requirePoint⟩
theorem k_X11_94 : lkV RX11 RX1 94 yX1_side cX1_side 1 (some .int) 0 := ⟨gi_V (tb1 (i := 220) rfl rfl) wj_X1_side wx_X1_side wi_RX1 wc_X1_side, rfl, pd_X1_side⟩
theorem k_X11_45 : lkS RX11 45 yX11_requireRange cX11_requireRange 3 none 3 := ⟨gi_S (tb1 (i := 225) rfl rfl) wz_X11_requireRange wi_RX11 wc_X11_requireRange, pd_X11_requireRange⟩
theorem k_X11_64 : lkV RX11 RX1 64 yX1_placeOf cX1_placeOf 3 (some .int) 2 := ⟨gi_V (tb2 (i := 4) rfl rfl) wj_X1_placeOf wx_X1_placeOf wi_RX1 wc_X1_placeOf, rfl, pd_X1_placeOf⟩
theorem k_X1_37 : lkS RX1 37 yX7_of cX7_of 3 (some .int) 3 := ⟨gi_S (tb2 (i := 8) rfl rfl) wz_X7_of wi_RX7 wc_X7_of, pd_X7_of⟩
theorem k_X11_68 : lkV RX11 RX1 68 yX1_write cX1_write 4 (some .int) 2 := ⟨gi_V (tb2 (i := 11) rfl rfl) wj_X1_write wx_X1_write wi_RX1 wc_X1_write, rfl, pd_X1_write⟩
theorem k_L_46 : lkV RL RX11 46 yX11_at cX11_at 5 (some .int) 3 := ⟨gi_V (tb2 (i := 15) rfl rfl) wj_X11_at wx_X11_at wi_RX11 wc_X11_at, rfl, pd_X11_at⟩
theorem k_X11_71 : lkV RX11 RX1 71 yX1_read cX1_read 2 (some .int) 1 := ⟨gi_V (tb2 (i := 19) rfl rfl) wj_X1_read wx_X1_read wi_RX1 wc_X1_read, rfl, pd_X1_read⟩
theorem k_L_34 : lkV RL RX11 34 yX11_make cX11_make 4 (some .int) 2 := ⟨gi_V (tb2 (i := 23) rfl rfl) wj_X11_make wx_X11_make wi_RX11 wc_X11_make, rfl, pd_X11_make⟩
theorem k_X11_74 : lkS RX11 74 yX5_holdsFor cX5_holdsFor 2 (some .boolean) 2 := ⟨gi_S (tb2 (i := 27) rfl rfl) wz_X5_holdsFor wi_RX5 wc_X5_holdsFor, pd_X5_holdsFor⟩
theorem k_X11_80 : lkS RX11 80 yX11_requireState cX11_requireState 1 none 1 := ⟨gi_S (tb2 (i := 30) rfl rfl) wz_X11_requireState wi_RX11 wc_X11_requireState, pd_X11_requireState⟩
theorem k_X11_49 : lkV RX11 RX11 49 yX11_requireRoom cX11_requireRoom 1 none 0 := ⟨gi_V (tb2 (i := 49) rfl rfl) wj_X11_requireRoom wx_X11_requireRoom wi_RX11 wc_X11_requireRoom, rfl, pd_X11_requireRoom⟩
theorem k_X11_52 : lkV RX11 RX11 52 yX11_addFigure cX11_addFigure 3 (some .int) 1 := ⟨gi_V (tb2 (i := 54) rfl rfl) wj_X11_addFigure wx_X11_addFigure wi_RX11 wc_X11_addFigure, rfl, pd_X11_addFigure⟩
theorem k_X11_228 : lkV RX11 RX1 228 yX1_begin cX1_begin 3 none 1 := ⟨gi_V (tb2 (i := 58) rfl rfl) wj_X1_begin wx_X1_begin wi_RX1 wc_X1_begin, rfl, pd_X1_begin⟩
theorem k_X11_84 : lkS RX11 84 yX5_lay cX5_lay 3 none 3 := ⟨gi_S (tb2 (i := 62) rfl rfl) wz_X5_lay wi_RX5 wc_X5_lay, pd_X5_lay⟩
theorem k_X5_9 : lkS RX5 9 yX5_laySiege cX5_laySiege 7 none 1 := ⟨gi_S (tb2 (i := 65) rfl rfl) wz_X5_laySiege wi_RX5 wc_X5_laySiege, pd_X5_laySiege⟩
theorem k_X5_25 : lkV RX5 RX1 25 yX1_side cX1_side 1 (some .int) 0 := ⟨gi_V (tb2 (i := 68) rfl rfl) wj_X1_side wx_X1_side wi_RX1 wc_X1_side, rfl, pd_X1_side⟩
theorem k_X5_31 : lkV RX5 RX1 31 yX1_size cX1_size 1 (some .int) 0 := ⟨gi_V (tb2 (i := 69) rfl rfl) wj_X1_size wx_X1_size wi_RX1 wc_X1_size, rfl, pd_X1_size⟩
theorem k_X5_34 : lkV RX5 RX1 34 yX1_placeOf cX1_placeOf 3 (some .int) 2 := ⟨gi_V (tb2 (i := 73) rfl rfl) wj_X1_placeOf wx_X1_placeOf wi_RX1 wc_X1_placeOf, rfl, pd_X1_placeOf⟩
theorem k_X5_38 : lkV RX5 RX1 38 yX1_write cX1_write 4 (some .int) 2 := ⟨gi_V (tb2 (i := 74) rfl rfl) wj_X1_write wx_X1_write wi_RX1 wc_X1_write, rfl, pd_X1_write⟩
theorem k_X5_41 : lkS RX5 41 yX7_wrap cX7_wrap 2 (some .int) 2 := ⟨gi_S (tb2 (i := 75) rfl rfl) wz_X7_wrap wi_RX7 wc_X7_wrap, pd_X7_wrap⟩
theorem k_X7_9 : lkS RX7 9 yJ9_floorMod_7cf53 cJ9_floorMod_7cf53 3 (some .int) 2 := ⟨gi_S (tb2 (i := 78) rfl rfl) wz_J9_floorMod_7cf53 wi_RJ9 wc_J9_floorMod_7cf53, pd_J9_floorMod_7cf53⟩
theorem k_X5_46 : lkV RX5 RX1 46 yX1_read cX1_read 2 (some .int) 1 := ⟨gi_V (tb2 (i := 81) rfl rfl) wj_X1_read wx_X1_read wi_RX1 wc_X1_read, rfl, pd_X1_read⟩
theorem k_X5_15 : lkS RX5 15 yX5_layCross cX5_layCross 6 none 1 := ⟨gi_S (tb2 (i := 82) rfl rfl) wz_X5_layCross wi_RX5 wc_X5_layCross, pd_X5_layCross⟩
theorem k_X5_50 : lkS RX5 50 yX7_rowOf cX7_rowOf 2 (some .int) 2 := ⟨gi_S (tb2 (i := 85) rfl rfl) wz_X7_rowOf wi_RX7 wc_X7_rowOf, pd_X7_rowOf⟩
theorem k_X5_53 : lkS RX5 53 yX7_columnOf cX7_columnOf 2 (some .int) 2 := ⟨gi_S (tb2 (i := 88) rfl rfl) wz_X7_columnOf wi_RX7 wc_X7_columnOf, pd_X7_columnOf⟩
theorem k_X5_18 : lkS RX5 18 yX5_layDigits cX5_layDigits 6 none 1 := ⟨gi_S (tb2 (i := 91) rfl rfl) wz_X5_layDigits wi_RX5 wc_X5_layDigits, pd_X5_layDigits⟩
theorem k_X5_21 : lkS RX5 21 yX5_layLux cX5_layLux 8 none 2 := ⟨gi_S (tb2 (i := 94) rfl rfl) wz_X5_layLux wi_RX5 wc_X5_layLux, pd_X5_layLux⟩
theorem k_X5_56 : lkV RX5 RX1 56 yX1_begin cX1_begin 3 none 1 := ⟨gi_V (tb2 (i := 97) rfl rfl) wj_X1_begin wx_X1_begin wi_RX1 wc_X1_begin, rfl, pd_X1_begin⟩
theorem k_L_42 : lkV RL RX11 42 yX11_change cX11_change 5 (some .int) 3 := ⟨gi_V (tb2 (i := 98) rfl rfl) wj_X11_change wx_X11_change wi_RX11 wc_X11_change, rfl, pd_X11_change⟩
theorem k_X11_101 : lkS RX11 101 yX0_mostBy cX0_mostBy 2 (some .int) 2 := ⟨gi_S (tb2 (i := 102) rfl rfl) wz_X0_mostBy wi_RX0 wc_X0_mostBy, pd_X0_mostBy⟩
theorem k_X11_106 : lkS RX11 106 yX0_move cX0_move 7 (some .int) 4 := ⟨gi_S (tb2 (i := 105) rfl rfl) wz_X0_move wi_RX0 wc_X0_move, pd_X0_move⟩
theorem k_X0_9 : lkV RX0 RX1 9 yX1_copyFrom cX1_copyFrom 3 none 1 := ⟨gi_V (tb2 (i := 108) rfl rfl) wj_X1_copyFrom wx_X1_copyFrom wi_RX1 wc_X1_copyFrom, rfl, pd_X1_copyFrom⟩
theorem k_X1_19 : lkV RX1 RX1 19 yX1_side cX1_side 1 (some .int) 0 := ⟨gi_V (tb2 (i := 112) rfl rfl) wj_X1_side wx_X1_side wi_RX1 wc_X1_side, rfl, pd_X1_side⟩
theorem k_X1_22 : lkV RX1 RX1 22 yX1_begin cX1_begin 3 none 1 := ⟨gi_V (tb2 (i := 113) rfl rfl) wj_X1_begin wx_X1_begin wi_RX1 wc_X1_begin, rfl, pd_X1_begin⟩
theorem k_X1_26 : lkV RX1 RX1 26 yX1_size cX1_size 1 (some .int) 0 := ⟨gi_V (tb2 (i := 114) rfl rfl) wj_X1_size wx_X1_size wi_RX1 wc_X1_size, rfl, pd_X1_size⟩
theorem k_X1_29 : lkV RX1 RX1 29 yX1_read cX1_read 2 (some .int) 1 := ⟨gi_V (tb2 (i := 115) rfl rfl) wj_X1_read wx_X1_read wi_RX1 wc_X1_read, rfl, pd_X1_read⟩
theorem k_X1_33 : lkV RX1 RX1 33 yX1_write cX1_write 4 (some .int) 2 := ⟨gi_V (tb2 (i := 116) rfl rfl) wj_X1_write wx_X1_write wi_RX1 wc_X1_write, rfl, pd_X1_write⟩
theorem k_X0_15 : lkV RX0 RX1 15 yX1_size cX1_size 1 (some .int) 0 := ⟨gi_V (tb2 (i := 117) rfl rfl) wj_X1_size wx_X1_size wi_RX1 wc_X1_size, rfl, pd_X1_size⟩
theorem k_X0_19 : lkV RX0 RX1 19 yX1_side cX1_side 1 (some .int) 0 := ⟨gi_V (tb2 (i := 118) rfl rfl) wj_X1_side wx_X1_side wi_RX1 wc_X1_side, rfl, pd_X1_side⟩
theorem k_X0_22 : lkS RX0 22 yX0_aheadOf cX0_aheadOf 4 (some .int) 4 := ⟨gi_S (tb2 (i := 119) rfl rfl) wz_X0_aheadOf wi_RX0 wc_X0_aheadOf, pd_X0_aheadOf⟩
theorem k_X0_36 : lkS RX0 36 yX7_aheadOfTurn cX7_aheadOfTurn 6 (some .int) 3 := ⟨gi_S (tb2 (i := 122) rfl rfl) wz_X7_aheadOfTurn wi_RX7 wc_X7_aheadOfTurn, pd_X7_aheadOfTurn⟩
theorem k_X7_15 : lkS RX7 15 yX7_rowOf cX7_rowOf 2 (some .int) 2 := ⟨gi_S (tb2 (i := 125) rfl rfl) wz_X7_rowOf wi_RX7 wc_X7_rowOf, pd_X7_rowOf⟩
theorem k_X7_20 : lkS RX7 20 yX7_columnOf cX7_columnOf 2 (some .int) 2 := ⟨gi_S (tb2 (i := 126) rfl rfl) wz_X7_columnOf wi_RX7 wc_X7_columnOf, pd_X7_columnOf⟩
theorem k_X7_23 : lkS RX7 23 yX7_of cX7_of 3 (some .int) 3 := ⟨gi_S (tb2 (i := 127) rfl rfl) wz_X7_of wi_RX7 wc_X7_of, pd_X7_of⟩
theorem k_X0_42 : lkS RX0 42 yX7_aheadOfFlip cX7_aheadOfFlip 3 (some .int) 3 := ⟨gi_S (tb2 (i := 128) rfl rfl) wz_X7_aheadOfFlip wi_RX7 wc_X7_aheadOfFlip, pd_X7_aheadOfFlip⟩
theorem k_X0_45 : lkS RX0 45 yX7_aheadOfShift cX7_aheadOfShift 4 (some .int) 4 := ⟨gi_S (tb2 (i := 131) rfl rfl) wz_X7_aheadOfShift wi_RX7 wc_X7_aheadOfShift, pd_X7_aheadOfShift⟩
theorem k_X7_27 : lkS RX7 27 yX7_wrap cX7_wrap 2 (some .int) 2 := ⟨gi_S (tb2 (i := 134) rfl rfl) wz_X7_wrap wi_RX7 wc_X7_wrap, pd_X7_wrap⟩
theorem k_X0_48 : lkS RX0 48 yX7_aheadOfPairs cX7_aheadOfPairs 3 (some .int) 3 := ⟨gi_S (tb2 (i := 135) rfl rfl) wz_X7_aheadOfPairs wi_RX7 wc_X7_aheadOfPairs, pd_X7_aheadOfPairs⟩
theorem k_X7_30 : lkS RX7 30 yX7_swapped cX7_swapped 4 (some .int) 3 := ⟨gi_S (tb2 (i := 138) rfl rfl) wz_X7_swapped wi_RX7 wc_X7_swapped, pd_X7_swapped⟩
theorem k_X0_28 : lkV RX0 RX1 28 yX1_read cX1_read 2 (some .int) 1 := ⟨gi_V (tb2 (i := 141) rfl rfl) wj_X1_read wx_X1_read wi_RX1 wc_X1_read, rfl, pd_X1_read⟩
theorem k_X0_32 : lkV RX0 RX1 32 yX1_write cX1_write 4 (some .int) 2 := ⟨gi_V (tb2 (i := 142) rfl rfl) wj_X1_write wx_X1_write wi_RX1 wc_X1_write, rfl, pd_X1_write⟩
theorem k_X11_110 : lkS RX11 110 yX0_canComplement cX0_canComplement 4 (some .boolean) 2 := ⟨gi_S (tb2 (i := 143) rfl rfl) wz_X0_canComplement wi_RX0 wc_X0_canComplement, pd_X0_canComplement⟩
theorem k_X11_114 : lkS RX11 114 yX0_complement cX0_complement 5 (some .int) 2 := ⟨gi_S (tb2 (i := 146) rfl rfl) wz_X0_complement wi_RX0 wc_X0_complement, pd_X0_complement⟩
theorem k_L_15 : lkV RL RX11 15 yX11_completions cX11_completions 3 (some .int) 1 := ⟨gi_V (tb2 (i := 149) rfl rfl) wj_X11_completions wx_X11_completions wi_RX11 wc_X11_completions, rfl, pd_X11_completions⟩
theorem k_X11_138 : lkS RX11 138 yX11_canBeCompleted cX11_canBeCompleted 1 (some .boolean) 1 := ⟨gi_S (tb2 (i := 153) rfl rfl) wz_X11_canBeCompleted wi_RX11 wc_X11_canBeCompleted, pd_X11_canBeCompleted⟩
theorem k_X11_223 : lkV RX11 RX1 223 yX1_countOf cX1_countOf 4 (some .int) 1 := ⟨gi_V (tb2 (i := 156) rfl rfl) wj_X1_countOf wx_X1_countOf wi_RX1 wc_X1_countOf, rfl, pd_X1_countOf⟩
theorem k_X11_142 : lkV RX11 RX8 142 yX8_load cX8_load 4 none 1 := ⟨gi_V (tb2 (i := 160) rfl rfl) wj_X8_load wx_X8_load wi_RX8 wc_X8_load, rfl, pd_X8_load⟩
theorem k_X8_35 : lkV RX8 RX1 35 yX1_side cX1_side 1 (some .int) 0 := ⟨gi_V (tb2 (i := 164) rfl rfl) wj_X1_side wx_X1_side wi_RX1 wc_X1_side, rfl, pd_X1_side⟩
theorem k_X8_40 : lkV RX8 RX8 40 yX8_begin cX8_begin 3 none 1 := ⟨gi_V (tb2 (i := 165) rfl rfl) wj_X8_begin wx_X8_begin wi_RX8 wc_X8_begin, rfl, pd_X8_begin⟩
theorem k_X8_72 : lkV RX8 RX8 72 yX8_lineThrough cX8_lineThrough 5 (some .int) 2 := ⟨gi_V (tb2 (i := 169) rfl rfl) wj_X8_lineThrough wx_X8_lineThrough wi_RX8 wc_X8_lineThrough, rfl, pd_X8_lineThrough⟩
theorem k_X8_76 : lkS RX8 76 yX7_rowOf cX7_rowOf 2 (some .int) 2 := ⟨gi_S (tb2 (i := 173) rfl rfl) wz_X7_rowOf wi_RX7 wc_X7_rowOf, pd_X7_rowOf⟩
theorem k_X8_81 : lkS RX8 81 yX7_columnOf cX7_columnOf 2 (some .int) 2 := ⟨gi_S (tb2 (i := 174) rfl rfl) wz_X7_columnOf wi_RX7 wc_X7_columnOf, pd_X7_columnOf⟩
theorem k_X8_44 : lkV RX8 RX1 44 yX1_size cX1_size 1 (some .int) 0 := ⟨gi_V (tb2 (i := 175) rfl rfl) wj_X1_size wx_X1_size wi_RX1 wc_X1_size, rfl, pd_X1_size⟩
theorem k_X8_47 : lkV RX8 RX1 47 yX1_read cX1_read 2 (some .int) 1 := ⟨gi_V (tb2 (i := 176) rfl rfl) wj_X1_read wx_X1_read wi_RX1 wc_X1_read, rfl, pd_X1_read⟩
theorem k_X8_51 : lkV RX8 RX8 51 yX8_addEmpty cX8_addEmpty 2 none 1 := ⟨gi_V (tb2 (i := 177) rfl rfl) wj_X8_addEmpty wx_X8_addEmpty wi_RX8 wc_X8_addEmpty, rfl, pd_X8_addEmpty⟩
theorem k_X8_54 : lkV RX8 RX8 54 yX8_isFree cX8_isFree 2 (some .boolean) 1 := ⟨gi_V (tb2 (i := 181) rfl rfl) wj_X8_isFree wx_X8_isFree wi_RX8 wc_X8_isFree, rfl, pd_X8_isFree⟩
theorem k_X8_58 : lkV RX8 RX8 58 yX8_lay cX8_lay 3 none 2 := ⟨gi_V (tb2 (i := 185) rfl rfl) wj_X8_lay wx_X8_lay wi_RX8 wc_X8_lay, rfl, pd_X8_lay⟩
theorem k_X8_140 : lkV RX8 RX8 140 yX8_tally cX8_tally 6 none 3 := ⟨gi_V (tb2 (i := 189) rfl rfl) wj_X8_tally wx_X8_tally wi_RX8 wc_X8_tally, rfl, pd_X8_tally⟩
theorem k_X8_129 : lkV RX8 RX8 129 yX8_lineAt cX8_lineAt 4 (some .int) 2 := ⟨gi_V (tb2 (i := 193) rfl rfl) wj_X8_lineAt wx_X8_lineAt wi_RX8 wc_X8_lineAt, rfl, pd_X8_lineAt⟩
theorem k_X8_126 : lkV RX8 RX8 126 yX8_isLine cX8_isLine 2 (some .boolean) 1 := ⟨gi_V (tb2 (i := 197) rfl rfl) wj_X8_isLine wx_X8_isLine wi_RX8 wc_X8_isLine, rfl, pd_X8_isLine⟩
theorem k_X11_146 : lkV RX11 RX8 146 yX8_countAll cX8_countAll 1 (some .int) 0 := ⟨gi_V (tb2 (i := 201) rfl rfl) wj_X8_countAll wx_X8_countAll wi_RX8 wc_X8_countAll, rfl, pd_X8_countAll⟩
theorem k_X8_84 : lkV RX8 RX8 84 yX8_seek cX8_seek 3 none 2 := ⟨gi_V (tb2 (i := 205) rfl rfl) wj_X8_seek wx_X8_seek wi_RX8 wc_X8_seek, rfl, pd_X8_seek⟩
theorem k_X8_99 : lkV RX8 RX8 99 yX8_fits cX8_fits 2 (some .boolean) 0 := ⟨gi_V (tb2 (i := 209) rfl rfl) wj_X8_fits wx_X8_fits wi_RX8 wc_X8_fits, rfl, pd_X8_fits⟩
theorem k_X8_103 : lkS RX8 103 yX8_fillFrom cX8_fillFrom 5 none 2 := ⟨gi_S (tb2 (i := 213) rfl rfl) wz_X8_fillFrom wi_RX8 wc_X8_fillFrom, pd_X8_fillFrom⟩
theorem k_X8_107 : lkV RX8 RX8 107 yX8_meet cX8_meet 1 none 0 := ⟨gi_V (tb2 (i := 216) rfl rfl) wj_X8_meet wx_X8_meet wi_RX8 wc_X8_meet, rfl, pd_X8_meet⟩
theorem k_X8_110 : lkV RX8 RX8 110 yX8_highestAt cX8_highestAt 6 (some .int) 1 := ⟨gi_V (tb2 (i := 220) rfl rfl) wj_X8_highestAt wx_X8_highestAt wi_RX8 wc_X8_highestAt, rfl, pd_X8_highestAt⟩
theorem k_X8_137 : lkS RX8 137 yJ9_min_7cf53 cJ9_min_7cf53 2 (some .int) 2 := ⟨gi_S (tb2 (i := 224) rfl rfl) wz_J9_min_7cf53 wi_RJ9 wc_J9_min_7cf53, pd_J9_min_7cf53⟩
theorem k_X8_113 : lkV RX8 RX8 113 yX8_lowestAt cX8_lowestAt 5 (some .int) 1 := ⟨gi_V (tb2 (i := 227) rfl rfl) wj_X8_lowestAt wx_X8_lowestAt wi_RX8 wc_X8_lowestAt, rfl, pd_X8_lowestAt⟩
theorem k_X8_132 : lkS RX8 132 yJ9_max_7cf53 cJ9_max_7cf53 2 (some .int) 2 := ⟨gi_S (tb2 (i := 231) rfl rfl) wz_J9_max_7cf53 wi_RJ9 wc_J9_max_7cf53, pd_J9_max_7cf53⟩
theorem k_X8_116 : lkV RX8 RX8 116 yX8_lift cX8_lift 3 none 2 := ⟨gi_V (tb2 (i := 234) rfl rfl) wj_X8_lift wx_X8_lift wi_RX8 wc_X8_lift, rfl, pd_X8_lift⟩
theorem k_L_21 : lkV RL RX11 21 yX11_completion cX11_completion 6 (some .int) 4 := ⟨gi_V (tb2 (i := 238) rfl rfl) wj_X11_completion wx_X11_completion wi_RX11 wc_X11_completion, rfl, pd_X11_completion⟩
theorem k_X11_156 : lkV RX11 RX8 156 yX8_numberIn cX8_numberIn 3 (some .int) 2 := ⟨gi_V (tb3 (i := 3) rfl rfl) wj_X8_numberIn wx_X8_numberIn wi_RX8 wc_X8_numberIn, rfl, pd_X8_numberIn⟩
theorem k_L_38 : lkS RL 38 yL_told cL_told 2 (some .int) 2 := ⟨gi_S (tb3 (i := 7) rfl rfl) wz_L_told wi_RL wc_L_told, pd_L_told⟩
theorem k_L_25 : lkS RL 25 yL_isRight cL_isRight 5 (some .boolean) 2 := ⟨gi_S (tb3 (i := 12) rfl rfl) wz_L_isRight wi_RL wc_L_isRight, pd_L_isRight⟩
theorem k_L_9 : lkS RL 9 yL_isSum cL_isSum 6 (some .boolean) 4 := ⟨gi_S (tb3 (i := 15) rfl rfl) wz_L_isSum wi_RL wc_L_isSum, pd_L_isSum⟩
theorem k_L_52 : lkS RL 52 yL_areCompletions cL_areCompletions 12 (some .boolean) 5 := ⟨gi_S (tb3 (i := 18) rfl rfl) wz_L_areCompletions wi_RL wc_L_areCompletions, pd_L_areCompletions⟩
theorem k_L_29 : lkS RL 29 yL_compare cL_compare 4 (some .int) 3 := ⟨gi_S (tb3 (i := 21) rfl rfl) wz_L_compare wi_RL wc_L_compare, pd_L_compare⟩
theorem f_X1_9 : Cond.fieldLink RX1 9 RX1 "numbers" "[I" ∈ wsU := tb1 (i := 31) rfl rfl
theorem f_X1_15 : Cond.fieldLink RX1 15 RX1 "side" "I" ∈ wsU := tb1 (i := 32) rfl rfl
theorem f_X8_11 : Cond.fieldLink RX8 11 RX8 "numbers" "[I" ∈ wsU := tb1 (i := 45) rfl rfl
theorem f_X8_15 : Cond.fieldLink RX8 15 RX8 "isUsed" "[Z" ∈ wsU := tb1 (i := 46) rfl rfl
theorem f_X8_19 : Cond.fieldLink RX8 19 RX8 "sums" "[I" ∈ wsU := tb1 (i := 47) rfl rfl
theorem f_X8_22 : Cond.fieldLink RX8 22 RX8 "lacks" "[I" ∈ wsU := tb1 (i := 48) rfl rfl
theorem f_X8_25 : Cond.fieldLink RX8 25 RX8 "linesAtPlaces" "[I" ∈ wsU := tb1 (i := 49) rfl rfl
theorem f_X8_28 : Cond.fieldLink RX8 28 RX8 "empties" "[I" ∈ wsU := tb1 (i := 50) rfl rfl
theorem f_X8_69 : Cond.fieldLink RX8 69 RX8 "emptyCount" "I" ∈ wsU := tb1 (i := 51) rfl rfl
theorem f_X8_31 : Cond.fieldLink RX8 31 RX8 "side" "I" ∈ wsU := tb1 (i := 52) rfl rfl
theorem f_X8_66 : Cond.fieldLink RX8 66 RX8 "due" "I" ∈ wsU := tb1 (i := 53) rfl rfl
theorem f_X8_62 : Cond.fieldLink RX8 62 RX8 "isClashing" "Z" ∈ wsU := tb1 (i := 54) rfl rfl
theorem f_X8_93 : Cond.fieldLink RX8 93 RX8 "wanted" "I" ∈ wsU := tb1 (i := 55) rfl rfl
theorem f_X8_96 : Cond.fieldLink RX8 96 RX8 "wantedPlace" "I" ∈ wsU := tb1 (i := 56) rfl rfl
theorem f_X8_87 : Cond.fieldLink RX8 87 RX8 "found" "I" ∈ wsU := tb1 (i := 57) rfl rfl
theorem f_X8_90 : Cond.fieldLink RX8 90 RX8 "answer" "I" ∈ wsU := tb1 (i := 58) rfl rfl
theorem f_X3_9 : Cond.fieldLink RX3 9 RX3 "differences" "[I" ∈ wsU := tb1 (i := 95) rfl rfl
theorem f_X10_13 : Cond.fieldLink RX10 13 RX10 "rows" "[[I" ∈ wsU := tb1 (i := 107) rfl rfl
theorem f_X10_16 : Cond.fieldLink RX10 16 RX10 "leads" "[I" ∈ wsU := tb1 (i := 108) rfl rfl
theorem f_X10_20 : Cond.fieldLink RX10 20 RX10 "row" "[I" ∈ wsU := tb1 (i := 109) rfl rfl
theorem f_X10_23 : Cond.fieldLink RX10 23 RX10 "side" "I" ∈ wsU := tb1 (i := 110) rfl rfl
theorem f_X11_11 : Cond.fieldLink RX11 11 RX11 "figures" "[LLoshuHall$Figure;" ∈ wsU := tb1 (i := 122) rfl rfl
theorem f_X11_16 : Cond.fieldLink RX11 16 RX11 "spare" "LLoshuHall$Figure;" ∈ wsU := tb1 (i := 123) rfl rfl
theorem f_X11_23 : Cond.fieldLink RX11 23 RX11 "search" "LLoshuHall$Search;" ∈ wsU := tb1 (i := 124) rfl rfl
theorem f_X11_30 : Cond.fieldLink RX11 30 RX11 "givensFinder" "LLoshuHall$Givens;" ∈ wsU := tb1 (i := 125) rfl rfl
theorem f_X11_37 : Cond.fieldLink RX11 37 RX11 "space" "LLoshuHall$Space;" ∈ wsU := tb1 (i := 126) rfl rfl
theorem f_X11_41 : Cond.fieldLink RX11 41 RX11 "figureCount" "I" ∈ wsU := tb1 (i := 127) rfl rfl
theorem n_L_7 : Cond.constant RL 7 (zi 130003) ∈ wsU := tb3 (i := 10) rfl rfl
theorem n_L_8 : Cond.constant RL 8 (zi 2147483647) ∈ wsU := tb3 (i := 11) rfl rfl
theorem l_L_16 : Cond.classLink RL 16 RX11 ∈ wsU := tb1 (i := 16) rfl rfl
theorem l_X11_9 : Cond.classLink RX11 9 RX1 ∈ wsU := tb1 (i := 24) rfl rfl
theorem l_X11_20 : Cond.classLink RX11 20 RX8 ∈ wsU := tb1 (i := 39) rfl rfl
theorem l_X11_27 : Cond.classLink RX11 27 RX3 ∈ wsU := tb1 (i := 89) rfl rfl
theorem l_X11_34 : Cond.classLink RX11 34 RX10 ∈ wsU := tb1 (i := 99) rfl rfl
theorem l_X10_11 : Cond.classLink RX10 11 "[[I" ∈ wsU := tb1 (i := 105) rfl rfl
theorem l_X11_211 : Cond.classLink RX11 211 "java/lang/IndexOutOfBoundsException" ∈ wsU := tb1 (i := 149) rfl rfl
theorem l_X11_149 : Cond.classLink RX11 149 "java/lang/IllegalArgumentException" ∈ wsU := tb1 (i := 228) rfl rfl
theorem l_X11_216 : Cond.classLink RX11 216 "java/lang/IllegalStateException" ∈ wsU := tb2 (i := 33) rfl rfl
theorem in_X1 : ∀ w ∈ u_ws RX1 TX1 2, w ∈ wsU := by
  have h : (u_ws RX1 TX1 2).all (fun w => decide (w ∈ lw_tbl) && goodWord w) = true := by decide +kernel
  intro w hw
  have h2 := List.all_eq_true.mp h w hw
  rw [Bool.and_eq_true] at h2
  exact wsU_in (of_decide_eq_true h2.1) h2.2
theorem in_X3 : ∀ w ∈ u_ws RX3 TX3 1, w ∈ wsU := by
  have h : (u_ws RX3 TX3 1).all (fun w => decide (w ∈ lw_tbl) && goodWord w) = true := by decide +kernel
  intro w hw
  have h2 := List.all_eq_true.mp h w hw
  rw [Bool.and_eq_true] at h2
  exact wsU_in (of_decide_eq_true h2.1) h2.2
theorem in_X8 : ∀ w ∈ u_ws RX8 TX8 14, w ∈ wsU := by
  have h : (u_ws RX8 TX8 14).all (fun w => decide (w ∈ lw_tbl) && goodWord w) = true := by decide +kernel
  intro w hw
  have h2 := List.all_eq_true.mp h w hw
  rw [Bool.and_eq_true] at h2
  exact wsU_in (of_decide_eq_true h2.1) h2.2
theorem in_X10 : ∀ w ∈ u_ws RX10 TX10 5, w ∈ wsU := by
  have h : (u_ws RX10 TX10 5).all (fun w => decide (w ∈ lw_tbl) && goodWord w) = true := by decide +kernel
  intro w hw
  have h2 := List.all_eq_true.mp h w hw
  rw [Bool.and_eq_true] at h2
  exact wsU_in (of_decide_eq_true h2.1) h2.2
theorem in_X11 : ∀ w ∈ u_ws RX11 TX11 6, w ∈ wsU := by
  have h : (u_ws RX11 TX11 6).all (fun w => decide (w ∈ lw_tbl) && goodWord w) = true := by decide +kernel
  intro w hw
  have h2 := List.all_eq_true.mp h w hw
  rw [Bool.and_eq_true] at h2
  exact wsU_in (of_decide_eq_true h2.1) h2.2
section Flds
variable {Γ : Gam} {g : Gl} {cc : ByteArray} {own : String} {nL k n F Lc kc ns pc : Nat} {x : Me} {lv : List (Nat × Value)} {st : List Value}
theorem gf_X1_numbers (hO : Ok Γ g cc nL own F Lc kc ns) {index : Nat} {q : Nat} (hq : q < 9) (hlink : Cond.fieldLink own index RX1 "numbers" "[I" ∈ wsU) (d : decode cc pc = .ok (.getfield index, 3)) (kk : Zz Γ g nL k n x (pc + 3) lv (.ref (gA g (20 + q)) :: st)) : Zz Γ g nL k n x pc lv (.ref (gA g (10 + q)) :: st) := z_get hO (10 + q) (dl_fig hq) d hlink (ci := 0) (kf := 0) (N := 2) (T := TX1) rfl in_X1 (by decide) rfl (we_fig hq _) rfl kk
theorem gf_X1_side (hO : Ok Γ g cc nL own F Lc kc ns) {index : Nat} {q : Nat} (hq : q < 9) (hlink : Cond.fieldLink own index RX1 "side" "I" ∈ wsU) (d : decode cc pc = .ok (.getfield index, 3)) (kk : Zz Γ g nL k n x (pc + 3) lv (.int (zi (x (10 + q) 1)) :: st)) : Zz Γ g nL k n x pc lv (.ref (gA g (10 + q)) :: st) := z_get hO (10 + q) (dl_fig hq) d hlink (ci := 0) (kf := 1) (N := 2) (T := TX1) rfl in_X1 (by decide) rfl (we_fig hq _) rfl kk
theorem pf_X1_side (hO : Ok Γ g cc nL own F Lc kc ns) {index : Nat} {q : Nat} (hq : q < 9) {v : Int} (hlink : Cond.fieldLink own index RX1 "side" "I" ∈ wsU) (d : decode cc pc = .ok (.putfield index, 3)) (kk : ∀ x' : Me, x' = up x (10 + q) 1 v → Zz Γ g nL k n x' (pc + 3) lv st) : Zz Γ g nL k n x pc lv (.int (zi v) :: .ref (gA g (10 + q)) :: st) := z_put hO (10 + q) 1 (dl_fig hq) d hlink (ci := 0) (kf := 1) (N := 2) (T := TX1) rfl in_X1 tyX1_ok nmX1 (by decide) rfl (ty := .int) (by decide) rfl rfl (Nat.le_of_ble_eq_true rfl) (we_fig hq _) ((we_fig hq _).trans (by rw [up_s]; rfl)) kk
theorem gf_X3_differences (hO : Ok Γ g cc nL own F Lc kc ns) {index : Nat} (hlink : Cond.fieldLink own index RX3 "differences" "[I" ∈ wsU) (d : decode cc pc = .ok (.getfield index, 3)) (kk : Zz Γ g nL k n x (pc + 3) lv (.ref (gA g 41) :: st)) : Zz Γ g nL k n x pc lv (.ref (gA g (40)) :: st) := z_get hO (40) (dl_b (by decide +kernel)) d hlink (ci := 1) (kf := 0) (N := 1) (T := TX3) rfl in_X3 (by decide) rfl rfl rfl kk
theorem gf_X8_numbers (hO : Ok Γ g cc nL own F Lc kc ns) {index : Nat} (hlink : Cond.fieldLink own index RX8 "numbers" "[I" ∈ wsU) (d : decode cc pc = .ok (.getfield index, 3)) (kk : Zz Γ g nL k n x (pc + 3) lv (.ref (gA g 31) :: st)) : Zz Γ g nL k n x pc lv (.ref (gA g (30)) :: st) := z_get hO (30) (dl_b (by decide +kernel)) d hlink (ci := 2) (kf := 0) (N := 14) (T := TX8) rfl in_X8 (by decide) rfl rfl rfl kk
theorem gf_X8_isUsed (hO : Ok Γ g cc nL own F Lc kc ns) {index : Nat} (hlink : Cond.fieldLink own index RX8 "isUsed" "[Z" ∈ wsU) (d : decode cc pc = .ok (.getfield index, 3)) (kk : Zz Γ g nL k n x (pc + 3) lv (.ref (gA g 32) :: st)) : Zz Γ g nL k n x pc lv (.ref (gA g (30)) :: st) := z_get hO (30) (dl_b (by decide +kernel)) d hlink (ci := 2) (kf := 1) (N := 14) (T := TX8) rfl in_X8 (by decide) rfl rfl rfl kk
theorem gf_X8_sums (hO : Ok Γ g cc nL own F Lc kc ns) {index : Nat} (hlink : Cond.fieldLink own index RX8 "sums" "[I" ∈ wsU) (d : decode cc pc = .ok (.getfield index, 3)) (kk : Zz Γ g nL k n x (pc + 3) lv (.ref (gA g 33) :: st)) : Zz Γ g nL k n x pc lv (.ref (gA g (30)) :: st) := z_get hO (30) (dl_b (by decide +kernel)) d hlink (ci := 2) (kf := 2) (N := 14) (T := TX8) rfl in_X8 (by decide) rfl rfl rfl kk
theorem gf_X8_lacks (hO : Ok Γ g cc nL own F Lc kc ns) {index : Nat} (hlink : Cond.fieldLink own index RX8 "lacks" "[I" ∈ wsU) (d : decode cc pc = .ok (.getfield index, 3)) (kk : Zz Γ g nL k n x (pc + 3) lv (.ref (gA g 34) :: st)) : Zz Γ g nL k n x pc lv (.ref (gA g (30)) :: st) := z_get hO (30) (dl_b (by decide +kernel)) d hlink (ci := 2) (kf := 3) (N := 14) (T := TX8) rfl in_X8 (by decide) rfl rfl rfl kk
theorem gf_X8_linesAtPlaces (hO : Ok Γ g cc nL own F Lc kc ns) {index : Nat} (hlink : Cond.fieldLink own index RX8 "linesAtPlaces" "[I" ∈ wsU) (d : decode cc pc = .ok (.getfield index, 3)) (kk : Zz Γ g nL k n x (pc + 3) lv (.ref (gA g 35) :: st)) : Zz Γ g nL k n x pc lv (.ref (gA g (30)) :: st) := z_get hO (30) (dl_b (by decide +kernel)) d hlink (ci := 2) (kf := 4) (N := 14) (T := TX8) rfl in_X8 (by decide) rfl rfl rfl kk
theorem gf_X8_empties (hO : Ok Γ g cc nL own F Lc kc ns) {index : Nat} (hlink : Cond.fieldLink own index RX8 "empties" "[I" ∈ wsU) (d : decode cc pc = .ok (.getfield index, 3)) (kk : Zz Γ g nL k n x (pc + 3) lv (.ref (gA g 36) :: st)) : Zz Γ g nL k n x pc lv (.ref (gA g (30)) :: st) := z_get hO (30) (dl_b (by decide +kernel)) d hlink (ci := 2) (kf := 5) (N := 14) (T := TX8) rfl in_X8 (by decide) rfl rfl rfl kk
theorem gf_X8_emptyCount (hO : Ok Γ g cc nL own F Lc kc ns) {index : Nat} (hlink : Cond.fieldLink own index RX8 "emptyCount" "I" ∈ wsU) (d : decode cc pc = .ok (.getfield index, 3)) (kk : Zz Γ g nL k n x (pc + 3) lv (.int (zi (x 30 6)) :: st)) : Zz Γ g nL k n x pc lv (.ref (gA g (30)) :: st) := z_get hO (30) (dl_b (by decide +kernel)) d hlink (ci := 2) (kf := 6) (N := 14) (T := TX8) rfl in_X8 (by decide) rfl rfl rfl kk
theorem pf_X8_emptyCount (hO : Ok Γ g cc nL own F Lc kc ns) {index : Nat} {v : Int} (hlink : Cond.fieldLink own index RX8 "emptyCount" "I" ∈ wsU) (d : decode cc pc = .ok (.putfield index, 3)) (kk : ∀ x' : Me, x' = up x (30) 6 v → Zz Γ g nL k n x' (pc + 3) lv st) : Zz Γ g nL k n x pc lv (.int (zi v) :: .ref (gA g (30)) :: st) := z_put hO (30) 6 (dl_b (by decide +kernel)) d hlink (ci := 2) (kf := 6) (N := 14) (T := TX8) rfl in_X8 tyX8_ok nmX8 (by decide) rfl (ty := .int) (by decide) rfl rfl (Nat.le_of_ble_eq_true rfl) rfl (rfl) kk
theorem gf_X8_side (hO : Ok Γ g cc nL own F Lc kc ns) {index : Nat} (hlink : Cond.fieldLink own index RX8 "side" "I" ∈ wsU) (d : decode cc pc = .ok (.getfield index, 3)) (kk : Zz Γ g nL k n x (pc + 3) lv (.int (zi (x 30 7)) :: st)) : Zz Γ g nL k n x pc lv (.ref (gA g (30)) :: st) := z_get hO (30) (dl_b (by decide +kernel)) d hlink (ci := 2) (kf := 7) (N := 14) (T := TX8) rfl in_X8 (by decide) rfl rfl rfl kk
theorem pf_X8_side (hO : Ok Γ g cc nL own F Lc kc ns) {index : Nat} {v : Int} (hlink : Cond.fieldLink own index RX8 "side" "I" ∈ wsU) (d : decode cc pc = .ok (.putfield index, 3)) (kk : ∀ x' : Me, x' = up x (30) 7 v → Zz Γ g nL k n x' (pc + 3) lv st) : Zz Γ g nL k n x pc lv (.int (zi v) :: .ref (gA g (30)) :: st) := z_put hO (30) 7 (dl_b (by decide +kernel)) d hlink (ci := 2) (kf := 7) (N := 14) (T := TX8) rfl in_X8 tyX8_ok nmX8 (by decide) rfl (ty := .int) (by decide) rfl rfl (Nat.le_of_ble_eq_true rfl) rfl (rfl) kk
theorem gf_X8_due (hO : Ok Γ g cc nL own F Lc kc ns) {index : Nat} (hlink : Cond.fieldLink own index RX8 "due" "I" ∈ wsU) (d : decode cc pc = .ok (.getfield index, 3)) (kk : Zz Γ g nL k n x (pc + 3) lv (.int (zi (x 30 8)) :: st)) : Zz Γ g nL k n x pc lv (.ref (gA g (30)) :: st) := z_get hO (30) (dl_b (by decide +kernel)) d hlink (ci := 2) (kf := 8) (N := 14) (T := TX8) rfl in_X8 (by decide) rfl rfl rfl kk
theorem pf_X8_due (hO : Ok Γ g cc nL own F Lc kc ns) {index : Nat} {v : Int} (hlink : Cond.fieldLink own index RX8 "due" "I" ∈ wsU) (d : decode cc pc = .ok (.putfield index, 3)) (kk : ∀ x' : Me, x' = up x (30) 8 v → Zz Γ g nL k n x' (pc + 3) lv st) : Zz Γ g nL k n x pc lv (.int (zi v) :: .ref (gA g (30)) :: st) := z_put hO (30) 8 (dl_b (by decide +kernel)) d hlink (ci := 2) (kf := 8) (N := 14) (T := TX8) rfl in_X8 tyX8_ok nmX8 (by decide) rfl (ty := .int) (by decide) rfl rfl (Nat.le_of_ble_eq_true rfl) rfl (rfl) kk
theorem gf_X8_isClashing (hO : Ok Γ g cc nL own F Lc kc ns) {index : Nat} (hlink : Cond.fieldLink own index RX8 "isClashing" "Z" ∈ wsU) (d : decode cc pc = .ok (.getfield index, 3)) (kk : Zz Γ g nL k n x (pc + 3) lv (.int (zi (x 30 9)) :: st)) : Zz Γ g nL k n x pc lv (.ref (gA g (30)) :: st) := z_get hO (30) (dl_b (by decide +kernel)) d hlink (ci := 2) (kf := 9) (N := 14) (T := TX8) rfl in_X8 (by decide) rfl rfl rfl kk
theorem pf_X8_isClashing (hO : Ok Γ g cc nL own F Lc kc ns) {index : Nat} {v : Int} (hlink : Cond.fieldLink own index RX8 "isClashing" "Z" ∈ wsU) (hb : v = 0 ∨ v = 1) (d : decode cc pc = .ok (.putfield index, 3)) (kk : ∀ x' : Me, x' = up x (30) 9 v → Zz Γ g nL k n x' (pc + 3) lv st) : Zz Γ g nL k n x pc lv (.int (zi v) :: .ref (gA g (30)) :: st) := z_put hO (30) 9 (dl_b (by decide +kernel)) d hlink (ci := 2) (kf := 9) (N := 14) (T := TX8) rfl in_X8 tyX8_ok nmX8 (by decide) rfl (ty := .boolean) (by decide) (zi_bool hb).1 (zi_bool hb).2.2 (Nat.le_of_ble_eq_true rfl) rfl (rfl) kk
theorem gf_X8_wanted (hO : Ok Γ g cc nL own F Lc kc ns) {index : Nat} (hlink : Cond.fieldLink own index RX8 "wanted" "I" ∈ wsU) (d : decode cc pc = .ok (.getfield index, 3)) (kk : Zz Γ g nL k n x (pc + 3) lv (.int (zi (x 30 10)) :: st)) : Zz Γ g nL k n x pc lv (.ref (gA g (30)) :: st) := z_get hO (30) (dl_b (by decide +kernel)) d hlink (ci := 2) (kf := 10) (N := 14) (T := TX8) rfl in_X8 (by decide) rfl rfl rfl kk
theorem pf_X8_wanted (hO : Ok Γ g cc nL own F Lc kc ns) {index : Nat} {v : Int} (hlink : Cond.fieldLink own index RX8 "wanted" "I" ∈ wsU) (d : decode cc pc = .ok (.putfield index, 3)) (kk : ∀ x' : Me, x' = up x (30) 10 v → Zz Γ g nL k n x' (pc + 3) lv st) : Zz Γ g nL k n x pc lv (.int (zi v) :: .ref (gA g (30)) :: st) := z_put hO (30) 10 (dl_b (by decide +kernel)) d hlink (ci := 2) (kf := 10) (N := 14) (T := TX8) rfl in_X8 tyX8_ok nmX8 (by decide) rfl (ty := .int) (by decide) rfl rfl (Nat.le_of_ble_eq_true rfl) rfl (rfl) kk
theorem gf_X8_wantedPlace (hO : Ok Γ g cc nL own F Lc kc ns) {index : Nat} (hlink : Cond.fieldLink own index RX8 "wantedPlace" "I" ∈ wsU) (d : decode cc pc = .ok (.getfield index, 3)) (kk : Zz Γ g nL k n x (pc + 3) lv (.int (zi (x 30 11)) :: st)) : Zz Γ g nL k n x pc lv (.ref (gA g (30)) :: st) := z_get hO (30) (dl_b (by decide +kernel)) d hlink (ci := 2) (kf := 11) (N := 14) (T := TX8) rfl in_X8 (by decide) rfl rfl rfl kk
theorem pf_X8_wantedPlace (hO : Ok Γ g cc nL own F Lc kc ns) {index : Nat} {v : Int} (hlink : Cond.fieldLink own index RX8 "wantedPlace" "I" ∈ wsU) (d : decode cc pc = .ok (.putfield index, 3)) (kk : ∀ x' : Me, x' = up x (30) 11 v → Zz Γ g nL k n x' (pc + 3) lv st) : Zz Γ g nL k n x pc lv (.int (zi v) :: .ref (gA g (30)) :: st) := z_put hO (30) 11 (dl_b (by decide +kernel)) d hlink (ci := 2) (kf := 11) (N := 14) (T := TX8) rfl in_X8 tyX8_ok nmX8 (by decide) rfl (ty := .int) (by decide) rfl rfl (Nat.le_of_ble_eq_true rfl) rfl (rfl) kk
theorem gf_X8_found (hO : Ok Γ g cc nL own F Lc kc ns) {index : Nat} (hlink : Cond.fieldLink own index RX8 "found" "I" ∈ wsU) (d : decode cc pc = .ok (.getfield index, 3)) (kk : Zz Γ g nL k n x (pc + 3) lv (.int (zi (x 30 12)) :: st)) : Zz Γ g nL k n x pc lv (.ref (gA g (30)) :: st) := z_get hO (30) (dl_b (by decide +kernel)) d hlink (ci := 2) (kf := 12) (N := 14) (T := TX8) rfl in_X8 (by decide) rfl rfl rfl kk
theorem pf_X8_found (hO : Ok Γ g cc nL own F Lc kc ns) {index : Nat} {v : Int} (hlink : Cond.fieldLink own index RX8 "found" "I" ∈ wsU) (d : decode cc pc = .ok (.putfield index, 3)) (kk : ∀ x' : Me, x' = up x (30) 12 v → Zz Γ g nL k n x' (pc + 3) lv st) : Zz Γ g nL k n x pc lv (.int (zi v) :: .ref (gA g (30)) :: st) := z_put hO (30) 12 (dl_b (by decide +kernel)) d hlink (ci := 2) (kf := 12) (N := 14) (T := TX8) rfl in_X8 tyX8_ok nmX8 (by decide) rfl (ty := .int) (by decide) rfl rfl (Nat.le_of_ble_eq_true rfl) rfl (rfl) kk
theorem gf_X8_answer (hO : Ok Γ g cc nL own F Lc kc ns) {index : Nat} (hlink : Cond.fieldLink own index RX8 "answer" "I" ∈ wsU) (d : decode cc pc = .ok (.getfield index, 3)) (kk : Zz Γ g nL k n x (pc + 3) lv (.int (zi (x 30 13)) :: st)) : Zz Γ g nL k n x pc lv (.ref (gA g (30)) :: st) := z_get hO (30) (dl_b (by decide +kernel)) d hlink (ci := 2) (kf := 13) (N := 14) (T := TX8) rfl in_X8 (by decide) rfl rfl rfl kk
theorem pf_X8_answer (hO : Ok Γ g cc nL own F Lc kc ns) {index : Nat} {v : Int} (hlink : Cond.fieldLink own index RX8 "answer" "I" ∈ wsU) (d : decode cc pc = .ok (.putfield index, 3)) (kk : ∀ x' : Me, x' = up x (30) 13 v → Zz Γ g nL k n x' (pc + 3) lv st) : Zz Γ g nL k n x pc lv (.int (zi v) :: .ref (gA g (30)) :: st) := z_put hO (30) 13 (dl_b (by decide +kernel)) d hlink (ci := 2) (kf := 13) (N := 14) (T := TX8) rfl in_X8 tyX8_ok nmX8 (by decide) rfl (ty := .int) (by decide) rfl rfl (Nat.le_of_ble_eq_true rfl) rfl (rfl) kk
theorem gf_X10_rows (hO : Ok Γ g cc nL own F Lc kc ns) {index : Nat} (hlink : Cond.fieldLink own index RX10 "rows" "[[I" ∈ wsU) (d : decode cc pc = .ok (.getfield index, 3)) (kk : Zz Γ g nL k n x (pc + 3) lv (.ref (gA g 43) :: st)) : Zz Γ g nL k n x pc lv (.ref (gA g (42)) :: st) := z_get hO (42) (dl_b (by decide +kernel)) d hlink (ci := 3) (kf := 0) (N := 5) (T := TX10) rfl in_X10 (by decide) rfl rfl rfl kk
theorem gf_X10_leads (hO : Ok Γ g cc nL own F Lc kc ns) {index : Nat} (hlink : Cond.fieldLink own index RX10 "leads" "[I" ∈ wsU) (d : decode cc pc = .ok (.getfield index, 3)) (kk : Zz Γ g nL k n x (pc + 3) lv (.ref (gA g 44) :: st)) : Zz Γ g nL k n x pc lv (.ref (gA g (42)) :: st) := z_get hO (42) (dl_b (by decide +kernel)) d hlink (ci := 3) (kf := 1) (N := 5) (T := TX10) rfl in_X10 (by decide) rfl rfl rfl kk
theorem gf_X10_row (hO : Ok Γ g cc nL own F Lc kc ns) {index : Nat} (hlink : Cond.fieldLink own index RX10 "row" "[I" ∈ wsU) (d : decode cc pc = .ok (.getfield index, 3)) (kk : Zz Γ g nL k n x (pc + 3) lv (.ref (gA g 45) :: st)) : Zz Γ g nL k n x pc lv (.ref (gA g (42)) :: st) := z_get hO (42) (dl_b (by decide +kernel)) d hlink (ci := 3) (kf := 2) (N := 5) (T := TX10) rfl in_X10 (by decide) rfl rfl rfl kk
theorem gf_X10_rank (hO : Ok Γ g cc nL own F Lc kc ns) {index : Nat} (hlink : Cond.fieldLink own index RX10 "rank" "I" ∈ wsU) (d : decode cc pc = .ok (.getfield index, 3)) (kk : Zz Γ g nL k n x (pc + 3) lv (.int (zi (x 42 3)) :: st)) : Zz Γ g nL k n x pc lv (.ref (gA g (42)) :: st) := z_get hO (42) (dl_b (by decide +kernel)) d hlink (ci := 3) (kf := 3) (N := 5) (T := TX10) rfl in_X10 (by decide) rfl rfl rfl kk
theorem pf_X10_rank (hO : Ok Γ g cc nL own F Lc kc ns) {index : Nat} {v : Int} (hlink : Cond.fieldLink own index RX10 "rank" "I" ∈ wsU) (d : decode cc pc = .ok (.putfield index, 3)) (kk : ∀ x' : Me, x' = up x (42) 3 v → Zz Γ g nL k n x' (pc + 3) lv st) : Zz Γ g nL k n x pc lv (.int (zi v) :: .ref (gA g (42)) :: st) := z_put hO (42) 3 (dl_b (by decide +kernel)) d hlink (ci := 3) (kf := 3) (N := 5) (T := TX10) rfl in_X10 tyX10_ok nmX10 (by decide) rfl (ty := .int) (by decide) rfl rfl (Nat.le_of_ble_eq_true rfl) rfl (rfl) kk
theorem gf_X10_side (hO : Ok Γ g cc nL own F Lc kc ns) {index : Nat} (hlink : Cond.fieldLink own index RX10 "side" "I" ∈ wsU) (d : decode cc pc = .ok (.getfield index, 3)) (kk : Zz Γ g nL k n x (pc + 3) lv (.int (zi (x 42 4)) :: st)) : Zz Γ g nL k n x pc lv (.ref (gA g (42)) :: st) := z_get hO (42) (dl_b (by decide +kernel)) d hlink (ci := 3) (kf := 4) (N := 5) (T := TX10) rfl in_X10 (by decide) rfl rfl rfl kk
theorem pf_X10_side (hO : Ok Γ g cc nL own F Lc kc ns) {index : Nat} {v : Int} (hlink : Cond.fieldLink own index RX10 "side" "I" ∈ wsU) (d : decode cc pc = .ok (.putfield index, 3)) (kk : ∀ x' : Me, x' = up x (42) 4 v → Zz Γ g nL k n x' (pc + 3) lv st) : Zz Γ g nL k n x pc lv (.int (zi v) :: .ref (gA g (42)) :: st) := z_put hO (42) 4 (dl_b (by decide +kernel)) d hlink (ci := 3) (kf := 4) (N := 5) (T := TX10) rfl in_X10 tyX10_ok nmX10 (by decide) rfl (ty := .int) (by decide) rfl rfl (Nat.le_of_ble_eq_true rfl) rfl (rfl) kk
theorem gf_X11_figures (hO : Ok Γ g cc nL own F Lc kc ns) {index : Nat} (hlink : Cond.fieldLink own index RX11 "figures" "[LLoshuHall$Figure;" ∈ wsU) (d : decode cc pc = .ok (.getfield index, 3)) (kk : Zz Γ g nL k n x (pc + 3) lv (.ref (gA g 1) :: st)) : Zz Γ g nL k n x pc lv (.ref (gA g (0)) :: st) := z_get hO (0) (dl_b (by decide +kernel)) d hlink (ci := 4) (kf := 0) (N := 6) (T := TX11) rfl in_X11 (by decide) rfl rfl rfl kk
theorem gf_X11_spare (hO : Ok Γ g cc nL own F Lc kc ns) {index : Nat} (hlink : Cond.fieldLink own index RX11 "spare" "LLoshuHall$Figure;" ∈ wsU) (d : decode cc pc = .ok (.getfield index, 3)) (kk : Zz Γ g nL k n x (pc + 3) lv (.ref (gA g (10 + 8)) :: st)) : Zz Γ g nL k n x pc lv (.ref (gA g (0)) :: st) := z_get hO (0) (dl_b (by decide +kernel)) d hlink (ci := 4) (kf := 1) (N := 6) (T := TX11) rfl in_X11 (by decide) rfl rfl rfl kk
theorem gf_X11_search (hO : Ok Γ g cc nL own F Lc kc ns) {index : Nat} (hlink : Cond.fieldLink own index RX11 "search" "LLoshuHall$Search;" ∈ wsU) (d : decode cc pc = .ok (.getfield index, 3)) (kk : Zz Γ g nL k n x (pc + 3) lv (.ref (gA g 30) :: st)) : Zz Γ g nL k n x pc lv (.ref (gA g (0)) :: st) := z_get hO (0) (dl_b (by decide +kernel)) d hlink (ci := 4) (kf := 2) (N := 6) (T := TX11) rfl in_X11 (by decide) rfl rfl rfl kk
theorem gf_X11_givensFinder (hO : Ok Γ g cc nL own F Lc kc ns) {index : Nat} (hlink : Cond.fieldLink own index RX11 "givensFinder" "LLoshuHall$Givens;" ∈ wsU) (d : decode cc pc = .ok (.getfield index, 3)) (kk : Zz Γ g nL k n x (pc + 3) lv (.ref (gA g 40) :: st)) : Zz Γ g nL k n x pc lv (.ref (gA g (0)) :: st) := z_get hO (0) (dl_b (by decide +kernel)) d hlink (ci := 4) (kf := 3) (N := 6) (T := TX11) rfl in_X11 (by decide) rfl rfl rfl kk
theorem gf_X11_space (hO : Ok Γ g cc nL own F Lc kc ns) {index : Nat} (hlink : Cond.fieldLink own index RX11 "space" "LLoshuHall$Space;" ∈ wsU) (d : decode cc pc = .ok (.getfield index, 3)) (kk : Zz Γ g nL k n x (pc + 3) lv (.ref (gA g 42) :: st)) : Zz Γ g nL k n x pc lv (.ref (gA g (0)) :: st) := z_get hO (0) (dl_b (by decide +kernel)) d hlink (ci := 4) (kf := 4) (N := 6) (T := TX11) rfl in_X11 (by decide) rfl rfl rfl kk
theorem gf_X11_figureCount (hO : Ok Γ g cc nL own F Lc kc ns) {index : Nat} (hlink : Cond.fieldLink own index RX11 "figureCount" "I" ∈ wsU) (d : decode cc pc = .ok (.getfield index, 3)) (kk : Zz Γ g nL k n x (pc + 3) lv (.int (zi (x 0 5)) :: st)) : Zz Γ g nL k n x pc lv (.ref (gA g (0)) :: st) := z_get hO (0) (dl_b (by decide +kernel)) d hlink (ci := 4) (kf := 5) (N := 6) (T := TX11) rfl in_X11 (by decide) rfl rfl rfl kk
theorem pf_X11_figureCount (hO : Ok Γ g cc nL own F Lc kc ns) {index : Nat} {v : Int} (hlink : Cond.fieldLink own index RX11 "figureCount" "I" ∈ wsU) (d : decode cc pc = .ok (.putfield index, 3)) (kk : ∀ x' : Me, x' = up x (0) 5 v → Zz Γ g nL k n x' (pc + 3) lv st) : Zz Γ g nL k n x pc lv (.int (zi v) :: .ref (gA g (0)) :: st) := z_put hO (0) 5 (dl_b (by decide +kernel)) d hlink (ci := 4) (kf := 5) (N := 6) (T := TX11) rfl in_X11 tyX11_ok nmX11 (by decide) rfl (ty := .int) (by decide) rfl rfl (Nat.le_of_ble_eq_true rfl) rfl (rfl) kk
end Flds
