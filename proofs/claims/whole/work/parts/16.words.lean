theorem tb1 {i : Nat} {w : Cond} (e : tables_1_1[i]? = some w) (hg : goodWord w = true) : w ∈ wsU := wsU_in (List.mem_append_right _ (have h : w ∈ tables_1_1 := List.mem_of_getElem? e; List.mem_append_left _ h)) hg
theorem ts1 {i n : Nat} {y : MethodName} (e : lw_privs_1[i]? = some (y, n)) (hg : goodWord (Cond.selects y.cls y y) = true) : Cond.selects y.cls y y ∈ wsU := wsU_in (List.mem_append_left _ (List.mem_map.mpr ⟨(y, n), (have h : (y, n) ∈ lw_privs_1 := List.mem_of_getElem? e; List.mem_append_left _ h), rfl⟩)) hg
theorem tb2 {i : Nat} {w : Cond} (e : tables_1_2[i]? = some w) (hg : goodWord w = true) : w ∈ wsU := wsU_in (List.mem_append_right _ (have h : w ∈ tables_1_2 := List.mem_of_getElem? e; List.mem_append_right _ (List.mem_append_left _ h))) hg
theorem ts2 {i n : Nat} {y : MethodName} (e : lw_privs_2[i]? = some (y, n)) (hg : goodWord (Cond.selects y.cls y y) = true) : Cond.selects y.cls y y ∈ wsU := wsU_in (List.mem_append_left _ (List.mem_map.mpr ⟨(y, n), (have h : (y, n) ∈ lw_privs_2 := List.mem_of_getElem? e; List.mem_append_right _ (List.mem_append_left _ h)), rfl⟩)) hg
theorem tb3 {i : Nat} {w : Cond} (e : tables_1_3[i]? = some w) (hg : goodWord w = true) : w ∈ wsU := wsU_in (List.mem_append_right _ (have h : w ∈ tables_1_3 := List.mem_of_getElem? e; List.mem_append_right _ (List.mem_append_right _ (List.mem_append_left _ h)))) hg
theorem ts3 {i n : Nat} {y : MethodName} (e : lw_privs_3[i]? = some (y, n)) (hg : goodWord (Cond.selects y.cls y y) = true) : Cond.selects y.cls y y ∈ wsU := wsU_in (List.mem_append_left _ (List.mem_map.mpr ⟨(y, n), (have h : (y, n) ∈ lw_privs_3 := List.mem_of_getElem? e; List.mem_append_right _ (List.mem_append_right _ (List.mem_append_left _ h))), rfl⟩)) hg
theorem tb4 {i : Nat} {w : Cond} (e : tables_1_4[i]? = some w) (hg : goodWord w = true) : w ∈ wsU := wsU_in (List.mem_append_right _ (have h : w ∈ tables_1_4 := List.mem_of_getElem? e; List.mem_append_right _ (List.mem_append_right _ (List.mem_append_right _ (List.mem_append_left _ h))))) hg
theorem ts4 {i n : Nat} {y : MethodName} (e : lw_privs_4[i]? = some (y, n)) (hg : goodWord (Cond.selects y.cls y y) = true) : Cond.selects y.cls y y ∈ wsU := wsU_in (List.mem_append_left _ (List.mem_map.mpr ⟨(y, n), (have h : (y, n) ∈ lw_privs_4 := List.mem_of_getElem? e; List.mem_append_right _ (List.mem_append_right _ (List.mem_append_right _ (List.mem_append_left _ h)))), rfl⟩)) hg
theorem tb5 {i : Nat} {w : Cond} (e : tables_1_5[i]? = some w) (hg : goodWord w = true) : w ∈ wsU := wsU_in (List.mem_append_right _ (have h : w ∈ tables_1_5 := List.mem_of_getElem? e; List.mem_append_right _ (List.mem_append_right _ (List.mem_append_right _ (List.mem_append_right _ h))))) hg
theorem ts5 {i n : Nat} {y : MethodName} (e : lw_privs_5[i]? = some (y, n)) (hg : goodWord (Cond.selects y.cls y y) = true) : Cond.selects y.cls y y ∈ wsU := wsU_in (List.mem_append_left _ (List.mem_map.mpr ⟨(y, n), (have h : (y, n) ∈ lw_privs_5 := List.mem_of_getElem? e; List.mem_append_right _ (List.mem_append_right _ (List.mem_append_right _ (List.mem_append_right _ h)))), rfl⟩)) hg
theorem wi_RL : Cond.initialized RL ∈ wsU := tb1 (i := 0) rfl rfl
theorem wi_RX11 : Cond.initialized RX11 ∈ wsU := tb1 (i := 1) rfl rfl
theorem wi_RX1 : Cond.initialized RX1 ∈ wsU := tb1 (i := 2) rfl rfl
theorem wi_RX8 : Cond.initialized RX8 ∈ wsU := tb1 (i := 3) rfl rfl
theorem wi_RX3 : Cond.initialized RX3 ∈ wsU := tb1 (i := 4) rfl rfl
theorem wi_RX10 : Cond.initialized RX10 ∈ wsU := tb1 (i := 5) rfl rfl
theorem wi_RX12 : Cond.initialized RX12 ∈ wsU := tb1 (i := 6) rfl rfl
theorem wi_Throwable : Cond.initialized "java/lang/Throwable" ∈ wsU := tb1 (i := 7) rfl rfl
theorem wi_Exception : Cond.initialized "java/lang/Exception" ∈ wsU := tb1 (i := 8) rfl rfl
theorem wi_RuntimeException : Cond.initialized "java/lang/RuntimeException" ∈ wsU := tb1 (i := 9) rfl rfl
theorem wi_IllegalArgumentException : Cond.initialized "java/lang/IllegalArgumentException" ∈ wsU := tb1 (i := 10) rfl rfl
theorem wi_IllegalStateException : Cond.initialized "java/lang/IllegalStateException" ∈ wsU := tb1 (i := 11) rfl rfl
theorem wi_IndexOutOfBoundsException : Cond.initialized "java/lang/IndexOutOfBoundsException" ∈ wsU := tb1 (i := 12) rfl rfl
theorem wi_RX7 : Cond.initialized RX7 ∈ wsU := tb1 (i := 13) rfl rfl
theorem wi_RX5 : Cond.initialized RX5 ∈ wsU := tb1 (i := 14) rfl rfl
theorem wi_RJ9 : Cond.initialized RJ9 ∈ wsU := tb1 (i := 15) rfl rfl
theorem wi_RX4 : Cond.initialized RX4 ∈ wsU := tb1 (i := 16) rfl rfl
theorem wi_RX0 : Cond.initialized RX0 ∈ wsU := tb1 (i := 17) rfl rfl
theorem wi_RX2 : Cond.initialized RX2 ∈ wsU := tb1 (i := 18) rfl rfl
theorem wi_RJ6 : Cond.initialized RJ6 ∈ wsU := tb1 (i := 19) rfl rfl
theorem wi_RX9 : Cond.initialized RX9 ∈ wsU := tb1 (i := 20) rfl rfl
theorem wi_RX6 : Cond.initialized RX6 ∈ wsU := tb1 (i := 21) rfl rfl
theorem wc_X0_mostBy : Cond.code yX0_mostBy cX0_mostBy 2 (some .int) ∈ wsU := tb2 (i := 218) rfl rfl
theorem wz_X0_mostBy : Cond.static yX0_mostBy ∈ wsU := tb2 (i := 217) rfl rfl
theorem pd_X0_mostBy : yX0_mostBy.cls ≠ "java/lang/invoke/MethodHandle" ∧ yX0_mostBy.cls ≠ "java/lang/invoke/VarHandle" ∧ (parseMethodDescriptor yX0_mostBy.desc).map (fun d => d.parameters.length) = some 2 := by decide +kernel
theorem wc_X0_move : Cond.code yX0_move cX0_move 7 (some .int) ∈ wsU := tb2 (i := 221) rfl rfl
theorem wz_X0_move : Cond.static yX0_move ∈ wsU := tb2 (i := 220) rfl rfl
theorem pd_X0_move : yX0_move.cls ≠ "java/lang/invoke/MethodHandle" ∧ yX0_move.cls ≠ "java/lang/invoke/VarHandle" ∧ (parseMethodDescriptor yX0_move.desc).map (fun d => d.parameters.length) = some 4 := by decide +kernel
theorem wc_X0_aheadOf : Cond.code yX0_aheadOf cX0_aheadOf 4 (some .int) ∈ wsU := tb2 (i := 233) rfl rfl
theorem wz_X0_aheadOf : Cond.static yX0_aheadOf ∈ wsU := tb2 (i := 232) rfl rfl
theorem pd_X0_aheadOf : yX0_aheadOf.cls ≠ "java/lang/invoke/MethodHandle" ∧ yX0_aheadOf.cls ≠ "java/lang/invoke/VarHandle" ∧ (parseMethodDescriptor yX0_aheadOf.desc).map (fun d => d.parameters.length) = some 4 := by decide +kernel
theorem wc_X0_canComplement : Cond.code yX0_canComplement cX0_canComplement 4 (some .boolean) ∈ wsU := tb3 (i := 10) rfl rfl
theorem wz_X0_canComplement : Cond.static yX0_canComplement ∈ wsU := tb3 (i := 9) rfl rfl
theorem pd_X0_canComplement : yX0_canComplement.cls ≠ "java/lang/invoke/MethodHandle" ∧ yX0_canComplement.cls ≠ "java/lang/invoke/VarHandle" ∧ (parseMethodDescriptor yX0_canComplement.desc).map (fun d => d.parameters.length) = some 2 := by decide +kernel
theorem wc_X0_complement : Cond.code yX0_complement cX0_complement 5 (some .int) ∈ wsU := tb3 (i := 13) rfl rfl
theorem wz_X0_complement : Cond.static yX0_complement ∈ wsU := tb3 (i := 12) rfl rfl
theorem pd_X0_complement : yX0_complement.cls ≠ "java/lang/invoke/MethodHandle" ∧ yX0_complement.cls ≠ "java/lang/invoke/VarHandle" ∧ (parseMethodDescriptor yX0_complement.desc).map (fun d => d.parameters.length) = some 2 := by decide +kernel
theorem wc_X1_init : Cond.code yX1_init cX1_init 1 none ∈ wsU := tb1 (i := 35) rfl rfl
theorem wj_X1_init : Cond.instanceMethod yX1_init ∈ wsU := tb1 (i := 34) rfl rfl
theorem pd_X1_init : yX1_init.cls ≠ "java/lang/invoke/MethodHandle" ∧ yX1_init.cls ≠ "java/lang/invoke/VarHandle" ∧ (parseMethodDescriptor yX1_init.desc).map (fun d => d.parameters.length) = some 0 := by decide +kernel
theorem wc_X1_begin : Cond.code yX1_begin cX1_begin 3 none ∈ wsU := tb2 (i := 79) rfl rfl
theorem wj_X1_begin : Cond.instanceMethod yX1_begin ∈ wsU := tb2 (i := 77) rfl rfl
theorem wx_X1_begin : Cond.selects RX1 yX1_begin yX1_begin ∈ wsU := tb2 (i := 78) rfl rfl
theorem pd_X1_begin : yX1_begin.cls ≠ "java/lang/invoke/MethodHandle" ∧ yX1_begin.cls ≠ "java/lang/invoke/VarHandle" ∧ (parseMethodDescriptor yX1_begin.desc).map (fun d => d.parameters.length) = some 1 := by decide +kernel
theorem wc_X1_copyFrom : Cond.code yX1_copyFrom cX1_copyFrom 3 none ∈ wsU := tb2 (i := 225) rfl rfl
theorem wj_X1_copyFrom : Cond.instanceMethod yX1_copyFrom ∈ wsU := tb2 (i := 223) rfl rfl
theorem wx_X1_copyFrom : Cond.selects RX1 yX1_copyFrom yX1_copyFrom ∈ wsU := tb2 (i := 224) rfl rfl
theorem pd_X1_copyFrom : yX1_copyFrom.cls ≠ "java/lang/invoke/MethodHandle" ∧ yX1_copyFrom.cls ≠ "java/lang/invoke/VarHandle" ∧ (parseMethodDescriptor yX1_copyFrom.desc).map (fun d => d.parameters.length) = some 1 := by decide +kernel
theorem wc_X1_side : Cond.code yX1_side cX1_side 1 (some .int) ∈ wsU := tb1 (i := 237) rfl rfl
theorem wj_X1_side : Cond.instanceMethod yX1_side ∈ wsU := tb1 (i := 235) rfl rfl
theorem wx_X1_side : Cond.selects RX1 yX1_side yX1_side ∈ wsU := tb1 (i := 236) rfl rfl
theorem pd_X1_side : yX1_side.cls ≠ "java/lang/invoke/MethodHandle" ∧ yX1_side.cls ≠ "java/lang/invoke/VarHandle" ∧ (parseMethodDescriptor yX1_side.desc).map (fun d => d.parameters.length) = some 0 := by decide +kernel
theorem wc_X1_size : Cond.code yX1_size cX1_size 1 (some .int) ∈ wsU := tb2 (i := 1) rfl rfl
theorem wj_X1_size : Cond.instanceMethod yX1_size ∈ wsU := tb1 (i := 239) rfl rfl
theorem wx_X1_size : Cond.selects RX1 yX1_size yX1_size ∈ wsU := tb2 (i := 0) rfl rfl
theorem pd_X1_size : yX1_size.cls ≠ "java/lang/invoke/MethodHandle" ∧ yX1_size.cls ≠ "java/lang/invoke/VarHandle" ∧ (parseMethodDescriptor yX1_size.desc).map (fun d => d.parameters.length) = some 0 := by decide +kernel
theorem wc_X1_placeOf : Cond.code yX1_placeOf cX1_placeOf 3 (some .int) ∈ wsU := tb2 (i := 96) rfl rfl
theorem wj_X1_placeOf : Cond.instanceMethod yX1_placeOf ∈ wsU := tb2 (i := 94) rfl rfl
theorem wx_X1_placeOf : Cond.selects RX1 yX1_placeOf yX1_placeOf ∈ wsU := tb2 (i := 95) rfl rfl
theorem pd_X1_placeOf : yX1_placeOf.cls ≠ "java/lang/invoke/MethodHandle" ∧ yX1_placeOf.cls ≠ "java/lang/invoke/VarHandle" ∧ (parseMethodDescriptor yX1_placeOf.desc).map (fun d => d.parameters.length) = some 2 := by decide +kernel
theorem wc_X1_read : Cond.code yX1_read cX1_read 2 (some .int) ∈ wsU := tb2 (i := 23) rfl rfl
theorem wj_X1_read : Cond.instanceMethod yX1_read ∈ wsU := tb2 (i := 21) rfl rfl
theorem wx_X1_read : Cond.selects RX1 yX1_read yX1_read ∈ wsU := tb2 (i := 22) rfl rfl
theorem pd_X1_read : yX1_read.cls ≠ "java/lang/invoke/MethodHandle" ∧ yX1_read.cls ≠ "java/lang/invoke/VarHandle" ∧ (parseMethodDescriptor yX1_read.desc).map (fun d => d.parameters.length) = some 1 := by decide +kernel
theorem wc_X1_write : Cond.code yX1_write cX1_write 4 (some .int) ∈ wsU := tb2 (i := 101) rfl rfl
theorem wj_X1_write : Cond.instanceMethod yX1_write ∈ wsU := tb2 (i := 99) rfl rfl
theorem wx_X1_write : Cond.selects RX1 yX1_write yX1_write ∈ wsU := tb2 (i := 100) rfl rfl
theorem pd_X1_write : yX1_write.cls ≠ "java/lang/invoke/MethodHandle" ∧ yX1_write.cls ≠ "java/lang/invoke/VarHandle" ∧ (parseMethodDescriptor yX1_write.desc).map (fun d => d.parameters.length) = some 2 := by decide +kernel
theorem wc_X1_countOf : Cond.code yX1_countOf cX1_countOf 4 (some .int) ∈ wsU := tb2 (i := 177) rfl rfl
theorem wj_X1_countOf : Cond.instanceMethod yX1_countOf ∈ wsU := tb2 (i := 175) rfl rfl
theorem wx_X1_countOf : Cond.selects RX1 yX1_countOf yX1_countOf ∈ wsU := tb2 (i := 176) rfl rfl
theorem pd_X1_countOf : yX1_countOf.cls ≠ "java/lang/invoke/MethodHandle" ∧ yX1_countOf.cls ≠ "java/lang/invoke/VarHandle" ∧ (parseMethodDescriptor yX1_countOf.desc).map (fun d => d.parameters.length) = some 1 := by decide +kernel
theorem wc_X1_highest : Cond.code yX1_highest cX1_highest 3 (some .int) ∈ wsU := tb4 (i := 12) rfl rfl
theorem wj_X1_highest : Cond.instanceMethod yX1_highest ∈ wsU := tb4 (i := 10) rfl rfl
theorem wx_X1_highest : Cond.selects RX1 yX1_highest yX1_highest ∈ wsU := tb4 (i := 11) rfl rfl
theorem pd_X1_highest : yX1_highest.cls ≠ "java/lang/invoke/MethodHandle" ∧ yX1_highest.cls ≠ "java/lang/invoke/VarHandle" ∧ (parseMethodDescriptor yX1_highest.desc).map (fun d => d.parameters.length) = some 0 := by decide +kernel
theorem wc_X1_lineSum : Cond.code yX1_lineSum cX1_lineSum 5 (some .int) ∈ wsU := tb2 (i := 169) rfl rfl
theorem wj_X1_lineSum : Cond.instanceMethod yX1_lineSum ∈ wsU := tb2 (i := 167) rfl rfl
theorem wx_X1_lineSum : Cond.selects RX1 yX1_lineSum yX1_lineSum ∈ wsU := tb2 (i := 168) rfl rfl
theorem pd_X1_lineSum : yX1_lineSum.cls ≠ "java/lang/invoke/MethodHandle" ∧ yX1_lineSum.cls ≠ "java/lang/invoke/VarHandle" ∧ (parseMethodDescriptor yX1_lineSum.desc).map (fun d => d.parameters.length) = some 2 := by decide +kernel
theorem wc_X1_linePower : Cond.code yX1_linePower cX1_linePower 6 (some .int) ∈ wsU := tb2 (i := 200) rfl rfl
theorem wj_X1_linePower : Cond.instanceMethod yX1_linePower ∈ wsU := tb2 (i := 198) rfl rfl
theorem wx_X1_linePower : Cond.selects RX1 yX1_linePower yX1_linePower ∈ wsU := tb2 (i := 199) rfl rfl
theorem pd_X1_linePower : yX1_linePower.cls ≠ "java/lang/invoke/MethodHandle" ∧ yX1_linePower.cls ≠ "java/lang/invoke/VarHandle" ∧ (parseMethodDescriptor yX1_linePower.desc).map (fun d => d.parameters.length) = some 2 := by decide +kernel
theorem wc_X2_numberIn : Cond.code yX2_numberIn cX2_numberIn 4 (some .int) ∈ wsU := tb2 (i := 4) rfl rfl
theorem wz_X2_numberIn : Cond.static yX2_numberIn ∈ wsU := tb2 (i := 3) rfl rfl
theorem pd_X2_numberIn : yX2_numberIn.cls ≠ "java/lang/invoke/MethodHandle" ∧ yX2_numberIn.cls ≠ "java/lang/invoke/VarHandle" ∧ (parseMethodDescriptor yX2_numberIn.desc).map (fun d => d.parameters.length) = some 3 := by decide +kernel
theorem wc_X2_areKin : Cond.code yX2_areKin cX2_areKin 3 (some .boolean) ∈ wsU := tb1 (i := 230) rfl rfl
theorem wz_X2_areKin : Cond.static yX2_areKin ∈ wsU := tb1 (i := 229) rfl rfl
theorem pd_X2_areKin : yX2_areKin.cls ≠ "java/lang/invoke/MethodHandle" ∧ yX2_areKin.cls ≠ "java/lang/invoke/VarHandle" ∧ (parseMethodDescriptor yX2_areKin.desc).map (fun d => d.parameters.length) = some 2 := by decide +kernel
theorem wc_X2_countLike : Cond.code yX2_countLike cX2_countLike 3 (some .int) ∈ wsU := tb3 (i := 44) rfl rfl
theorem wz_X2_countLike : Cond.static yX2_countLike ∈ wsU := tb3 (i := 43) rfl rfl
theorem pd_X2_countLike : yX2_countLike.cls ≠ "java/lang/invoke/MethodHandle" ∧ yX2_countLike.cls ≠ "java/lang/invoke/VarHandle" ∧ (parseMethodDescriptor yX2_countLike.desc).map (fun d => d.parameters.length) = some 1 := by decide +kernel
theorem wc_X2_isForm : Cond.code yX2_isForm cX2_isForm 4 (some .boolean) ∈ wsU := tb1 (i := 233) rfl rfl
theorem wz_X2_isForm : Cond.static yX2_isForm ∈ wsU := tb1 (i := 232) rfl rfl
theorem pd_X2_isForm : yX2_isForm.cls ≠ "java/lang/invoke/MethodHandle" ∧ yX2_isForm.cls ≠ "java/lang/invoke/VarHandle" ∧ (parseMethodDescriptor yX2_isForm.desc).map (fun d => d.parameters.length) = some 3 := by decide +kernel
theorem wc_X2_leastOf : Cond.code yX2_leastOf cX2_leastOf 3 (some .int) ∈ wsU := tb3 (i := 30) rfl rfl
theorem wz_X2_leastOf : Cond.static yX2_leastOf ∈ wsU := tb3 (i := 29) rfl rfl
theorem pd_X2_leastOf : yX2_leastOf.cls ≠ "java/lang/invoke/MethodHandle" ∧ yX2_leastOf.cls ≠ "java/lang/invoke/VarHandle" ∧ (parseMethodDescriptor yX2_leastOf.desc).map (fun d => d.parameters.length) = some 1 := by decide +kernel
theorem wc_X2_isLower : Cond.code yX2_isLower cX2_isLower 6 (some .boolean) ∈ wsU := tb3 (i := 33) rfl rfl
theorem wz_X2_isLower : Cond.static yX2_isLower ∈ wsU := tb3 (i := 32) rfl rfl
theorem pd_X2_isLower : yX2_isLower.cls ≠ "java/lang/invoke/MethodHandle" ∧ yX2_isLower.cls ≠ "java/lang/invoke/VarHandle" ∧ (parseMethodDescriptor yX2_isLower.desc).map (fun d => d.parameters.length) = some 3 := by decide +kernel
theorem wc_X3_init : Cond.code yX3_init cX3_init 1 none ∈ wsU := tb1 (i := 99) rfl rfl
theorem wj_X3_init : Cond.instanceMethod yX3_init ∈ wsU := tb1 (i := 98) rfl rfl
theorem pd_X3_init : yX3_init.cls ≠ "java/lang/invoke/MethodHandle" ∧ yX3_init.cls ≠ "java/lang/invoke/VarHandle" ∧ (parseMethodDescriptor yX3_init.desc).map (fun d => d.parameters.length) = some 0 := by decide +kernel
theorem wc_X3_fewestOf : Cond.code yX3_fewestOf cX3_fewestOf 5 (some .int) ∈ wsU := tb3 (i := 181) rfl rfl
theorem wj_X3_fewestOf : Cond.instanceMethod yX3_fewestOf ∈ wsU := tb3 (i := 179) rfl rfl
theorem wx_X3_fewestOf : Cond.selects RX3 yX3_fewestOf yX3_fewestOf ∈ wsU := tb3 (i := 180) rfl rfl
theorem pd_X3_fewestOf : yX3_fewestOf.cls ≠ "java/lang/invoke/MethodHandle" ∧ yX3_fewestOf.cls ≠ "java/lang/invoke/VarHandle" ∧ (parseMethodDescriptor yX3_fewestOf.desc).map (fun d => d.parameters.length) = some 1 := by decide +kernel
theorem wc_X3_differenceOf : Cond.code yX3_differenceOf cX3_differenceOf 4 (some .int) ∈ wsU := tb3 (i := 184) rfl rfl
theorem wz_X3_differenceOf : Cond.static yX3_differenceOf ∈ wsU := tb3 (i := 183) rfl rfl
theorem pd_X3_differenceOf : yX3_differenceOf.cls ≠ "java/lang/invoke/MethodHandle" ∧ yX3_differenceOf.cls ≠ "java/lang/invoke/VarHandle" ∧ (parseMethodDescriptor yX3_differenceOf.desc).map (fun d => d.parameters.length) = some 2 := by decide +kernel
theorem wc_X3_tellsAllApart : Cond.code yX3_tellsAllApart cX3_tellsAllApart 6 (some .boolean) ∈ wsU := tb3 (i := 197) rfl rfl
theorem wj_X3_tellsAllApart : Cond.instanceMethod yX3_tellsAllApart ∈ wsU := tb3 (i := 196) rfl rfl
theorem wx_X3_tellsAllApart : Cond.selects RX3 yX3_tellsAllApart yX3_tellsAllApart ∈ wsU := ts2 (i := 5) (n := 1) (y := yX3_tellsAllApart) rfl rfl
theorem pd_X3_tellsAllApart : yX3_tellsAllApart.cls ≠ "java/lang/invoke/MethodHandle" ∧ yX3_tellsAllApart.cls ≠ "java/lang/invoke/VarHandle" ∧ (parseMethodDescriptor yX3_tellsAllApart.desc).map (fun d => d.parameters.length) = some 1 := by decide +kernel
theorem wc_X4_heldBy : Cond.code yX4_heldBy cX4_heldBy 3 (some .int) ∈ wsU := tb2 (i := 162) rfl rfl
theorem wz_X4_heldBy : Cond.static yX4_heldBy ∈ wsU := tb2 (i := 161) rfl rfl
theorem pd_X4_heldBy : yX4_heldBy.cls ≠ "java/lang/invoke/MethodHandle" ∧ yX4_heldBy.cls ≠ "java/lang/invoke/VarHandle" ∧ (parseMethodDescriptor yX4_heldBy.desc).map (fun d => d.parameters.length) = some 1 := by decide +kernel
theorem wc_X4_isMagic : Cond.code yX4_isMagic cX4_isMagic 2 (some .boolean) ∈ wsU := tb3 (i := 177) rfl rfl
theorem wz_X4_isMagic : Cond.static yX4_isMagic ∈ wsU := tb3 (i := 176) rfl rfl
theorem pd_X4_isMagic : yX4_isMagic.cls ≠ "java/lang/invoke/MethodHandle" ∧ yX4_isMagic.cls ≠ "java/lang/invoke/VarHandle" ∧ (parseMethodDescriptor yX4_isMagic.desc).map (fun d => d.parameters.length) = some 1 := by decide +kernel
theorem wc_X4_isNormal : Cond.code yX4_isNormal cX4_isNormal 2 (some .boolean) ∈ wsU := tb2 (i := 193) rfl rfl
theorem wz_X4_isNormal : Cond.static yX4_isNormal ∈ wsU := tb2 (i := 192) rfl rfl
theorem pd_X4_isNormal : yX4_isNormal.cls ≠ "java/lang/invoke/MethodHandle" ∧ yX4_isNormal.cls ≠ "java/lang/invoke/VarHandle" ∧ (parseMethodDescriptor yX4_isNormal.desc).map (fun d => d.parameters.length) = some 1 := by decide +kernel
theorem wc_X4_holds : Cond.code yX4_holds cX4_holds 3 (some .boolean) ∈ wsU := tb2 (i := 165) rfl rfl
theorem wz_X4_holds : Cond.static yX4_holds ∈ wsU := tb2 (i := 164) rfl rfl
theorem pd_X4_holds : yX4_holds.cls ≠ "java/lang/invoke/MethodHandle" ∧ yX4_holds.cls ≠ "java/lang/invoke/VarHandle" ∧ (parseMethodDescriptor yX4_holds.desc).map (fun d => d.parameters.length) = some 2 := by decide +kernel
theorem wc_X4_areDiagonalsAt : Cond.code yX4_areDiagonalsAt cX4_areDiagonalsAt 2 (some .boolean) ∈ wsU := tb2 (i := 185) rfl rfl
theorem wz_X4_areDiagonalsAt : Cond.static yX4_areDiagonalsAt ∈ wsU := tb2 (i := 184) rfl rfl
theorem pd_X4_areDiagonalsAt : yX4_areDiagonalsAt.cls ≠ "java/lang/invoke/MethodHandle" ∧ yX4_areDiagonalsAt.cls ≠ "java/lang/invoke/VarHandle" ∧ (parseMethodDescriptor yX4_areDiagonalsAt.desc).map (fun d => d.parameters.length) = some 2 := by decide +kernel
theorem wc_X4_areLinesAt : Cond.code yX4_areLinesAt cX4_areLinesAt 4 (some .boolean) ∈ wsU := tb2 (i := 181) rfl rfl
theorem wz_X4_areLinesAt : Cond.static yX4_areLinesAt ∈ wsU := tb2 (i := 180) rfl rfl
theorem pd_X4_areLinesAt : yX4_areLinesAt.cls ≠ "java/lang/invoke/MethodHandle" ∧ yX4_areLinesAt.cls ≠ "java/lang/invoke/VarHandle" ∧ (parseMethodDescriptor yX4_areLinesAt.desc).map (fun d => d.parameters.length) = some 3 := by decide +kernel
theorem wc_X4_areOppositesAlike : Cond.code yX4_areOppositesAlike cX4_areOppositesAlike 4 (some .boolean) ∈ wsU := tb2 (i := 188) rfl rfl
theorem wz_X4_areOppositesAlike : Cond.static yX4_areOppositesAlike ∈ wsU := tb2 (i := 187) rfl rfl
theorem pd_X4_areOppositesAlike : yX4_areOppositesAlike.cls ≠ "java/lang/invoke/MethodHandle" ∧ yX4_areOppositesAlike.cls ≠ "java/lang/invoke/VarHandle" ∧ (parseMethodDescriptor yX4_areOppositesAlike.desc).map (fun d => d.parameters.length) = some 1 := by decide +kernel
theorem wc_X4_arePowersAlike : Cond.code yX4_arePowersAlike cX4_arePowersAlike 3 (some .boolean) ∈ wsU := tb2 (i := 196) rfl rfl
theorem wz_X4_arePowersAlike : Cond.static yX4_arePowersAlike ∈ wsU := tb2 (i := 195) rfl rfl
theorem pd_X4_arePowersAlike : yX4_arePowersAlike.cls ≠ "java/lang/invoke/MethodHandle" ∧ yX4_arePowersAlike.cls ≠ "java/lang/invoke/VarHandle" ∧ (parseMethodDescriptor yX4_arePowersAlike.desc).map (fun d => d.parameters.length) = some 1 := by decide +kernel
theorem wc_X5_holdsFor : Cond.code yX5_holdsFor cX5_holdsFor 2 (some .boolean) ∈ wsU := tb2 (i := 119) rfl rfl
theorem wz_X5_holdsFor : Cond.static yX5_holdsFor ∈ wsU := tb2 (i := 118) rfl rfl
theorem pd_X5_holdsFor : yX5_holdsFor.cls ≠ "java/lang/invoke/MethodHandle" ∧ yX5_holdsFor.cls ≠ "java/lang/invoke/VarHandle" ∧ (parseMethodDescriptor yX5_holdsFor.desc).map (fun d => d.parameters.length) = some 2 := by decide +kernel
theorem wc_X5_lay : Cond.code yX5_lay cX5_lay 3 none ∈ wsU := tb2 (i := 126) rfl rfl
theorem wz_X5_lay : Cond.static yX5_lay ∈ wsU := tb2 (i := 125) rfl rfl
theorem pd_X5_lay : yX5_lay.cls ≠ "java/lang/invoke/MethodHandle" ∧ yX5_lay.cls ≠ "java/lang/invoke/VarHandle" ∧ (parseMethodDescriptor yX5_lay.desc).map (fun d => d.parameters.length) = some 3 := by decide +kernel
theorem wc_X5_laySiege : Cond.code yX5_laySiege cX5_laySiege 7 none ∈ wsU := tb2 (i := 129) rfl rfl
theorem wz_X5_laySiege : Cond.static yX5_laySiege ∈ wsU := tb2 (i := 128) rfl rfl
theorem pd_X5_laySiege : yX5_laySiege.cls ≠ "java/lang/invoke/MethodHandle" ∧ yX5_laySiege.cls ≠ "java/lang/invoke/VarHandle" ∧ (parseMethodDescriptor yX5_laySiege.desc).map (fun d => d.parameters.length) = some 1 := by decide +kernel
theorem wc_X5_layCross : Cond.code yX5_layCross cX5_layCross 6 none ∈ wsU := tb2 (i := 143) rfl rfl
theorem wz_X5_layCross : Cond.static yX5_layCross ∈ wsU := tb2 (i := 142) rfl rfl
theorem pd_X5_layCross : yX5_layCross.cls ≠ "java/lang/invoke/MethodHandle" ∧ yX5_layCross.cls ≠ "java/lang/invoke/VarHandle" ∧ (parseMethodDescriptor yX5_layCross.desc).map (fun d => d.parameters.length) = some 1 := by decide +kernel
theorem wc_X5_layDigits : Cond.code yX5_layDigits cX5_layDigits 6 none ∈ wsU := tb2 (i := 148) rfl rfl
theorem wz_X5_layDigits : Cond.static yX5_layDigits ∈ wsU := tb2 (i := 147) rfl rfl
theorem pd_X5_layDigits : yX5_layDigits.cls ≠ "java/lang/invoke/MethodHandle" ∧ yX5_layDigits.cls ≠ "java/lang/invoke/VarHandle" ∧ (parseMethodDescriptor yX5_layDigits.desc).map (fun d => d.parameters.length) = some 1 := by decide +kernel
theorem wc_X5_layLux : Cond.code yX5_layLux cX5_layLux 8 none ∈ wsU := tb2 (i := 151) rfl rfl
theorem wz_X5_layLux : Cond.static yX5_layLux ∈ wsU := tb2 (i := 150) rfl rfl
theorem pd_X5_layLux : yX5_layLux.cls ≠ "java/lang/invoke/MethodHandle" ∧ yX5_layLux.cls ≠ "java/lang/invoke/VarHandle" ∧ (parseMethodDescriptor yX5_layLux.desc).map (fun d => d.parameters.length) = some 2 := by decide +kernel
theorem wc_X6_areOrthogonal : Cond.code yX6_areOrthogonal cX6_areOrthogonal 4 (some .boolean) ∈ wsU := tb3 (i := 231) rfl rfl
theorem wz_X6_areOrthogonal : Cond.static yX6_areOrthogonal ∈ wsU := tb3 (i := 230) rfl rfl
theorem pd_X6_areOrthogonal : yX6_areOrthogonal.cls ≠ "java/lang/invoke/MethodHandle" ∧ yX6_areOrthogonal.cls ≠ "java/lang/invoke/VarHandle" ∧ (parseMethodDescriptor yX6_areOrthogonal.desc).map (fun d => d.parameters.length) = some 2 := by decide +kernel
theorem wc_X6_canStack : Cond.code yX6_canStack cX6_canStack 3 (some .boolean) ∈ wsU := tb4 (i := 3) rfl rfl
theorem wz_X6_canStack : Cond.static yX6_canStack ∈ wsU := tb4 (i := 2) rfl rfl
theorem pd_X6_canStack : yX6_canStack.cls ≠ "java/lang/invoke/MethodHandle" ∧ yX6_canStack.cls ≠ "java/lang/invoke/VarHandle" ∧ (parseMethodDescriptor yX6_canStack.desc).map (fun d => d.parameters.length) = some 2 := by decide +kernel
theorem wc_X6_layStack : Cond.code yX6_layStack cX6_layStack 4 none ∈ wsU := tb4 (i := 16) rfl rfl
theorem wz_X6_layStack : Cond.static yX6_layStack ∈ wsU := tb4 (i := 15) rfl rfl
theorem pd_X6_layStack : yX6_layStack.cls ≠ "java/lang/invoke/MethodHandle" ∧ yX6_layStack.cls ≠ "java/lang/invoke/VarHandle" ∧ (parseMethodDescriptor yX6_layStack.desc).map (fun d => d.parameters.length) = some 3 := by decide +kernel
theorem wc_X6_canMultiply : Cond.code yX6_canMultiply cX6_canMultiply 2 (some .boolean) ∈ wsU := tb4 (i := 27) rfl rfl
theorem wz_X6_canMultiply : Cond.static yX6_canMultiply ∈ wsU := tb4 (i := 26) rfl rfl
theorem pd_X6_canMultiply : yX6_canMultiply.cls ≠ "java/lang/invoke/MethodHandle" ∧ yX6_canMultiply.cls ≠ "java/lang/invoke/VarHandle" ∧ (parseMethodDescriptor yX6_canMultiply.desc).map (fun d => d.parameters.length) = some 2 := by decide +kernel
theorem wc_X6_layProduct : Cond.code yX6_layProduct cX6_layProduct 9 none ∈ wsU := tb4 (i := 33) rfl rfl
theorem wz_X6_layProduct : Cond.static yX6_layProduct ∈ wsU := tb4 (i := 32) rfl rfl
theorem pd_X6_layProduct : yX6_layProduct.cls ≠ "java/lang/invoke/MethodHandle" ∧ yX6_layProduct.cls ≠ "java/lang/invoke/VarHandle" ∧ (parseMethodDescriptor yX6_layProduct.desc).map (fun d => d.parameters.length) = some 3 := by decide +kernel
theorem wc_X6_multiplied : Cond.code yX6_multiplied cX6_multiplied 3 (some .int) ∈ wsU := tb4 (i := 30) rfl rfl
theorem wz_X6_multiplied : Cond.static yX6_multiplied ∈ wsU := tb4 (i := 29) rfl rfl
theorem pd_X6_multiplied : yX6_multiplied.cls ≠ "java/lang/invoke/MethodHandle" ∧ yX6_multiplied.cls ≠ "java/lang/invoke/VarHandle" ∧ (parseMethodDescriptor yX6_multiplied.desc).map (fun d => d.parameters.length) = some 3 := by decide +kernel
theorem wc_X6_areBothFull : Cond.code yX6_areBothFull cX6_areBothFull 2 (some .boolean) ∈ wsU := tb4 (i := 7) rfl rfl
theorem wz_X6_areBothFull : Cond.static yX6_areBothFull ∈ wsU := tb4 (i := 6) rfl rfl
theorem pd_X6_areBothFull : yX6_areBothFull.cls ≠ "java/lang/invoke/MethodHandle" ∧ yX6_areBothFull.cls ≠ "java/lang/invoke/VarHandle" ∧ (parseMethodDescriptor yX6_areBothFull.desc).map (fun d => d.parameters.length) = some 2 := by decide +kernel
theorem wc_X7_of : Cond.code yX7_of cX7_of 3 (some .int) ∈ wsU := tb2 (i := 16) rfl rfl
theorem wz_X7_of : Cond.static yX7_of ∈ wsU := tb2 (i := 15) rfl rfl
theorem pd_X7_of : yX7_of.cls ≠ "java/lang/invoke/MethodHandle" ∧ yX7_of.cls ≠ "java/lang/invoke/VarHandle" ∧ (parseMethodDescriptor yX7_of.desc).map (fun d => d.parameters.length) = some 3 := by decide +kernel
theorem wc_X7_rowOf : Cond.code yX7_rowOf cX7_rowOf 2 (some .int) ∈ wsU := tb2 (i := 10) rfl rfl
theorem wz_X7_rowOf : Cond.static yX7_rowOf ∈ wsU := tb2 (i := 9) rfl rfl
theorem pd_X7_rowOf : yX7_rowOf.cls ≠ "java/lang/invoke/MethodHandle" ∧ yX7_rowOf.cls ≠ "java/lang/invoke/VarHandle" ∧ (parseMethodDescriptor yX7_rowOf.desc).map (fun d => d.parameters.length) = some 2 := by decide +kernel
theorem wc_X7_columnOf : Cond.code yX7_columnOf cX7_columnOf 2 (some .int) ∈ wsU := tb2 (i := 13) rfl rfl
theorem wz_X7_columnOf : Cond.static yX7_columnOf ∈ wsU := tb2 (i := 12) rfl rfl
theorem pd_X7_columnOf : yX7_columnOf.cls ≠ "java/lang/invoke/MethodHandle" ∧ yX7_columnOf.cls ≠ "java/lang/invoke/VarHandle" ∧ (parseMethodDescriptor yX7_columnOf.desc).map (fun d => d.parameters.length) = some 2 := by decide +kernel
theorem wc_X7_wrap : Cond.code yX7_wrap cX7_wrap 2 (some .int) ∈ wsU := tb2 (i := 136) rfl rfl
theorem wz_X7_wrap : Cond.static yX7_wrap ∈ wsU := tb2 (i := 135) rfl rfl
theorem pd_X7_wrap : yX7_wrap.cls ≠ "java/lang/invoke/MethodHandle" ∧ yX7_wrap.cls ≠ "java/lang/invoke/VarHandle" ∧ (parseMethodDescriptor yX7_wrap.desc).map (fun d => d.parameters.length) = some 2 := by decide +kernel
theorem wc_X7_onLine : Cond.code yX7_onLine cX7_onLine 4 (some .int) ∈ wsU := tb2 (i := 172) rfl rfl
theorem wz_X7_onLine : Cond.static yX7_onLine ∈ wsU := tb2 (i := 171) rfl rfl
theorem pd_X7_onLine : yX7_onLine.cls ≠ "java/lang/invoke/MethodHandle" ∧ yX7_onLine.cls ≠ "java/lang/invoke/VarHandle" ∧ (parseMethodDescriptor yX7_onLine.desc).map (fun d => d.parameters.length) = some 4 := by decide +kernel
theorem wc_X7_aheadOfTurn : Cond.code yX7_aheadOfTurn cX7_aheadOfTurn 6 (some .int) ∈ wsU := tb2 (i := 7) rfl rfl
theorem wz_X7_aheadOfTurn : Cond.static yX7_aheadOfTurn ∈ wsU := tb2 (i := 6) rfl rfl
theorem pd_X7_aheadOfTurn : yX7_aheadOfTurn.cls ≠ "java/lang/invoke/MethodHandle" ∧ yX7_aheadOfTurn.cls ≠ "java/lang/invoke/VarHandle" ∧ (parseMethodDescriptor yX7_aheadOfTurn.desc).map (fun d => d.parameters.length) = some 3 := by decide +kernel
theorem wc_X7_aheadOfFlip : Cond.code yX7_aheadOfFlip cX7_aheadOfFlip 3 (some .int) ∈ wsU := tb2 (i := 19) rfl rfl
theorem wz_X7_aheadOfFlip : Cond.static yX7_aheadOfFlip ∈ wsU := tb2 (i := 18) rfl rfl
theorem pd_X7_aheadOfFlip : yX7_aheadOfFlip.cls ≠ "java/lang/invoke/MethodHandle" ∧ yX7_aheadOfFlip.cls ≠ "java/lang/invoke/VarHandle" ∧ (parseMethodDescriptor yX7_aheadOfFlip.desc).map (fun d => d.parameters.length) = some 3 := by decide +kernel
theorem wc_X7_aheadOfShift : Cond.code yX7_aheadOfShift cX7_aheadOfShift 4 (some .int) ∈ wsU := tb2 (i := 238) rfl rfl
theorem wz_X7_aheadOfShift : Cond.static yX7_aheadOfShift ∈ wsU := tb2 (i := 237) rfl rfl
theorem pd_X7_aheadOfShift : yX7_aheadOfShift.cls ≠ "java/lang/invoke/MethodHandle" ∧ yX7_aheadOfShift.cls ≠ "java/lang/invoke/VarHandle" ∧ (parseMethodDescriptor yX7_aheadOfShift.desc).map (fun d => d.parameters.length) = some 4 := by decide +kernel
theorem wc_X7_aheadOfPairs : Cond.code yX7_aheadOfPairs cX7_aheadOfPairs 3 (some .int) ∈ wsU := tb3 (i := 2) rfl rfl
theorem wz_X7_aheadOfPairs : Cond.static yX7_aheadOfPairs ∈ wsU := tb3 (i := 1) rfl rfl
theorem pd_X7_aheadOfPairs : yX7_aheadOfPairs.cls ≠ "java/lang/invoke/MethodHandle" ∧ yX7_aheadOfPairs.cls ≠ "java/lang/invoke/VarHandle" ∧ (parseMethodDescriptor yX7_aheadOfPairs.desc).map (fun d => d.parameters.length) = some 3 := by decide +kernel
theorem wc_X7_swapped : Cond.code yX7_swapped cX7_swapped 4 (some .int) ∈ wsU := tb3 (i := 5) rfl rfl
theorem wz_X7_swapped : Cond.static yX7_swapped ∈ wsU := tb3 (i := 4) rfl rfl
theorem pd_X7_swapped : yX7_swapped.cls ≠ "java/lang/invoke/MethodHandle" ∧ yX7_swapped.cls ≠ "java/lang/invoke/VarHandle" ∧ (parseMethodDescriptor yX7_swapped.desc).map (fun d => d.parameters.length) = some 3 := by decide +kernel
theorem wc_X8_init : Cond.code yX8_init cX8_init 1 none ∈ wsU := tb1 (i := 49) rfl rfl
theorem wj_X8_init : Cond.instanceMethod yX8_init ∈ wsU := tb1 (i := 48) rfl rfl
theorem pd_X8_init : yX8_init.cls ≠ "java/lang/invoke/MethodHandle" ∧ yX8_init.cls ≠ "java/lang/invoke/VarHandle" ∧ (parseMethodDescriptor yX8_init.desc).map (fun d => d.parameters.length) = some 0 := by decide +kernel
theorem wc_X8_load : Cond.code yX8_load cX8_load 4 none ∈ wsU := tb3 (i := 59) rfl rfl
theorem wj_X8_load : Cond.instanceMethod yX8_load ∈ wsU := tb3 (i := 57) rfl rfl
theorem wx_X8_load : Cond.selects RX8 yX8_load yX8_load ∈ wsU := tb3 (i := 58) rfl rfl
theorem pd_X8_load : yX8_load.cls ≠ "java/lang/invoke/MethodHandle" ∧ yX8_load.cls ≠ "java/lang/invoke/VarHandle" ∧ (parseMethodDescriptor yX8_load.desc).map (fun d => d.parameters.length) = some 1 := by decide +kernel
theorem wc_X8_begin : Cond.code yX8_begin cX8_begin 3 none ∈ wsU := tb3 (i := 64) rfl rfl
theorem wj_X8_begin : Cond.instanceMethod yX8_begin ∈ wsU := tb3 (i := 63) rfl rfl
theorem wx_X8_begin : Cond.selects RX8 yX8_begin yX8_begin ∈ wsU := ts1 (i := 5) (n := 14) (y := yX8_begin) rfl rfl
theorem pd_X8_begin : yX8_begin.cls ≠ "java/lang/invoke/MethodHandle" ∧ yX8_begin.cls ≠ "java/lang/invoke/VarHandle" ∧ (parseMethodDescriptor yX8_begin.desc).map (fun d => d.parameters.length) = some 1 := by decide +kernel
theorem wc_X8_lineThrough : Cond.code yX8_lineThrough cX8_lineThrough 5 (some .int) ∈ wsU := tb3 (i := 68) rfl rfl
theorem wj_X8_lineThrough : Cond.instanceMethod yX8_lineThrough ∈ wsU := tb3 (i := 67) rfl rfl
theorem wx_X8_lineThrough : Cond.selects RX8 yX8_lineThrough yX8_lineThrough ∈ wsU := ts1 (i := 6) (n := 14) (y := yX8_lineThrough) rfl rfl
theorem pd_X8_lineThrough : yX8_lineThrough.cls ≠ "java/lang/invoke/MethodHandle" ∧ yX8_lineThrough.cls ≠ "java/lang/invoke/VarHandle" ∧ (parseMethodDescriptor yX8_lineThrough.desc).map (fun d => d.parameters.length) = some 2 := by decide +kernel
theorem wc_X8_addEmpty : Cond.code yX8_addEmpty cX8_addEmpty 2 none ∈ wsU := tb3 (i := 76) rfl rfl
theorem wj_X8_addEmpty : Cond.instanceMethod yX8_addEmpty ∈ wsU := tb3 (i := 75) rfl rfl
theorem wx_X8_addEmpty : Cond.selects RX8 yX8_addEmpty yX8_addEmpty ∈ wsU := ts1 (i := 7) (n := 14) (y := yX8_addEmpty) rfl rfl
theorem pd_X8_addEmpty : yX8_addEmpty.cls ≠ "java/lang/invoke/MethodHandle" ∧ yX8_addEmpty.cls ≠ "java/lang/invoke/VarHandle" ∧ (parseMethodDescriptor yX8_addEmpty.desc).map (fun d => d.parameters.length) = some 1 := by decide +kernel
theorem wc_X8_countAll : Cond.code yX8_countAll cX8_countAll 1 (some .int) ∈ wsU := tb3 (i := 100) rfl rfl
theorem wj_X8_countAll : Cond.instanceMethod yX8_countAll ∈ wsU := tb3 (i := 98) rfl rfl
theorem wx_X8_countAll : Cond.selects RX8 yX8_countAll yX8_countAll ∈ wsU := tb3 (i := 99) rfl rfl
theorem pd_X8_countAll : yX8_countAll.cls ≠ "java/lang/invoke/MethodHandle" ∧ yX8_countAll.cls ≠ "java/lang/invoke/VarHandle" ∧ (parseMethodDescriptor yX8_countAll.desc).map (fun d => d.parameters.length) = some 0 := by decide +kernel
theorem wc_X8_numberIn : Cond.code yX8_numberIn cX8_numberIn 3 (some .int) ∈ wsU := tb3 (i := 145) rfl rfl
theorem wj_X8_numberIn : Cond.instanceMethod yX8_numberIn ∈ wsU := tb3 (i := 143) rfl rfl
theorem wx_X8_numberIn : Cond.selects RX8 yX8_numberIn yX8_numberIn ∈ wsU := tb3 (i := 144) rfl rfl
theorem pd_X8_numberIn : yX8_numberIn.cls ≠ "java/lang/invoke/MethodHandle" ∧ yX8_numberIn.cls ≠ "java/lang/invoke/VarHandle" ∧ (parseMethodDescriptor yX8_numberIn.desc).map (fun d => d.parameters.length) = some 2 := by decide +kernel
theorem wc_X8_seek : Cond.code yX8_seek cX8_seek 3 none ∈ wsU := tb3 (i := 104) rfl rfl
theorem wj_X8_seek : Cond.instanceMethod yX8_seek ∈ wsU := tb3 (i := 103) rfl rfl
theorem wx_X8_seek : Cond.selects RX8 yX8_seek yX8_seek ∈ wsU := ts1 (i := 13) (n := 14) (y := yX8_seek) rfl rfl
theorem pd_X8_seek : yX8_seek.cls ≠ "java/lang/invoke/MethodHandle" ∧ yX8_seek.cls ≠ "java/lang/invoke/VarHandle" ∧ (parseMethodDescriptor yX8_seek.desc).map (fun d => d.parameters.length) = some 2 := by decide +kernel
theorem wc_X8_fillFrom : Cond.code yX8_fillFrom cX8_fillFrom 5 none ∈ wsU := tb3 (i := 111) rfl rfl
theorem wz_X8_fillFrom : Cond.static yX8_fillFrom ∈ wsU := tb3 (i := 110) rfl rfl
theorem pd_X8_fillFrom : yX8_fillFrom.cls ≠ "java/lang/invoke/MethodHandle" ∧ yX8_fillFrom.cls ≠ "java/lang/invoke/VarHandle" ∧ (parseMethodDescriptor yX8_fillFrom.desc).map (fun d => d.parameters.length) = some 2 := by decide +kernel
theorem wc_X8_meet : Cond.code yX8_meet cX8_meet 1 none ∈ wsU := tb3 (i := 115) rfl rfl
theorem wj_X8_meet : Cond.instanceMethod yX8_meet ∈ wsU := tb3 (i := 114) rfl rfl
theorem wx_X8_meet : Cond.selects RX8 yX8_meet yX8_meet ∈ wsU := ts1 (i := 15) (n := 14) (y := yX8_meet) rfl rfl
theorem pd_X8_meet : yX8_meet.cls ≠ "java/lang/invoke/MethodHandle" ∧ yX8_meet.cls ≠ "java/lang/invoke/VarHandle" ∧ (parseMethodDescriptor yX8_meet.desc).map (fun d => d.parameters.length) = some 0 := by decide +kernel
theorem wc_X8_estimateFrom : Cond.code yX8_estimateFrom cX8_estimateFrom 7 (some .long) ∈ wsU := tb3 (i := 157) rfl rfl
theorem wj_X8_estimateFrom : Cond.instanceMethod yX8_estimateFrom ∈ wsU := tb3 (i := 155) rfl rfl
theorem wx_X8_estimateFrom : Cond.selects RX8 yX8_estimateFrom yX8_estimateFrom ∈ wsU := tb3 (i := 156) rfl rfl
theorem pd_X8_estimateFrom : yX8_estimateFrom.cls ≠ "java/lang/invoke/MethodHandle" ∧ yX8_estimateFrom.cls ≠ "java/lang/invoke/VarHandle" ∧ (parseMethodDescriptor yX8_estimateFrom.desc).map (fun d => d.parameters.length) = some 1 := by decide +kernel
theorem wc_X8_countChoices : Cond.code yX8_countChoices cX8_countChoices 5 (some .int) ∈ wsU := tb3 (i := 161) rfl rfl
theorem wj_X8_countChoices : Cond.instanceMethod yX8_countChoices ∈ wsU := tb3 (i := 160) rfl rfl
theorem wx_X8_countChoices : Cond.selects RX8 yX8_countChoices yX8_countChoices ∈ wsU := ts2 (i := 3) (n := 14) (y := yX8_countChoices) rfl rfl
theorem pd_X8_countChoices : yX8_countChoices.cls ≠ "java/lang/invoke/MethodHandle" ∧ yX8_countChoices.cls ≠ "java/lang/invoke/VarHandle" ∧ (parseMethodDescriptor yX8_countChoices.desc).map (fun d => d.parameters.length) = some 1 := by decide +kernel
theorem wc_X8_choiceAt : Cond.code yX8_choiceAt cX8_choiceAt 6 (some .int) ∈ wsU := tb3 (i := 166) rfl rfl
theorem wj_X8_choiceAt : Cond.instanceMethod yX8_choiceAt ∈ wsU := tb3 (i := 165) rfl rfl
theorem wx_X8_choiceAt : Cond.selects RX8 yX8_choiceAt yX8_choiceAt ∈ wsU := ts2 (i := 4) (n := 14) (y := yX8_choiceAt) rfl rfl
theorem pd_X8_choiceAt : yX8_choiceAt.cls ≠ "java/lang/invoke/MethodHandle" ∧ yX8_choiceAt.cls ≠ "java/lang/invoke/VarHandle" ∧ (parseMethodDescriptor yX8_choiceAt.desc).map (fun d => d.parameters.length) = some 2 := by decide +kernel
theorem wc_X8_fits : Cond.code yX8_fits cX8_fits 2 (some .boolean) ∈ wsU := tb3 (i := 108) rfl rfl
theorem wj_X8_fits : Cond.instanceMethod yX8_fits ∈ wsU := tb3 (i := 107) rfl rfl
theorem wx_X8_fits : Cond.selects RX8 yX8_fits yX8_fits ∈ wsU := ts1 (i := 14) (n := 14) (y := yX8_fits) rfl rfl
theorem pd_X8_fits : yX8_fits.cls ≠ "java/lang/invoke/MethodHandle" ∧ yX8_fits.cls ≠ "java/lang/invoke/VarHandle" ∧ (parseMethodDescriptor yX8_fits.desc).map (fun d => d.parameters.length) = some 0 := by decide +kernel
theorem wc_X8_lowestAt : Cond.code yX8_lowestAt cX8_lowestAt 5 (some .int) ∈ wsU := tb3 (i := 126) rfl rfl
theorem wj_X8_lowestAt : Cond.instanceMethod yX8_lowestAt ∈ wsU := tb3 (i := 125) rfl rfl
theorem wx_X8_lowestAt : Cond.selects RX8 yX8_lowestAt yX8_lowestAt ∈ wsU := ts2 (i := 1) (n := 14) (y := yX8_lowestAt) rfl rfl
theorem pd_X8_lowestAt : yX8_lowestAt.cls ≠ "java/lang/invoke/MethodHandle" ∧ yX8_lowestAt.cls ≠ "java/lang/invoke/VarHandle" ∧ (parseMethodDescriptor yX8_lowestAt.desc).map (fun d => d.parameters.length) = some 1 := by decide +kernel
theorem wc_X8_highestAt : Cond.code yX8_highestAt cX8_highestAt 6 (some .int) ∈ wsU := tb3 (i := 119) rfl rfl
theorem wj_X8_highestAt : Cond.instanceMethod yX8_highestAt ∈ wsU := tb3 (i := 118) rfl rfl
theorem wx_X8_highestAt : Cond.selects RX8 yX8_highestAt yX8_highestAt ∈ wsU := ts2 (i := 0) (n := 14) (y := yX8_highestAt) rfl rfl
theorem pd_X8_highestAt : yX8_highestAt.cls ≠ "java/lang/invoke/MethodHandle" ∧ yX8_highestAt.cls ≠ "java/lang/invoke/VarHandle" ∧ (parseMethodDescriptor yX8_highestAt.desc).map (fun d => d.parameters.length) = some 1 := by decide +kernel
theorem wc_X8_lay : Cond.code yX8_lay cX8_lay 3 none ∈ wsU := tb3 (i := 84) rfl rfl
theorem wj_X8_lay : Cond.instanceMethod yX8_lay ∈ wsU := tb3 (i := 83) rfl rfl
theorem wx_X8_lay : Cond.selects RX8 yX8_lay yX8_lay ∈ wsU := ts1 (i := 9) (n := 14) (y := yX8_lay) rfl rfl
theorem pd_X8_lay : yX8_lay.cls ≠ "java/lang/invoke/MethodHandle" ∧ yX8_lay.cls ≠ "java/lang/invoke/VarHandle" ∧ (parseMethodDescriptor yX8_lay.desc).map (fun d => d.parameters.length) = some 2 := by decide +kernel
theorem wc_X8_lift : Cond.code yX8_lift cX8_lift 3 none ∈ wsU := tb3 (i := 133) rfl rfl
theorem wj_X8_lift : Cond.instanceMethod yX8_lift ∈ wsU := tb3 (i := 132) rfl rfl
theorem wx_X8_lift : Cond.selects RX8 yX8_lift yX8_lift ∈ wsU := ts2 (i := 2) (n := 14) (y := yX8_lift) rfl rfl
theorem pd_X8_lift : yX8_lift.cls ≠ "java/lang/invoke/MethodHandle" ∧ yX8_lift.cls ≠ "java/lang/invoke/VarHandle" ∧ (parseMethodDescriptor yX8_lift.desc).map (fun d => d.parameters.length) = some 2 := by decide +kernel
theorem wc_X8_tally : Cond.code yX8_tally cX8_tally 6 none ∈ wsU := tb3 (i := 88) rfl rfl
theorem wj_X8_tally : Cond.instanceMethod yX8_tally ∈ wsU := tb3 (i := 87) rfl rfl
theorem wx_X8_tally : Cond.selects RX8 yX8_tally yX8_tally ∈ wsU := ts1 (i := 10) (n := 14) (y := yX8_tally) rfl rfl
theorem pd_X8_tally : yX8_tally.cls ≠ "java/lang/invoke/MethodHandle" ∧ yX8_tally.cls ≠ "java/lang/invoke/VarHandle" ∧ (parseMethodDescriptor yX8_tally.desc).map (fun d => d.parameters.length) = some 3 := by decide +kernel
theorem wc_X8_lineAt : Cond.code yX8_lineAt cX8_lineAt 4 (some .int) ∈ wsU := tb3 (i := 92) rfl rfl
theorem wj_X8_lineAt : Cond.instanceMethod yX8_lineAt ∈ wsU := tb3 (i := 91) rfl rfl
theorem wx_X8_lineAt : Cond.selects RX8 yX8_lineAt yX8_lineAt ∈ wsU := ts1 (i := 11) (n := 14) (y := yX8_lineAt) rfl rfl
theorem pd_X8_lineAt : yX8_lineAt.cls ≠ "java/lang/invoke/MethodHandle" ∧ yX8_lineAt.cls ≠ "java/lang/invoke/VarHandle" ∧ (parseMethodDescriptor yX8_lineAt.desc).map (fun d => d.parameters.length) = some 2 := by decide +kernel
theorem wc_X8_isLine : Cond.code yX8_isLine cX8_isLine 2 (some .boolean) ∈ wsU := tb3 (i := 96) rfl rfl
theorem wj_X8_isLine : Cond.instanceMethod yX8_isLine ∈ wsU := tb3 (i := 95) rfl rfl
theorem wx_X8_isLine : Cond.selects RX8 yX8_isLine yX8_isLine ∈ wsU := ts1 (i := 12) (n := 14) (y := yX8_isLine) rfl rfl
theorem pd_X8_isLine : yX8_isLine.cls ≠ "java/lang/invoke/MethodHandle" ∧ yX8_isLine.cls ≠ "java/lang/invoke/VarHandle" ∧ (parseMethodDescriptor yX8_isLine.desc).map (fun d => d.parameters.length) = some 1 := by decide +kernel
theorem wc_X8_isFree : Cond.code yX8_isFree cX8_isFree 2 (some .boolean) ∈ wsU := tb3 (i := 80) rfl rfl
theorem wj_X8_isFree : Cond.instanceMethod yX8_isFree ∈ wsU := tb3 (i := 79) rfl rfl
theorem wx_X8_isFree : Cond.selects RX8 yX8_isFree yX8_isFree ∈ wsU := ts1 (i := 8) (n := 14) (y := yX8_isFree) rfl rfl
theorem pd_X8_isFree : yX8_isFree.cls ≠ "java/lang/invoke/MethodHandle" ∧ yX8_isFree.cls ≠ "java/lang/invoke/VarHandle" ∧ (parseMethodDescriptor yX8_isFree.desc).map (fun d => d.parameters.length) = some 1 := by decide +kernel
theorem wc_X9_tell : Cond.code yX9_tell cX9_tell 5 (some .int) ∈ wsU := tb3 (i := 208) rfl rfl
theorem wz_X9_tell : Cond.static yX9_tell ∈ wsU := tb3 (i := 207) rfl rfl
theorem pd_X9_tell : yX9_tell.cls ≠ "java/lang/invoke/MethodHandle" ∧ yX9_tell.cls ≠ "java/lang/invoke/VarHandle" ∧ (parseMethodDescriptor yX9_tell.desc).map (fun d => d.parameters.length) = some 2 := by decide +kernel
theorem wc_X9_tellOfOnePoint : Cond.code yX9_tellOfOnePoint cX9_tellOfOnePoint 2 (some .int) ∈ wsU := tb3 (i := 213) rfl rfl
theorem wz_X9_tellOfOnePoint : Cond.static yX9_tellOfOnePoint ∈ wsU := tb3 (i := 212) rfl rfl
theorem pd_X9_tellOfOnePoint : yX9_tellOfOnePoint.cls ≠ "java/lang/invoke/MethodHandle" ∧ yX9_tellOfOnePoint.cls ≠ "java/lang/invoke/VarHandle" ∧ (parseMethodDescriptor yX9_tellOfOnePoint.desc).map (fun d => d.parameters.length) = some 2 := by decide +kernel
theorem wc_X9_mendingAt : Cond.code yX9_mendingAt cX9_mendingAt 7 (some .int) ∈ wsU := tb3 (i := 217) rfl rfl
theorem wz_X9_mendingAt : Cond.static yX9_mendingAt ∈ wsU := tb3 (i := 216) rfl rfl
theorem pd_X9_mendingAt : yX9_mendingAt.cls ≠ "java/lang/invoke/MethodHandle" ∧ yX9_mendingAt.cls ≠ "java/lang/invoke/VarHandle" ∧ (parseMethodDescriptor yX9_mendingAt.desc).map (fun d => d.parameters.length) = some 2 := by decide +kernel
theorem wc_X10_init : Cond.code yX10_init cX10_init 1 none ∈ wsU := tb1 (i := 109) rfl rfl
theorem wj_X10_init : Cond.instanceMethod yX10_init ∈ wsU := tb1 (i := 108) rfl rfl
theorem pd_X10_init : yX10_init.cls ≠ "java/lang/invoke/MethodHandle" ∧ yX10_init.cls ≠ "java/lang/invoke/VarHandle" ∧ (parseMethodDescriptor yX10_init.desc).map (fun d => d.parameters.length) = some 0 := by decide +kernel
theorem wc_X10_dimensionOf : Cond.code yX10_dimensionOf cX10_dimensionOf 4 (some .int) ∈ wsU := tb4 (i := 59) rfl rfl
theorem wj_X10_dimensionOf : Cond.instanceMethod yX10_dimensionOf ∈ wsU := tb4 (i := 57) rfl rfl
theorem wx_X10_dimensionOf : Cond.selects RX10 yX10_dimensionOf yX10_dimensionOf ∈ wsU := tb4 (i := 58) rfl rfl
theorem pd_X10_dimensionOf : yX10_dimensionOf.cls ≠ "java/lang/invoke/MethodHandle" ∧ yX10_dimensionOf.cls ≠ "java/lang/invoke/VarHandle" ∧ (parseMethodDescriptor yX10_dimensionOf.desc).map (fun d => d.parameters.length) = some 2 := by decide +kernel
theorem wc_X10_addLines : Cond.code yX10_addLines cX10_addLines 5 none ∈ wsU := tb4 (i := 63) rfl rfl
theorem wj_X10_addLines : Cond.instanceMethod yX10_addLines ∈ wsU := tb4 (i := 62) rfl rfl
theorem wx_X10_addLines : Cond.selects RX10 yX10_addLines yX10_addLines ∈ wsU := ts2 (i := 6) (n := 5) (y := yX10_addLines) rfl rfl
theorem pd_X10_addLines : yX10_addLines.cls ≠ "java/lang/invoke/MethodHandle" ∧ yX10_addLines.cls ≠ "java/lang/invoke/VarHandle" ∧ (parseMethodDescriptor yX10_addLines.desc).map (fun d => d.parameters.length) = some 1 := by decide +kernel
theorem wc_X10_addLine : Cond.code yX10_addLine cX10_addLine 4 none ∈ wsU := tb4 (i := 67) rfl rfl
theorem wj_X10_addLine : Cond.instanceMethod yX10_addLine ∈ wsU := tb4 (i := 66) rfl rfl
theorem wx_X10_addLine : Cond.selects RX10 yX10_addLine yX10_addLine ∈ wsU := ts2 (i := 7) (n := 5) (y := yX10_addLine) rfl rfl
theorem pd_X10_addLine : yX10_addLine.cls ≠ "java/lang/invoke/MethodHandle" ∧ yX10_addLine.cls ≠ "java/lang/invoke/VarHandle" ∧ (parseMethodDescriptor yX10_addLine.desc).map (fun d => d.parameters.length) = some 2 := by decide +kernel
theorem wc_X10_addOpposites : Cond.code yX10_addOpposites cX10_addOpposites 3 none ∈ wsU := tb4 (i := 101) rfl rfl
theorem wj_X10_addOpposites : Cond.instanceMethod yX10_addOpposites ∈ wsU := tb4 (i := 100) rfl rfl
theorem wx_X10_addOpposites : Cond.selects RX10 yX10_addOpposites yX10_addOpposites ∈ wsU := ts2 (i := 14) (n := 5) (y := yX10_addOpposites) rfl rfl
theorem pd_X10_addOpposites : yX10_addOpposites.cls ≠ "java/lang/invoke/MethodHandle" ∧ yX10_addOpposites.cls ≠ "java/lang/invoke/VarHandle" ∧ (parseMethodDescriptor yX10_addOpposites.desc).map (fun d => d.parameters.length) = some 0 := by decide +kernel
theorem wc_X10_clearRow : Cond.code yX10_clearRow cX10_clearRow 2 none ∈ wsU := tb4 (i := 71) rfl rfl
theorem wj_X10_clearRow : Cond.instanceMethod yX10_clearRow ∈ wsU := tb4 (i := 70) rfl rfl
theorem wx_X10_clearRow : Cond.selects RX10 yX10_clearRow yX10_clearRow ∈ wsU := ts2 (i := 8) (n := 5) (y := yX10_clearRow) rfl rfl
theorem pd_X10_clearRow : yX10_clearRow.cls ≠ "java/lang/invoke/MethodHandle" ∧ yX10_clearRow.cls ≠ "java/lang/invoke/VarHandle" ∧ (parseMethodDescriptor yX10_clearRow.desc).map (fun d => d.parameters.length) = some 0 := by decide +kernel
theorem wc_X10_addToRow : Cond.code yX10_addToRow cX10_addToRow 3 none ∈ wsU := tb4 (i := 76) rfl rfl
theorem wj_X10_addToRow : Cond.instanceMethod yX10_addToRow ∈ wsU := tb4 (i := 75) rfl rfl
theorem wx_X10_addToRow : Cond.selects RX10 yX10_addToRow yX10_addToRow ∈ wsU := ts2 (i := 9) (n := 5) (y := yX10_addToRow) rfl rfl
theorem pd_X10_addToRow : yX10_addToRow.cls ≠ "java/lang/invoke/MethodHandle" ∧ yX10_addToRow.cls ≠ "java/lang/invoke/VarHandle" ∧ (parseMethodDescriptor yX10_addToRow.desc).map (fun d => d.parameters.length) = some 2 := by decide +kernel
theorem wc_X10_addRow : Cond.code yX10_addRow cX10_addRow 2 none ∈ wsU := tb4 (i := 81) rfl rfl
theorem wj_X10_addRow : Cond.instanceMethod yX10_addRow ∈ wsU := tb4 (i := 80) rfl rfl
theorem wx_X10_addRow : Cond.selects RX10 yX10_addRow yX10_addRow ∈ wsU := ts2 (i := 10) (n := 5) (y := yX10_addRow) rfl rfl
theorem pd_X10_addRow : yX10_addRow.cls ≠ "java/lang/invoke/MethodHandle" ∧ yX10_addRow.cls ≠ "java/lang/invoke/VarHandle" ∧ (parseMethodDescriptor yX10_addRow.desc).map (fun d => d.parameters.length) = some 0 := by decide +kernel
theorem wc_X10_reduceBy : Cond.code yX10_reduceBy cX10_reduceBy 8 none ∈ wsU := tb4 (i := 85) rfl rfl
theorem wj_X10_reduceBy : Cond.instanceMethod yX10_reduceBy ∈ wsU := tb4 (i := 84) rfl rfl
theorem wx_X10_reduceBy : Cond.selects RX10 yX10_reduceBy yX10_reduceBy ∈ wsU := ts2 (i := 11) (n := 5) (y := yX10_reduceBy) rfl rfl
theorem pd_X10_reduceBy : yX10_reduceBy.cls ≠ "java/lang/invoke/MethodHandle" ∧ yX10_reduceBy.cls ≠ "java/lang/invoke/VarHandle" ∧ (parseMethodDescriptor yX10_reduceBy.desc).map (fun d => d.parameters.length) = some 2 := by decide +kernel
theorem wc_X10_leadOfRow : Cond.code yX10_leadOfRow cX10_leadOfRow 2 (some .int) ∈ wsU := tb4 (i := 93) rfl rfl
theorem wj_X10_leadOfRow : Cond.instanceMethod yX10_leadOfRow ∈ wsU := tb4 (i := 92) rfl rfl
theorem wx_X10_leadOfRow : Cond.selects RX10 yX10_leadOfRow yX10_leadOfRow ∈ wsU := ts2 (i := 12) (n := 5) (y := yX10_leadOfRow) rfl rfl
theorem pd_X10_leadOfRow : yX10_leadOfRow.cls ≠ "java/lang/invoke/MethodHandle" ∧ yX10_leadOfRow.cls ≠ "java/lang/invoke/VarHandle" ∧ (parseMethodDescriptor yX10_leadOfRow.desc).map (fun d => d.parameters.length) = some 0 := by decide +kernel
theorem wc_X10_copyRowTo : Cond.code yX10_copyRowTo cX10_copyRowTo 3 none ∈ wsU := tb4 (i := 97) rfl rfl
theorem wj_X10_copyRowTo : Cond.instanceMethod yX10_copyRowTo ∈ wsU := tb4 (i := 96) rfl rfl
theorem wx_X10_copyRowTo : Cond.selects RX10 yX10_copyRowTo yX10_copyRowTo ∈ wsU := ts2 (i := 13) (n := 5) (y := yX10_copyRowTo) rfl rfl
theorem pd_X10_copyRowTo : yX10_copyRowTo.cls ≠ "java/lang/invoke/MethodHandle" ∧ yX10_copyRowTo.cls ≠ "java/lang/invoke/VarHandle" ∧ (parseMethodDescriptor yX10_copyRowTo.desc).map (fun d => d.parameters.length) = some 1 := by decide +kernel
theorem wc_X11_init : Cond.code yX11_init cX11_init 2 none ∈ wsU := tb1 (i := 26) rfl rfl
theorem wj_X11_init : Cond.instanceMethod yX11_init ∈ wsU := tb1 (i := 25) rfl rfl
theorem pd_X11_init : yX11_init.cls ≠ "java/lang/invoke/MethodHandle" ∧ yX11_init.cls ≠ "java/lang/invoke/VarHandle" ∧ (parseMethodDescriptor yX11_init.desc).map (fun d => d.parameters.length) = some 0 := by decide +kernel
theorem wc_X11_square : Cond.code yX11_square cX11_square 2 (some .int) ∈ wsU := tb2 (i := 32) rfl rfl
theorem wj_X11_square : Cond.instanceMethod yX11_square ∈ wsU := tb2 (i := 30) rfl rfl
theorem wx_X11_square : Cond.selects RX11 yX11_square yX11_square ∈ wsU := tb2 (i := 31) rfl rfl
theorem pd_X11_square : yX11_square.cls ≠ "java/lang/invoke/MethodHandle" ∧ yX11_square.cls ≠ "java/lang/invoke/VarHandle" ∧ (parseMethodDescriptor yX11_square.desc).map (fun d => d.parameters.length) = some 1 := by decide +kernel
theorem wc_X11_put : Cond.code yX11_put cX11_put 6 (some .int) ∈ wsU := tb2 (i := 87) rfl rfl
theorem wj_X11_put : Cond.instanceMethod yX11_put ∈ wsU := tb2 (i := 85) rfl rfl
theorem wx_X11_put : Cond.selects RX11 yX11_put yX11_put ∈ wsU := tb2 (i := 86) rfl rfl
theorem pd_X11_put : yX11_put.cls ≠ "java/lang/invoke/MethodHandle" ∧ yX11_put.cls ≠ "java/lang/invoke/VarHandle" ∧ (parseMethodDescriptor yX11_put.desc).map (fun d => d.parameters.length) = some 4 := by decide +kernel
theorem wc_X11_at : Cond.code yX11_at cX11_at 5 (some .int) ∈ wsU := tb2 (i := 108) rfl rfl
theorem wj_X11_at : Cond.instanceMethod yX11_at ∈ wsU := tb2 (i := 106) rfl rfl
theorem wx_X11_at : Cond.selects RX11 yX11_at yX11_at ∈ wsU := tb2 (i := 107) rfl rfl
theorem pd_X11_at : yX11_at.cls ≠ "java/lang/invoke/MethodHandle" ∧ yX11_at.cls ≠ "java/lang/invoke/VarHandle" ∧ (parseMethodDescriptor yX11_at.desc).map (fun d => d.parameters.length) = some 3 := by decide +kernel
theorem wc_X11_make : Cond.code yX11_make cX11_make 4 (some .int) ∈ wsU := tb2 (i := 116) rfl rfl
theorem wj_X11_make : Cond.instanceMethod yX11_make ∈ wsU := tb2 (i := 114) rfl rfl
theorem wx_X11_make : Cond.selects RX11 yX11_make yX11_make ∈ wsU := tb2 (i := 115) rfl rfl
theorem pd_X11_make : yX11_make.cls ≠ "java/lang/invoke/MethodHandle" ∧ yX11_make.cls ≠ "java/lang/invoke/VarHandle" ∧ (parseMethodDescriptor yX11_make.desc).map (fun d => d.parameters.length) = some 2 := by decide +kernel
theorem wc_X11_laws : Cond.code yX11_laws cX11_laws 2 (some .int) ∈ wsU := tb2 (i := 159) rfl rfl
theorem wj_X11_laws : Cond.instanceMethod yX11_laws ∈ wsU := tb2 (i := 157) rfl rfl
theorem wx_X11_laws : Cond.selects RX11 yX11_laws yX11_laws ∈ wsU := tb2 (i := 158) rfl rfl
theorem pd_X11_laws : yX11_laws.cls ≠ "java/lang/invoke/MethodHandle" ∧ yX11_laws.cls ≠ "java/lang/invoke/VarHandle" ∧ (parseMethodDescriptor yX11_laws.desc).map (fun d => d.parameters.length) = some 1 := by decide +kernel
theorem wc_X11_sum : Cond.code yX11_sum cX11_sum 5 (some .int) ∈ wsU := tb2 (i := 207) rfl rfl
theorem wj_X11_sum : Cond.instanceMethod yX11_sum ∈ wsU := tb2 (i := 205) rfl rfl
theorem wx_X11_sum : Cond.selects RX11 yX11_sum yX11_sum ∈ wsU := tb2 (i := 206) rfl rfl
theorem pd_X11_sum : yX11_sum.cls ≠ "java/lang/invoke/MethodHandle" ∧ yX11_sum.cls ≠ "java/lang/invoke/VarHandle" ∧ (parseMethodDescriptor yX11_sum.desc).map (fun d => d.parameters.length) = some 3 := by decide +kernel
theorem wc_X11_change : Cond.code yX11_change cX11_change 5 (some .int) ∈ wsU := tb2 (i := 215) rfl rfl
theorem wj_X11_change : Cond.instanceMethod yX11_change ∈ wsU := tb2 (i := 213) rfl rfl
theorem wx_X11_change : Cond.selects RX11 yX11_change yX11_change ∈ wsU := tb2 (i := 214) rfl rfl
theorem pd_X11_change : yX11_change.cls ≠ "java/lang/invoke/MethodHandle" ∧ yX11_change.cls ≠ "java/lang/invoke/VarHandle" ∧ (parseMethodDescriptor yX11_change.desc).map (fun d => d.parameters.length) = some 3 := by decide +kernel
theorem wc_X11_same : Cond.code yX11_same cX11_same 4 (some .boolean) ∈ wsU := tb3 (i := 20) rfl rfl
theorem wj_X11_same : Cond.instanceMethod yX11_same ∈ wsU := tb3 (i := 18) rfl rfl
theorem wx_X11_same : Cond.selects RX11 yX11_same yX11_same ∈ wsU := tb3 (i := 19) rfl rfl
theorem pd_X11_same : yX11_same.cls ≠ "java/lang/invoke/MethodHandle" ∧ yX11_same.cls ≠ "java/lang/invoke/VarHandle" ∧ (parseMethodDescriptor yX11_same.desc).map (fun d => d.parameters.length) = some 2 := by decide +kernel
theorem wc_X11_least : Cond.code yX11_least cX11_least 5 (some .int) ∈ wsU := tb3 (i := 27) rfl rfl
theorem wj_X11_least : Cond.instanceMethod yX11_least ∈ wsU := tb3 (i := 25) rfl rfl
theorem wx_X11_least : Cond.selects RX11 yX11_least yX11_least ∈ wsU := tb3 (i := 26) rfl rfl
theorem pd_X11_least : yX11_least.cls ≠ "java/lang/invoke/MethodHandle" ∧ yX11_least.cls ≠ "java/lang/invoke/VarHandle" ∧ (parseMethodDescriptor yX11_least.desc).map (fun d => d.parameters.length) = some 3 := by decide +kernel
theorem wc_X11_kin : Cond.code yX11_kin cX11_kin 2 (some .int) ∈ wsU := tb3 (i := 41) rfl rfl
theorem wj_X11_kin : Cond.instanceMethod yX11_kin ∈ wsU := tb3 (i := 39) rfl rfl
theorem wx_X11_kin : Cond.selects RX11 yX11_kin yX11_kin ∈ wsU := tb3 (i := 40) rfl rfl
theorem pd_X11_kin : yX11_kin.cls ≠ "java/lang/invoke/MethodHandle" ∧ yX11_kin.cls ≠ "java/lang/invoke/VarHandle" ∧ (parseMethodDescriptor yX11_kin.desc).map (fun d => d.parameters.length) = some 1 := by decide +kernel
theorem wc_X11_classes : Cond.code yX11_classes cX11_classes 3 (some .int) ∈ wsU := tb1 (i := 151) rfl rfl
theorem wj_X11_classes : Cond.instanceMethod yX11_classes ∈ wsU := tb1 (i := 149) rfl rfl
theorem wx_X11_classes : Cond.selects RX11 yX11_classes yX11_classes ∈ wsU := tb1 (i := 150) rfl rfl
theorem pd_X11_classes : yX11_classes.cls ≠ "java/lang/invoke/MethodHandle" ∧ yX11_classes.cls ≠ "java/lang/invoke/VarHandle" ∧ (parseMethodDescriptor yX11_classes.desc).map (fun d => d.parameters.length) = some 0 := by decide +kernel
theorem wc_X11_completions : Cond.code yX11_completions cX11_completions 3 (some .int) ∈ wsU := tb3 (i := 51) rfl rfl
theorem wj_X11_completions : Cond.instanceMethod yX11_completions ∈ wsU := tb3 (i := 49) rfl rfl
theorem wx_X11_completions : Cond.selects RX11 yX11_completions yX11_completions ∈ wsU := tb3 (i := 50) rfl rfl
theorem pd_X11_completions : yX11_completions.cls ≠ "java/lang/invoke/MethodHandle" ∧ yX11_completions.cls ≠ "java/lang/invoke/VarHandle" ∧ (parseMethodDescriptor yX11_completions.desc).map (fun d => d.parameters.length) = some 1 := by decide +kernel
theorem wc_X11_completion : Cond.code yX11_completion cX11_completion 6 (some .int) ∈ wsU := tb3 (i := 140) rfl rfl
theorem wj_X11_completion : Cond.instanceMethod yX11_completion ∈ wsU := tb3 (i := 138) rfl rfl
theorem wx_X11_completion : Cond.selects RX11 yX11_completion yX11_completion ∈ wsU := tb3 (i := 139) rfl rfl
theorem pd_X11_completion : yX11_completion.cls ≠ "java/lang/invoke/MethodHandle" ∧ yX11_completion.cls ≠ "java/lang/invoke/VarHandle" ∧ (parseMethodDescriptor yX11_completion.desc).map (fun d => d.parameters.length) = some 4 := by decide +kernel
theorem wc_X11_estimate : Cond.code yX11_estimate cX11_estimate 4 (some .long) ∈ wsU := tb3 (i := 152) rfl rfl
theorem wj_X11_estimate : Cond.instanceMethod yX11_estimate ∈ wsU := tb3 (i := 150) rfl rfl
theorem wx_X11_estimate : Cond.selects RX11 yX11_estimate yX11_estimate ∈ wsU := tb3 (i := 151) rfl rfl
theorem pd_X11_estimate : yX11_estimate.cls ≠ "java/lang/invoke/MethodHandle" ∧ yX11_estimate.cls ≠ "java/lang/invoke/VarHandle" ∧ (parseMethodDescriptor yX11_estimate.desc).map (fun d => d.parameters.length) = some 2 := by decide +kernel
theorem wc_X11_givens : Cond.code yX11_givens cX11_givens 5 (some .int) ∈ wsU := tb3 (i := 173) rfl rfl
theorem wj_X11_givens : Cond.instanceMethod yX11_givens ∈ wsU := tb3 (i := 171) rfl rfl
theorem wx_X11_givens : Cond.selects RX11 yX11_givens yX11_givens ∈ wsU := tb3 (i := 172) rfl rfl
theorem pd_X11_givens : yX11_givens.cls ≠ "java/lang/invoke/MethodHandle" ∧ yX11_givens.cls ≠ "java/lang/invoke/VarHandle" ∧ (parseMethodDescriptor yX11_givens.desc).map (fun d => d.parameters.length) = some 2 := by decide +kernel
theorem wc_X11_slip : Cond.code yX11_slip cX11_slip 4 (some .int) ∈ wsU := tb3 (i := 205) rfl rfl
theorem wj_X11_slip : Cond.instanceMethod yX11_slip ∈ wsU := tb3 (i := 203) rfl rfl
theorem wx_X11_slip : Cond.selects RX11 yX11_slip yX11_slip ∈ wsU := tb3 (i := 204) rfl rfl
theorem pd_X11_slip : yX11_slip.cls ≠ "java/lang/invoke/MethodHandle" ∧ yX11_slip.cls ≠ "java/lang/invoke/VarHandle" ∧ (parseMethodDescriptor yX11_slip.desc).map (fun d => d.parameters.length) = some 2 := by decide +kernel
theorem wc_X11_orthogonal : Cond.code yX11_orthogonal cX11_orthogonal 5 (some .boolean) ∈ wsU := tb3 (i := 228) rfl rfl
theorem wj_X11_orthogonal : Cond.instanceMethod yX11_orthogonal ∈ wsU := tb3 (i := 226) rfl rfl
theorem wx_X11_orthogonal : Cond.selects RX11 yX11_orthogonal yX11_orthogonal ∈ wsU := tb3 (i := 227) rfl rfl
theorem pd_X11_orthogonal : yX11_orthogonal.cls ≠ "java/lang/invoke/MethodHandle" ∧ yX11_orthogonal.cls ≠ "java/lang/invoke/VarHandle" ∧ (parseMethodDescriptor yX11_orthogonal.desc).map (fun d => d.parameters.length) = some 2 := by decide +kernel
theorem wc_X11_stack : Cond.code yX11_stack cX11_stack 6 (some .int) ∈ wsU := tb4 (i := 0) rfl rfl
theorem wj_X11_stack : Cond.instanceMethod yX11_stack ∈ wsU := tb3 (i := 238) rfl rfl
theorem wx_X11_stack : Cond.selects RX11 yX11_stack yX11_stack ∈ wsU := tb3 (i := 239) rfl rfl
theorem pd_X11_stack : yX11_stack.cls ≠ "java/lang/invoke/MethodHandle" ∧ yX11_stack.cls ≠ "java/lang/invoke/VarHandle" ∧ (parseMethodDescriptor yX11_stack.desc).map (fun d => d.parameters.length) = some 2 := by decide +kernel
theorem wc_X11_product : Cond.code yX11_product cX11_product 6 (some .int) ∈ wsU := tb4 (i := 24) rfl rfl
theorem wj_X11_product : Cond.instanceMethod yX11_product ∈ wsU := tb4 (i := 22) rfl rfl
theorem wx_X11_product : Cond.selects RX11 yX11_product yX11_product ∈ wsU := tb4 (i := 23) rfl rfl
theorem pd_X11_product : yX11_product.cls ≠ "java/lang/invoke/MethodHandle" ∧ yX11_product.cls ≠ "java/lang/invoke/VarHandle" ∧ (parseMethodDescriptor yX11_product.desc).map (fun d => d.parameters.length) = some 2 := by decide +kernel
theorem wc_X11_crossings : Cond.code yX11_crossings cX11_crossings 4 (some .int) ∈ wsU := tb4 (i := 44) rfl rfl
theorem wj_X11_crossings : Cond.instanceMethod yX11_crossings ∈ wsU := tb4 (i := 42) rfl rfl
theorem wx_X11_crossings : Cond.selects RX11 yX11_crossings yX11_crossings ∈ wsU := tb4 (i := 43) rfl rfl
theorem pd_X11_crossings : yX11_crossings.cls ≠ "java/lang/invoke/MethodHandle" ∧ yX11_crossings.cls ≠ "java/lang/invoke/VarHandle" ∧ (parseMethodDescriptor yX11_crossings.desc).map (fun d => d.parameters.length) = some 2 := by decide +kernel
theorem wc_X11_dimension : Cond.code yX11_dimension cX11_dimension 3 (some .int) ∈ wsU := tb4 (i := 54) rfl rfl
theorem wj_X11_dimension : Cond.instanceMethod yX11_dimension ∈ wsU := tb4 (i := 52) rfl rfl
theorem wx_X11_dimension : Cond.selects RX11 yX11_dimension yX11_dimension ∈ wsU := tb4 (i := 53) rfl rfl
theorem pd_X11_dimension : yX11_dimension.cls ≠ "java/lang/invoke/MethodHandle" ∧ yX11_dimension.cls ≠ "java/lang/invoke/VarHandle" ∧ (parseMethodDescriptor yX11_dimension.desc).map (fun d => d.parameters.length) = some 2 := by decide +kernel
theorem wc_X11_requireRange : Cond.code yX11_requireRange cX11_requireRange 3 none ∈ wsU := tb2 (i := 35) rfl rfl
theorem wz_X11_requireRange : Cond.static yX11_requireRange ∈ wsU := tb2 (i := 34) rfl rfl
theorem pd_X11_requireRange : yX11_requireRange.cls ≠ "java/lang/invoke/MethodHandle" ∧ yX11_requireRange.cls ≠ "java/lang/invoke/VarHandle" ∧ (parseMethodDescriptor yX11_requireRange.desc).map (fun d => d.parameters.length) = some 3 := by decide +kernel
theorem wc_X11_requirePoint : Cond.code yX11_requirePoint cX11_requirePoint 3 none ∈ wsU := tb2 (i := 90) rfl rfl
theorem wz_X11_requirePoint : Cond.static yX11_requirePoint ∈ wsU := tb2 (i := 89) rfl rfl
theorem pd_X11_requirePoint : yX11_requirePoint.cls ≠ "java/lang/invoke/MethodHandle" ∧ yX11_requirePoint.cls ≠ "java/lang/invoke/VarHandle" ∧ (parseMethodDescriptor yX11_requirePoint.desc).map (fun d => d.parameters.length) = some 3 := by decide +kernel
theorem wc_X11_requireState : Cond.code yX11_requireState cX11_requireState 1 none ∈ wsU := tb2 (i := 122) rfl rfl
theorem wz_X11_requireState : Cond.static yX11_requireState ∈ wsU := tb2 (i := 121) rfl rfl
theorem pd_X11_requireState : yX11_requireState.cls ≠ "java/lang/invoke/MethodHandle" ∧ yX11_requireState.cls ≠ "java/lang/invoke/VarHandle" ∧ (parseMethodDescriptor yX11_requireState.desc).map (fun d => d.parameters.length) = some 1 := by decide +kernel
theorem wc_X11_requireRoom : Cond.code yX11_requireRoom cX11_requireRoom 1 none ∈ wsU := tb2 (i := 55) rfl rfl
theorem wj_X11_requireRoom : Cond.instanceMethod yX11_requireRoom ∈ wsU := tb2 (i := 54) rfl rfl
theorem wx_X11_requireRoom : Cond.selects RX11 yX11_requireRoom yX11_requireRoom ∈ wsU := ts1 (i := 3) (n := 6) (y := yX11_requireRoom) rfl rfl
theorem pd_X11_requireRoom : yX11_requireRoom.cls ≠ "java/lang/invoke/MethodHandle" ∧ yX11_requireRoom.cls ≠ "java/lang/invoke/VarHandle" ∧ (parseMethodDescriptor yX11_requireRoom.desc).map (fun d => d.parameters.length) = some 0 := by decide +kernel
theorem wc_X11_canBeCompleted : Cond.code yX11_canBeCompleted cX11_canBeCompleted 1 (some .boolean) ∈ wsU := tb3 (i := 54) rfl rfl
theorem wz_X11_canBeCompleted : Cond.static yX11_canBeCompleted ∈ wsU := tb3 (i := 53) rfl rfl
theorem pd_X11_canBeCompleted : yX11_canBeCompleted.cls ≠ "java/lang/invoke/MethodHandle" ∧ yX11_canBeCompleted.cls ≠ "java/lang/invoke/VarHandle" ∧ (parseMethodDescriptor yX11_canBeCompleted.desc).map (fun d => d.parameters.length) = some 1 := by decide +kernel
theorem wc_X11_figureOf : Cond.code yX11_figureOf cX11_figureOf 2 (some (.object "LoshuHall$Figure")) ∈ wsU := tb1 (i := 159) rfl rfl
theorem wj_X11_figureOf : Cond.instanceMethod yX11_figureOf ∈ wsU := tb1 (i := 158) rfl rfl
theorem wx_X11_figureOf : Cond.selects RX11 yX11_figureOf yX11_figureOf ∈ wsU := ts1 (i := 1) (n := 6) (y := yX11_figureOf) rfl rfl
theorem pd_X11_figureOf : yX11_figureOf.cls ≠ "java/lang/invoke/MethodHandle" ∧ yX11_figureOf.cls ≠ "java/lang/invoke/VarHandle" ∧ (parseMethodDescriptor yX11_figureOf.desc).map (fun d => d.parameters.length) = some 1 := by decide +kernel
theorem wc_X11_addFigure : Cond.code yX11_addFigure cX11_addFigure 3 (some .int) ∈ wsU := tb2 (i := 75) rfl rfl
theorem wj_X11_addFigure : Cond.instanceMethod yX11_addFigure ∈ wsU := tb2 (i := 74) rfl rfl
theorem wx_X11_addFigure : Cond.selects RX11 yX11_addFigure yX11_addFigure ∈ wsU := ts1 (i := 4) (n := 6) (y := yX11_addFigure) rfl rfl
theorem pd_X11_addFigure : yX11_addFigure.cls ≠ "java/lang/invoke/MethodHandle" ∧ yX11_addFigure.cls ≠ "java/lang/invoke/VarHandle" ∧ (parseMethodDescriptor yX11_addFigure.desc).map (fun d => d.parameters.length) = some 1 := by decide +kernel
theorem wc_X11_hasEarlierKin : Cond.code yX11_hasEarlierKin cX11_hasEarlierKin 3 (some .boolean) ∈ wsU := tb1 (i := 155) rfl rfl
theorem wj_X11_hasEarlierKin : Cond.instanceMethod yX11_hasEarlierKin ∈ wsU := tb1 (i := 154) rfl rfl
theorem wx_X11_hasEarlierKin : Cond.selects RX11 yX11_hasEarlierKin yX11_hasEarlierKin ∈ wsU := ts1 (i := 0) (n := 6) (y := yX11_hasEarlierKin) rfl rfl
theorem pd_X11_hasEarlierKin : yX11_hasEarlierKin.cls ≠ "java/lang/invoke/MethodHandle" ∧ yX11_hasEarlierKin.cls ≠ "java/lang/invoke/VarHandle" ∧ (parseMethodDescriptor yX11_hasEarlierKin.desc).map (fun d => d.parameters.length) = some 1 := by decide +kernel
theorem wc_X11_countCrossings : Cond.code yX11_countCrossings cX11_countCrossings 8 (some .int) ∈ wsU := tb4 (i := 47) rfl rfl
theorem wz_X11_countCrossings : Cond.static yX11_countCrossings ∈ wsU := tb4 (i := 46) rfl rfl
theorem pd_X11_countCrossings : yX11_countCrossings.cls ≠ "java/lang/invoke/MethodHandle" ∧ yX11_countCrossings.cls ≠ "java/lang/invoke/VarHandle" ∧ (parseMethodDescriptor yX11_countCrossings.desc).map (fun d => d.parameters.length) = some 4 := by decide +kernel
theorem wc_X12_init : Cond.code yX12_init cX12_init 1 none ∈ wsU := tb4 (i := 106) rfl rfl
theorem wj_X12_init : Cond.instanceMethod yX12_init ∈ wsU := tb4 (i := 105) rfl rfl
theorem pd_X12_init : yX12_init.cls ≠ "java/lang/invoke/MethodHandle" ∧ yX12_init.cls ≠ "java/lang/invoke/VarHandle" ∧ (parseMethodDescriptor yX12_init.desc).map (fun d => d.parameters.length) = some 0 := by decide +kernel
theorem wc_X12_thrown : Cond.code yX12_thrown cX12_thrown 1 (some .int) ∈ wsU := tb4 (i := 161) rfl rfl
theorem wj_X12_thrown : Cond.instanceMethod yX12_thrown ∈ wsU := tb4 (i := 159) rfl rfl
theorem wx_X12_thrown : Cond.selects RX12 yX12_thrown yX12_thrown ∈ wsU := tb4 (i := 160) rfl rfl
theorem pd_X12_thrown : yX12_thrown.cls ≠ "java/lang/invoke/MethodHandle" ∧ yX12_thrown.cls ≠ "java/lang/invoke/VarHandle" ∧ (parseMethodDescriptor yX12_thrown.desc).map (fun d => d.parameters.length) = some 0 := by decide +kernel
theorem wc_X12_isFine : Cond.code yX12_isFine cX12_isFine 2 (some .boolean) ∈ wsU := tb4 (i := 172) rfl rfl
theorem wj_X12_isFine : Cond.instanceMethod yX12_isFine ∈ wsU := tb4 (i := 171) rfl rfl
theorem wx_X12_isFine : Cond.selects RX12 yX12_isFine yX12_isFine ∈ wsU := ts2 (i := 15) (n := 16) (y := yX12_isFine) rfl rfl
theorem pd_X12_isFine : yX12_isFine.cls ≠ "java/lang/invoke/MethodHandle" ∧ yX12_isFine.cls ≠ "java/lang/invoke/VarHandle" ∧ (parseMethodDescriptor yX12_isFine.desc).map (fun d => d.parameters.length) = some 1 := by decide +kernel
theorem wc_X12_in : Cond.code yX12_in cX12_in 3 (some .boolean) ∈ wsU := tb4 (i := 168) rfl rfl
theorem wz_X12_in : Cond.static yX12_in ∈ wsU := tb4 (i := 167) rfl rfl
theorem pd_X12_in : yX12_in.cls ≠ "java/lang/invoke/MethodHandle" ∧ yX12_in.cls ≠ "java/lang/invoke/VarHandle" ∧ (parseMethodDescriptor yX12_in.desc).map (fun d => d.parameters.length) = some 3 := by decide +kernel
theorem wc_X12_isSquare : Cond.code yX12_isSquare cX12_isSquare 2 (some .boolean) ∈ wsU := tb4 (i := 192) rfl rfl
theorem wj_X12_isSquare : Cond.instanceMethod yX12_isSquare ∈ wsU := tb4 (i := 191) rfl rfl
theorem wx_X12_isSquare : Cond.selects RX12 yX12_isSquare yX12_isSquare ∈ wsU := ts3 (i := 3) (n := 16) (y := yX12_isSquare) rfl rfl
theorem pd_X12_isSquare : yX12_isSquare.cls ≠ "java/lang/invoke/MethodHandle" ∧ yX12_isSquare.cls ≠ "java/lang/invoke/VarHandle" ∧ (parseMethodDescriptor yX12_isSquare.desc).map (fun d => d.parameters.length) = some 1 := by decide +kernel
theorem wc_X12_isPoint : Cond.code yX12_isPoint cX12_isPoint 4 (some .boolean) ∈ wsU := tb4 (i := 188) rfl rfl
theorem wj_X12_isPoint : Cond.instanceMethod yX12_isPoint ∈ wsU := tb4 (i := 187) rfl rfl
theorem wx_X12_isPoint : Cond.selects RX12 yX12_isPoint yX12_isPoint ∈ wsU := ts3 (i := 2) (n := 16) (y := yX12_isPoint) rfl rfl
theorem pd_X12_isPoint : yX12_isPoint.cls ≠ "java/lang/invoke/MethodHandle" ∧ yX12_isPoint.cls ≠ "java/lang/invoke/VarHandle" ∧ (parseMethodDescriptor yX12_isPoint.desc).map (fun d => d.parameters.length) = some 3 := by decide +kernel
theorem wc_X12_areaOf : Cond.code yX12_areaOf cX12_areaOf 2 (some .int) ∈ wsU := tb4 (i := 235) rfl rfl
theorem wj_X12_areaOf : Cond.instanceMethod yX12_areaOf ∈ wsU := tb4 (i := 234) rfl rfl
theorem wx_X12_areaOf : Cond.selects RX12 yX12_areaOf yX12_areaOf ∈ wsU := ts3 (i := 10) (n := 16) (y := yX12_areaOf) rfl rfl
theorem pd_X12_areaOf : yX12_areaOf.cls ≠ "java/lang/invoke/MethodHandle" ∧ yX12_areaOf.cls ≠ "java/lang/invoke/VarHandle" ∧ (parseMethodDescriptor yX12_areaOf.desc).map (fun d => d.parameters.length) = some 1 := by decide +kernel
theorem wc_X12_numberAt : Cond.code yX12_numberAt cX12_numberAt 4 (some .int) ∈ wsU := tb4 (i := 200) rfl rfl
theorem wj_X12_numberAt : Cond.instanceMethod yX12_numberAt ∈ wsU := tb4 (i := 199) rfl rfl
theorem wx_X12_numberAt : Cond.selects RX12 yX12_numberAt yX12_numberAt ∈ wsU := ts3 (i := 4) (n := 16) (y := yX12_numberAt) rfl rfl
theorem pd_X12_numberAt : yX12_numberAt.cls ≠ "java/lang/invoke/MethodHandle" ∧ yX12_numberAt.cls ≠ "java/lang/invoke/VarHandle" ∧ (parseMethodDescriptor yX12_numberAt.desc).map (fun d => d.parameters.length) = some 3 := by decide +kernel
theorem wc_X12_lay : Cond.code yX12_lay cX12_lay 3 (some .int) ∈ wsU := tb4 (i := 180) rfl rfl
theorem wj_X12_lay : Cond.instanceMethod yX12_lay ∈ wsU := tb4 (i := 179) rfl rfl
theorem wx_X12_lay : Cond.selects RX12 yX12_lay yX12_lay ∈ wsU := ts3 (i := 1) (n := 16) (y := yX12_lay) rfl rfl
theorem pd_X12_lay : yX12_lay.cls ≠ "java/lang/invoke/MethodHandle" ∧ yX12_lay.cls ≠ "java/lang/invoke/VarHandle" ∧ (parseMethodDescriptor yX12_lay.desc).map (fun d => d.parameters.length) = some 1 := by decide +kernel
theorem wc_X12_wipe : Cond.code yX12_wipe cX12_wipe 2 none ∈ wsU := tb4 (i := 176) rfl rfl
theorem wj_X12_wipe : Cond.instanceMethod yX12_wipe ∈ wsU := tb4 (i := 175) rfl rfl
theorem wx_X12_wipe : Cond.selects RX12 yX12_wipe yX12_wipe ∈ wsU := ts3 (i := 0) (n := 16) (y := yX12_wipe) rfl rfl
theorem pd_X12_wipe : yX12_wipe.cls ≠ "java/lang/invoke/MethodHandle" ∧ yX12_wipe.cls ≠ "java/lang/invoke/VarHandle" ∧ (parseMethodDescriptor yX12_wipe.desc).map (fun d => d.parameters.length) = some 0 := by decide +kernel
theorem wc_X12_square : Cond.code yX12_square cX12_square 2 (some .int) ∈ wsU := tb4 (i := 165) rfl rfl
theorem wj_X12_square : Cond.instanceMethod yX12_square ∈ wsU := tb4 (i := 163) rfl rfl
theorem wx_X12_square : Cond.selects RX12 yX12_square yX12_square ∈ wsU := tb4 (i := 164) rfl rfl
theorem pd_X12_square : yX12_square.cls ≠ "java/lang/invoke/MethodHandle" ∧ yX12_square.cls ≠ "java/lang/invoke/VarHandle" ∧ (parseMethodDescriptor yX12_square.desc).map (fun d => d.parameters.length) = some 1 := by decide +kernel
theorem wc_X12_put : Cond.code yX12_put cX12_put 7 (some .int) ∈ wsU := tb4 (i := 184) rfl rfl
theorem wj_X12_put : Cond.instanceMethod yX12_put ∈ wsU := tb4 (i := 182) rfl rfl
theorem wx_X12_put : Cond.selects RX12 yX12_put yX12_put ∈ wsU := tb4 (i := 183) rfl rfl
theorem pd_X12_put : yX12_put.cls ≠ "java/lang/invoke/MethodHandle" ∧ yX12_put.cls ≠ "java/lang/invoke/VarHandle" ∧ (parseMethodDescriptor yX12_put.desc).map (fun d => d.parameters.length) = some 4 := by decide +kernel
theorem wc_X12_at : Cond.code yX12_at cX12_at 4 (some .int) ∈ wsU := tb4 (i := 196) rfl rfl
theorem wj_X12_at : Cond.instanceMethod yX12_at ∈ wsU := tb4 (i := 194) rfl rfl
theorem wx_X12_at : Cond.selects RX12 yX12_at yX12_at ∈ wsU := tb4 (i := 195) rfl rfl
theorem pd_X12_at : yX12_at.cls ≠ "java/lang/invoke/MethodHandle" ∧ yX12_at.cls ≠ "java/lang/invoke/VarHandle" ∧ (parseMethodDescriptor yX12_at.desc).map (fun d => d.parameters.length) = some 3 := by decide +kernel
theorem wc_X12_siege : Cond.code yX12_siege cX12_siege 8 none ∈ wsU := tb4 (i := 211) rfl rfl
theorem wj_X12_siege : Cond.instanceMethod yX12_siege ∈ wsU := tb4 (i := 210) rfl rfl
theorem wx_X12_siege : Cond.selects RX12 yX12_siege yX12_siege ∈ wsU := ts3 (i := 5) (n := 16) (y := yX12_siege) rfl rfl
theorem pd_X12_siege : yX12_siege.cls ≠ "java/lang/invoke/MethodHandle" ∧ yX12_siege.cls ≠ "java/lang/invoke/VarHandle" ∧ (parseMethodDescriptor yX12_siege.desc).map (fun d => d.parameters.length) = some 1 := by decide +kernel
theorem wc_X12_cross : Cond.code yX12_cross cX12_cross 5 none ∈ wsU := tb4 (i := 215) rfl rfl
theorem wj_X12_cross : Cond.instanceMethod yX12_cross ∈ wsU := tb4 (i := 214) rfl rfl
theorem wx_X12_cross : Cond.selects RX12 yX12_cross yX12_cross ∈ wsU := ts3 (i := 6) (n := 16) (y := yX12_cross) rfl rfl
theorem pd_X12_cross : yX12_cross.cls ≠ "java/lang/invoke/MethodHandle" ∧ yX12_cross.cls ≠ "java/lang/invoke/VarHandle" ∧ (parseMethodDescriptor yX12_cross.desc).map (fun d => d.parameters.length) = some 1 := by decide +kernel
theorem wc_X12_digits : Cond.code yX12_digits cX12_digits 5 none ∈ wsU := tb4 (i := 219) rfl rfl
theorem wj_X12_digits : Cond.instanceMethod yX12_digits ∈ wsU := tb4 (i := 218) rfl rfl
theorem wx_X12_digits : Cond.selects RX12 yX12_digits yX12_digits ∈ wsU := ts3 (i := 7) (n := 16) (y := yX12_digits) rfl rfl
theorem pd_X12_digits : yX12_digits.cls ≠ "java/lang/invoke/MethodHandle" ∧ yX12_digits.cls ≠ "java/lang/invoke/VarHandle" ∧ (parseMethodDescriptor yX12_digits.desc).map (fun d => d.parameters.length) = some 1 := by decide +kernel
theorem wc_X12_lux : Cond.code yX12_lux cX12_lux 7 none ∈ wsU := tb4 (i := 223) rfl rfl
theorem wj_X12_lux : Cond.instanceMethod yX12_lux ∈ wsU := tb4 (i := 222) rfl rfl
theorem wx_X12_lux : Cond.selects RX12 yX12_lux yX12_lux ∈ wsU := ts3 (i := 8) (n := 16) (y := yX12_lux) rfl rfl
theorem pd_X12_lux : yX12_lux.cls ≠ "java/lang/invoke/MethodHandle" ∧ yX12_lux.cls ≠ "java/lang/invoke/VarHandle" ∧ (parseMethodDescriptor yX12_lux.desc).map (fun d => d.parameters.length) = some 0 := by decide +kernel
theorem wc_X12_doesHold : Cond.code yX12_doesHold cX12_doesHold 2 (some .boolean) ∈ wsU := tb4 (i := 207) rfl rfl
theorem wz_X12_doesHold : Cond.static yX12_doesHold ∈ wsU := tb4 (i := 206) rfl rfl
theorem pd_X12_doesHold : yX12_doesHold.cls ≠ "java/lang/invoke/MethodHandle" ∧ yX12_doesHold.cls ≠ "java/lang/invoke/VarHandle" ∧ (parseMethodDescriptor yX12_doesHold.desc).map (fun d => d.parameters.length) = some 2 := by decide +kernel
theorem wc_X12_make : Cond.code yX12_make cX12_make 4 (some .int) ∈ wsU := tb4 (i := 204) rfl rfl
theorem wj_X12_make : Cond.instanceMethod yX12_make ∈ wsU := tb4 (i := 202) rfl rfl
theorem wx_X12_make : Cond.selects RX12 yX12_make yX12_make ∈ wsU := tb4 (i := 203) rfl rfl
theorem pd_X12_make : yX12_make.cls ≠ "java/lang/invoke/MethodHandle" ∧ yX12_make.cls ≠ "java/lang/invoke/VarHandle" ∧ (parseMethodDescriptor yX12_make.desc).map (fun d => d.parameters.length) = some 2 := by decide +kernel
theorem wc_X12_sumOf : Cond.code yX12_sumOf cX12_sumOf 9 (some .int) ∈ wsU := tb5 (i := 7) rfl rfl
theorem wj_X12_sumOf : Cond.instanceMethod yX12_sumOf ∈ wsU := tb5 (i := 6) rfl rfl
theorem wx_X12_sumOf : Cond.selects RX12 yX12_sumOf yX12_sumOf ∈ wsU := ts3 (i := 13) (n := 16) (y := yX12_sumOf) rfl rfl
theorem pd_X12_sumOf : yX12_sumOf.cls ≠ "java/lang/invoke/MethodHandle" ∧ yX12_sumOf.cls ≠ "java/lang/invoke/VarHandle" ∧ (parseMethodDescriptor yX12_sumOf.desc).map (fun d => d.parameters.length) = some 3 := by decide +kernel
theorem wc_X12_squaresOf : Cond.code yX12_squaresOf cX12_squaresOf 7 (some .int) ∈ wsU := tb4 (i := 239) rfl rfl
theorem wj_X12_squaresOf : Cond.instanceMethod yX12_squaresOf ∈ wsU := tb4 (i := 238) rfl rfl
theorem wx_X12_squaresOf : Cond.selects RX12 yX12_squaresOf yX12_squaresOf ∈ wsU := ts3 (i := 11) (n := 16) (y := yX12_squaresOf) rfl rfl
theorem pd_X12_squaresOf : yX12_squaresOf.cls ≠ "java/lang/invoke/MethodHandle" ∧ yX12_squaresOf.cls ≠ "java/lang/invoke/VarHandle" ∧ (parseMethodDescriptor yX12_squaresOf.desc).map (fun d => d.parameters.length) = some 3 := by decide +kernel
theorem wc_X12_areAlike : Cond.code yX12_areAlike cX12_areAlike 5 (some .boolean) ∈ wsU := tb5 (i := 3) rfl rfl
theorem wj_X12_areAlike : Cond.instanceMethod yX12_areAlike ∈ wsU := tb5 (i := 2) rfl rfl
theorem wx_X12_areAlike : Cond.selects RX12 yX12_areAlike yX12_areAlike ∈ wsU := ts3 (i := 12) (n := 16) (y := yX12_areAlike) rfl rfl
theorem pd_X12_areAlike : yX12_areAlike.cls ≠ "java/lang/invoke/MethodHandle" ∧ yX12_areAlike.cls ≠ "java/lang/invoke/VarHandle" ∧ (parseMethodDescriptor yX12_areAlike.desc).map (fun d => d.parameters.length) = some 2 := by decide +kernel
theorem wc_X12_areDiagonals : Cond.code yX12_areDiagonals cX12_areDiagonals 3 (some .boolean) ∈ wsU := tb5 (i := 11) rfl rfl
theorem wj_X12_areDiagonals : Cond.instanceMethod yX12_areDiagonals ∈ wsU := tb5 (i := 10) rfl rfl
theorem wx_X12_areDiagonals : Cond.selects RX12 yX12_areDiagonals yX12_areDiagonals ∈ wsU := ts3 (i := 14) (n := 16) (y := yX12_areDiagonals) rfl rfl
theorem pd_X12_areDiagonals : yX12_areDiagonals.cls ≠ "java/lang/invoke/MethodHandle" ∧ yX12_areDiagonals.cls ≠ "java/lang/invoke/VarHandle" ∧ (parseMethodDescriptor yX12_areDiagonals.desc).map (fun d => d.parameters.length) = some 1 := by decide +kernel
theorem wc_X12_areOpposite : Cond.code yX12_areOpposite cX12_areOpposite 5 (some .boolean) ∈ wsU := tb5 (i := 15) rfl rfl
theorem wj_X12_areOpposite : Cond.instanceMethod yX12_areOpposite ∈ wsU := tb5 (i := 14) rfl rfl
theorem wx_X12_areOpposite : Cond.selects RX12 yX12_areOpposite yX12_areOpposite ∈ wsU := ts3 (i := 15) (n := 16) (y := yX12_areOpposite) rfl rfl
theorem pd_X12_areOpposite : yX12_areOpposite.cls ≠ "java/lang/invoke/MethodHandle" ∧ yX12_areOpposite.cls ≠ "java/lang/invoke/VarHandle" ∧ (parseMethodDescriptor yX12_areOpposite.desc).map (fun d => d.parameters.length) = some 1 := by decide +kernel
theorem wc_X12_isNormal : Cond.code yX12_isNormal cX12_isNormal 6 (some .boolean) ∈ wsU := tb5 (i := 19) rfl rfl
theorem wj_X12_isNormal : Cond.instanceMethod yX12_isNormal ∈ wsU := tb5 (i := 18) rfl rfl
theorem wx_X12_isNormal : Cond.selects RX12 yX12_isNormal yX12_isNormal ∈ wsU := ts4 (i := 0) (n := 16) (y := yX12_isNormal) rfl rfl
theorem pd_X12_isNormal : yX12_isNormal.cls ≠ "java/lang/invoke/MethodHandle" ∧ yX12_isNormal.cls ≠ "java/lang/invoke/VarHandle" ∧ (parseMethodDescriptor yX12_isNormal.desc).map (fun d => d.parameters.length) = some 1 := by decide +kernel
theorem wc_X12_lawsOf : Cond.code yX12_lawsOf cX12_lawsOf 5 (some .int) ∈ wsU := tb4 (i := 231) rfl rfl
theorem wj_X12_lawsOf : Cond.instanceMethod yX12_lawsOf ∈ wsU := tb4 (i := 230) rfl rfl
theorem wx_X12_lawsOf : Cond.selects RX12 yX12_lawsOf yX12_lawsOf ∈ wsU := ts3 (i := 9) (n := 16) (y := yX12_lawsOf) rfl rfl
theorem pd_X12_lawsOf : yX12_lawsOf.cls ≠ "java/lang/invoke/MethodHandle" ∧ yX12_lawsOf.cls ≠ "java/lang/invoke/VarHandle" ∧ (parseMethodDescriptor yX12_lawsOf.desc).map (fun d => d.parameters.length) = some 1 := by decide +kernel
theorem wc_X12_laws : Cond.code yX12_laws cX12_laws 2 (some .int) ∈ wsU := tb4 (i := 227) rfl rfl
theorem wj_X12_laws : Cond.instanceMethod yX12_laws ∈ wsU := tb4 (i := 225) rfl rfl
theorem wx_X12_laws : Cond.selects RX12 yX12_laws yX12_laws ∈ wsU := tb4 (i := 226) rfl rfl
theorem pd_X12_laws : yX12_laws.cls ≠ "java/lang/invoke/MethodHandle" ∧ yX12_laws.cls ≠ "java/lang/invoke/VarHandle" ∧ (parseMethodDescriptor yX12_laws.desc).map (fun d => d.parameters.length) = some 1 := by decide +kernel
theorem wc_X12_sum : Cond.code yX12_sum cX12_sum 6 (some .int) ∈ wsU := tb5 (i := 23) rfl rfl
theorem wj_X12_sum : Cond.instanceMethod yX12_sum ∈ wsU := tb5 (i := 21) rfl rfl
theorem wx_X12_sum : Cond.selects RX12 yX12_sum yX12_sum ∈ wsU := tb5 (i := 22) rfl rfl
theorem pd_X12_sum : yX12_sum.cls ≠ "java/lang/invoke/MethodHandle" ∧ yX12_sum.cls ≠ "java/lang/invoke/VarHandle" ∧ (parseMethodDescriptor yX12_sum.desc).map (fun d => d.parameters.length) = some 3 := by decide +kernel
theorem wc_X12_turned : Cond.code yX12_turned cX12_turned 6 (some .int) ∈ wsU := tb5 (i := 41) rfl rfl
theorem wz_X12_turned : Cond.static yX12_turned ∈ wsU := tb5 (i := 40) rfl rfl
theorem pd_X12_turned : yX12_turned.cls ≠ "java/lang/invoke/MethodHandle" ∧ yX12_turned.cls ≠ "java/lang/invoke/VarHandle" ∧ (parseMethodDescriptor yX12_turned.desc).map (fun d => d.parameters.length) = some 3 := by decide +kernel
theorem wc_X12_flipped : Cond.code yX12_flipped cX12_flipped 2 (some .int) ∈ wsU := tb5 (i := 44) rfl rfl
theorem wz_X12_flipped : Cond.static yX12_flipped ∈ wsU := tb5 (i := 43) rfl rfl
theorem pd_X12_flipped : yX12_flipped.cls ≠ "java/lang/invoke/MethodHandle" ∧ yX12_flipped.cls ≠ "java/lang/invoke/VarHandle" ∧ (parseMethodDescriptor yX12_flipped.desc).map (fun d => d.parameters.length) = some 2 := by decide +kernel
theorem wc_X12_comesFrom : Cond.code yX12_comesFrom cX12_comesFrom 7 (some .int) ∈ wsU := tb5 (i := 38) rfl rfl
theorem wz_X12_comesFrom : Cond.static yX12_comesFrom ∈ wsU := tb5 (i := 37) rfl rfl
theorem pd_X12_comesFrom : yX12_comesFrom.cls ≠ "java/lang/invoke/MethodHandle" ∧ yX12_comesFrom.cls ≠ "java/lang/invoke/VarHandle" ∧ (parseMethodDescriptor yX12_comesFrom.desc).map (fun d => d.parameters.length) = some 4 := by decide +kernel
theorem wc_X12_canComplement : Cond.code yX12_canComplement cX12_canComplement 6 (some .boolean) ∈ wsU := tb5 (i := 35) rfl rfl
theorem wj_X12_canComplement : Cond.instanceMethod yX12_canComplement ∈ wsU := tb5 (i := 34) rfl rfl
theorem wx_X12_canComplement : Cond.selects RX12 yX12_canComplement yX12_canComplement ∈ wsU := ts4 (i := 2) (n := 16) (y := yX12_canComplement) rfl rfl
theorem pd_X12_canComplement : yX12_canComplement.cls ≠ "java/lang/invoke/MethodHandle" ∧ yX12_canComplement.cls ≠ "java/lang/invoke/VarHandle" ∧ (parseMethodDescriptor yX12_canComplement.desc).map (fun d => d.parameters.length) = some 2 := by decide +kernel
theorem wc_X12_mostBy : Cond.code yX12_mostBy cX12_mostBy 3 (some .int) ∈ wsU := tb5 (i := 31) rfl rfl
theorem wj_X12_mostBy : Cond.instanceMethod yX12_mostBy ∈ wsU := tb5 (i := 30) rfl rfl
theorem wx_X12_mostBy : Cond.selects RX12 yX12_mostBy yX12_mostBy ∈ wsU := ts4 (i := 1) (n := 16) (y := yX12_mostBy) rfl rfl
theorem pd_X12_mostBy : yX12_mostBy.cls ≠ "java/lang/invoke/MethodHandle" ∧ yX12_mostBy.cls ≠ "java/lang/invoke/VarHandle" ∧ (parseMethodDescriptor yX12_mostBy.desc).map (fun d => d.parameters.length) = some 2 := by decide +kernel
theorem wc_X12_change : Cond.code yX12_change cX12_change 10 (some .int) ∈ wsU := tb5 (i := 27) rfl rfl
theorem wj_X12_change : Cond.instanceMethod yX12_change ∈ wsU := tb5 (i := 25) rfl rfl
theorem wx_X12_change : Cond.selects RX12 yX12_change yX12_change ∈ wsU := tb5 (i := 26) rfl rfl
theorem pd_X12_change : yX12_change.cls ≠ "java/lang/invoke/MethodHandle" ∧ yX12_change.cls ≠ "java/lang/invoke/VarHandle" ∧ (parseMethodDescriptor yX12_change.desc).map (fun d => d.parameters.length) = some 3 := by decide +kernel
theorem wc_X12_formAt : Cond.code yX12_formAt cX12_formAt 6 (some .int) ∈ wsU := tb5 (i := 60) rfl rfl
theorem wj_X12_formAt : Cond.instanceMethod yX12_formAt ∈ wsU := tb5 (i := 59) rfl rfl
theorem wx_X12_formAt : Cond.selects RX12 yX12_formAt yX12_formAt ∈ wsU := ts4 (i := 5) (n := 16) (y := yX12_formAt) rfl rfl
theorem pd_X12_formAt : yX12_formAt.cls ≠ "java/lang/invoke/MethodHandle" ∧ yX12_formAt.cls ≠ "java/lang/invoke/VarHandle" ∧ (parseMethodDescriptor yX12_formAt.desc).map (fun d => d.parameters.length) = some 3 := by decide +kernel
theorem wc_X12_isForm : Cond.code yX12_isForm cX12_isForm 6 (some .boolean) ∈ wsU := tb5 (i := 56) rfl rfl
theorem wj_X12_isForm : Cond.instanceMethod yX12_isForm ∈ wsU := tb5 (i := 55) rfl rfl
theorem wx_X12_isForm : Cond.selects RX12 yX12_isForm yX12_isForm ∈ wsU := ts4 (i := 4) (n := 16) (y := yX12_isForm) rfl rfl
theorem pd_X12_isForm : yX12_isForm.cls ≠ "java/lang/invoke/MethodHandle" ∧ yX12_isForm.cls ≠ "java/lang/invoke/VarHandle" ∧ (parseMethodDescriptor yX12_isForm.desc).map (fun d => d.parameters.length) = some 3 := by decide +kernel
theorem wc_X12_areKin : Cond.code yX12_areKin cX12_areKin 5 (some .boolean) ∈ wsU := tb5 (i := 52) rfl rfl
theorem wj_X12_areKin : Cond.instanceMethod yX12_areKin ∈ wsU := tb5 (i := 51) rfl rfl
theorem wx_X12_areKin : Cond.selects RX12 yX12_areKin yX12_areKin ∈ wsU := ts4 (i := 3) (n := 16) (y := yX12_areKin) rfl rfl
theorem pd_X12_areKin : yX12_areKin.cls ≠ "java/lang/invoke/MethodHandle" ∧ yX12_areKin.cls ≠ "java/lang/invoke/VarHandle" ∧ (parseMethodDescriptor yX12_areKin.desc).map (fun d => d.parameters.length) = some 2 := by decide +kernel
theorem wc_X12_same : Cond.code yX12_same cX12_same 3 (some .boolean) ∈ wsU := tb5 (i := 48) rfl rfl
theorem wj_X12_same : Cond.instanceMethod yX12_same ∈ wsU := tb5 (i := 46) rfl rfl
theorem wx_X12_same : Cond.selects RX12 yX12_same yX12_same ∈ wsU := tb5 (i := 47) rfl rfl
theorem pd_X12_same : yX12_same.cls ≠ "java/lang/invoke/MethodHandle" ∧ yX12_same.cls ≠ "java/lang/invoke/VarHandle" ∧ (parseMethodDescriptor yX12_same.desc).map (fun d => d.parameters.length) = some 2 := by decide +kernel
theorem wc_X12_isLess : Cond.code yX12_isLess cX12_isLess 7 (some .boolean) ∈ wsU := tb5 (i := 68) rfl rfl
theorem wj_X12_isLess : Cond.instanceMethod yX12_isLess ∈ wsU := tb5 (i := 67) rfl rfl
theorem wx_X12_isLess : Cond.selects RX12 yX12_isLess yX12_isLess ∈ wsU := ts4 (i := 6) (n := 16) (y := yX12_isLess) rfl rfl
theorem pd_X12_isLess : yX12_isLess.cls ≠ "java/lang/invoke/MethodHandle" ∧ yX12_isLess.cls ≠ "java/lang/invoke/VarHandle" ∧ (parseMethodDescriptor yX12_isLess.desc).map (fun d => d.parameters.length) = some 3 := by decide +kernel
theorem wc_X12_least : Cond.code yX12_least cX12_least 6 (some .int) ∈ wsU := tb5 (i := 64) rfl rfl
theorem wj_X12_least : Cond.instanceMethod yX12_least ∈ wsU := tb5 (i := 62) rfl rfl
theorem wx_X12_least : Cond.selects RX12 yX12_least yX12_least ∈ wsU := tb5 (i := 63) rfl rfl
theorem pd_X12_least : yX12_least.cls ≠ "java/lang/invoke/MethodHandle" ∧ yX12_least.cls ≠ "java/lang/invoke/VarHandle" ∧ (parseMethodDescriptor yX12_least.desc).map (fun d => d.parameters.length) = some 3 := by decide +kernel
theorem wc_X12_kin : Cond.code yX12_kin cX12_kin 4 (some .int) ∈ wsU := tb5 (i := 72) rfl rfl
theorem wj_X12_kin : Cond.instanceMethod yX12_kin ∈ wsU := tb5 (i := 70) rfl rfl
theorem wx_X12_kin : Cond.selects RX12 yX12_kin yX12_kin ∈ wsU := tb5 (i := 71) rfl rfl
theorem pd_X12_kin : yX12_kin.cls ≠ "java/lang/invoke/MethodHandle" ∧ yX12_kin.cls ≠ "java/lang/invoke/VarHandle" ∧ (parseMethodDescriptor yX12_kin.desc).map (fun d => d.parameters.length) = some 1 := by decide +kernel
theorem wc_X12_classes : Cond.code yX12_classes cX12_classes 5 (some .int) ∈ wsU := tb5 (i := 76) rfl rfl
theorem wj_X12_classes : Cond.instanceMethod yX12_classes ∈ wsU := tb5 (i := 74) rfl rfl
theorem wx_X12_classes : Cond.selects RX12 yX12_classes yX12_classes ∈ wsU := tb5 (i := 75) rfl rfl
theorem pd_X12_classes : yX12_classes.cls ≠ "java/lang/invoke/MethodHandle" ∧ yX12_classes.cls ≠ "java/lang/invoke/VarHandle" ∧ (parseMethodDescriptor yX12_classes.desc).map (fun d => d.parameters.length) = some 0 := by decide +kernel
theorem wc_X12_isLineFit : Cond.code yX12_isLineFit cX12_isLineFit 7 (some .boolean) ∈ wsU := tb5 (i := 106) rfl rfl
theorem wj_X12_isLineFit : Cond.instanceMethod yX12_isLineFit ∈ wsU := tb5 (i := 105) rfl rfl
theorem wx_X12_isLineFit : Cond.selects RX12 yX12_isLineFit yX12_isLineFit ∈ wsU := ts4 (i := 12) (n := 16) (y := yX12_isLineFit) rfl rfl
theorem pd_X12_isLineFit : yX12_isLineFit.cls ≠ "java/lang/invoke/MethodHandle" ∧ yX12_isLineFit.cls ≠ "java/lang/invoke/VarHandle" ∧ (parseMethodDescriptor yX12_isLineFit.desc).map (fun d => d.parameters.length) = some 2 := by decide +kernel
theorem wc_X12_isFit : Cond.code yX12_isFit cX12_isFit 4 (some .boolean) ∈ wsU := tb5 (i := 102) rfl rfl
theorem wj_X12_isFit : Cond.instanceMethod yX12_isFit ∈ wsU := tb5 (i := 101) rfl rfl
theorem wx_X12_isFit : Cond.selects RX12 yX12_isFit yX12_isFit ∈ wsU := ts4 (i := 11) (n := 16) (y := yX12_isFit) rfl rfl
theorem pd_X12_isFit : yX12_isFit.cls ≠ "java/lang/invoke/MethodHandle" ∧ yX12_isFit.cls ≠ "java/lang/invoke/VarHandle" ∧ (parseMethodDescriptor yX12_isFit.desc).map (fun d => d.parameters.length) = some 0 := by decide +kernel
theorem wc_X12_take : Cond.code yX12_take cX12_take 4 none ∈ wsU := tb5 (i := 93) rfl rfl
theorem wj_X12_take : Cond.instanceMethod yX12_take ∈ wsU := tb5 (i := 92) rfl rfl
theorem wx_X12_take : Cond.selects RX12 yX12_take yX12_take ∈ wsU := ts4 (i := 9) (n := 16) (y := yX12_take) rfl rfl
theorem pd_X12_take : yX12_take.cls ≠ "java/lang/invoke/MethodHandle" ∧ yX12_take.cls ≠ "java/lang/invoke/VarHandle" ∧ (parseMethodDescriptor yX12_take.desc).map (fun d => d.parameters.length) = some 2 := by decide +kernel
theorem wc_X12_goesOn : Cond.code yX12_goesOn cX12_goesOn 3 (some .boolean) ∈ wsU := tb5 (i := 110) rfl rfl
theorem wj_X12_goesOn : Cond.instanceMethod yX12_goesOn ∈ wsU := tb5 (i := 109) rfl rfl
theorem wx_X12_goesOn : Cond.selects RX12 yX12_goesOn yX12_goesOn ∈ wsU := ts4 (i := 13) (n := 16) (y := yX12_goesOn) rfl rfl
theorem pd_X12_goesOn : yX12_goesOn.cls ≠ "java/lang/invoke/MethodHandle" ∧ yX12_goesOn.cls ≠ "java/lang/invoke/VarHandle" ∧ (parseMethodDescriptor yX12_goesOn.desc).map (fun d => d.parameters.length) = some 1 := by decide +kernel
theorem wc_X12_search : Cond.code yX12_search cX12_search 5 (some .int) ∈ wsU := tb5 (i := 98) rfl rfl
theorem wj_X12_search : Cond.instanceMethod yX12_search ∈ wsU := tb5 (i := 97) rfl rfl
theorem wx_X12_search : Cond.selects RX12 yX12_search yX12_search ∈ wsU := ts4 (i := 10) (n := 16) (y := yX12_search) rfl rfl
theorem pd_X12_search : yX12_search.cls ≠ "java/lang/invoke/MethodHandle" ∧ yX12_search.cls ≠ "java/lang/invoke/VarHandle" ∧ (parseMethodDescriptor yX12_search.desc).map (fun d => d.parameters.length) = some 1 := by decide +kernel
theorem wc_X12_emptyOf : Cond.code yX12_emptyOf cX12_emptyOf 4 (some .int) ∈ wsU := tb5 (i := 88) rfl rfl
theorem wj_X12_emptyOf : Cond.instanceMethod yX12_emptyOf ∈ wsU := tb5 (i := 87) rfl rfl
theorem wx_X12_emptyOf : Cond.selects RX12 yX12_emptyOf yX12_emptyOf ∈ wsU := ts4 (i := 8) (n := 16) (y := yX12_emptyOf) rfl rfl
theorem pd_X12_emptyOf : yX12_emptyOf.cls ≠ "java/lang/invoke/MethodHandle" ∧ yX12_emptyOf.cls ≠ "java/lang/invoke/VarHandle" ∧ (parseMethodDescriptor yX12_emptyOf.desc).map (fun d => d.parameters.length) = some 1 := by decide +kernel
theorem wc_X12_isSearched : Cond.code yX12_isSearched cX12_isSearched 2 (some .boolean) ∈ wsU := tb5 (i := 84) rfl rfl
theorem wj_X12_isSearched : Cond.instanceMethod yX12_isSearched ∈ wsU := tb5 (i := 83) rfl rfl
theorem wx_X12_isSearched : Cond.selects RX12 yX12_isSearched yX12_isSearched ∈ wsU := ts4 (i := 7) (n := 16) (y := yX12_isSearched) rfl rfl
theorem pd_X12_isSearched : yX12_isSearched.cls ≠ "java/lang/invoke/MethodHandle" ∧ yX12_isSearched.cls ≠ "java/lang/invoke/VarHandle" ∧ (parseMethodDescriptor yX12_isSearched.desc).map (fun d => d.parameters.length) = some 1 := by decide +kernel
theorem wc_X12_completions : Cond.code yX12_completions cX12_completions 3 (some .int) ∈ wsU := tb5 (i := 80) rfl rfl
theorem wj_X12_completions : Cond.instanceMethod yX12_completions ∈ wsU := tb5 (i := 78) rfl rfl
theorem wx_X12_completions : Cond.selects RX12 yX12_completions yX12_completions ∈ wsU := tb5 (i := 79) rfl rfl
theorem pd_X12_completions : yX12_completions.cls ≠ "java/lang/invoke/MethodHandle" ∧ yX12_completions.cls ≠ "java/lang/invoke/VarHandle" ∧ (parseMethodDescriptor yX12_completions.desc).map (fun d => d.parameters.length) = some 1 := by decide +kernel
theorem wc_X12_completion : Cond.code yX12_completion cX12_completion 6 (some .int) ∈ wsU := tb5 (i := 114) rfl rfl
theorem wj_X12_completion : Cond.instanceMethod yX12_completion ∈ wsU := tb5 (i := 112) rfl rfl
theorem wx_X12_completion : Cond.selects RX12 yX12_completion yX12_completion ∈ wsU := tb5 (i := 113) rfl rfl
theorem pd_X12_completion : yX12_completion.cls ≠ "java/lang/invoke/MethodHandle" ∧ yX12_completion.cls ≠ "java/lang/invoke/VarHandle" ∧ (parseMethodDescriptor yX12_completion.desc).map (fun d => d.parameters.length) = some 4 := by decide +kernel
theorem wc_X12_estimate : Cond.code yX12_estimate cX12_estimate 10 (some .long) ∈ wsU := tb5 (i := 118) rfl rfl
theorem wj_X12_estimate : Cond.instanceMethod yX12_estimate ∈ wsU := tb5 (i := 116) rfl rfl
theorem wx_X12_estimate : Cond.selects RX12 yX12_estimate yX12_estimate ∈ wsU := tb5 (i := 117) rfl rfl
theorem pd_X12_estimate : yX12_estimate.cls ≠ "java/lang/invoke/MethodHandle" ∧ yX12_estimate.cls ≠ "java/lang/invoke/VarHandle" ∧ (parseMethodDescriptor yX12_estimate.desc).map (fun d => d.parameters.length) = some 2 := by decide +kernel
theorem wc_X12_ones : Cond.code yX12_ones cX12_ones 3 (some .int) ∈ wsU := tb5 (i := 128) rfl rfl
theorem wz_X12_ones : Cond.static yX12_ones ∈ wsU := tb5 (i := 127) rfl rfl
theorem pd_X12_ones : yX12_ones.cls ≠ "java/lang/invoke/MethodHandle" ∧ yX12_ones.cls ≠ "java/lang/invoke/VarHandle" ∧ (parseMethodDescriptor yX12_ones.desc).map (fun d => d.parameters.length) = some 1 := by decide +kernel
theorem wc_X12_givens : Cond.code yX12_givens cX12_givens 8 (some .int) ∈ wsU := tb5 (i := 125) rfl rfl
theorem wj_X12_givens : Cond.instanceMethod yX12_givens ∈ wsU := tb5 (i := 123) rfl rfl
theorem wx_X12_givens : Cond.selects RX12 yX12_givens yX12_givens ∈ wsU := tb5 (i := 124) rfl rfl
theorem pd_X12_givens : yX12_givens.cls ≠ "java/lang/invoke/MethodHandle" ∧ yX12_givens.cls ≠ "java/lang/invoke/VarHandle" ∧ (parseMethodDescriptor yX12_givens.desc).map (fun d => d.parameters.length) = some 2 := by decide +kernel
theorem wc_X12_isRight : Cond.code yX12_isRight cX12_isRight 2 (some .boolean) ∈ wsU := tb5 (i := 144) rfl rfl
theorem wj_X12_isRight : Cond.instanceMethod yX12_isRight ∈ wsU := tb5 (i := 143) rfl rfl
theorem wx_X12_isRight : Cond.selects RX12 yX12_isRight yX12_isRight ∈ wsU := ts5 (i := 0) (n := 16) (y := yX12_isRight) rfl rfl
theorem pd_X12_isRight : yX12_isRight.cls ≠ "java/lang/invoke/MethodHandle" ∧ yX12_isRight.cls ≠ "java/lang/invoke/VarHandle" ∧ (parseMethodDescriptor yX12_isRight.desc).map (fun d => d.parameters.length) = some 1 := by decide +kernel
theorem wc_X12_isSlip : Cond.code yX12_isSlip cX12_isSlip 7 (some .boolean) ∈ wsU := tb5 (i := 140) rfl rfl
theorem wj_X12_isSlip : Cond.instanceMethod yX12_isSlip ∈ wsU := tb5 (i := 139) rfl rfl
theorem wx_X12_isSlip : Cond.selects RX12 yX12_isSlip yX12_isSlip ∈ wsU := ts4 (i := 15) (n := 16) (y := yX12_isSlip) rfl rfl
theorem pd_X12_isSlip : yX12_isSlip.cls ≠ "java/lang/invoke/MethodHandle" ∧ yX12_isSlip.cls ≠ "java/lang/invoke/VarHandle" ∧ (parseMethodDescriptor yX12_isSlip.desc).map (fun d => d.parameters.length) = some 3 := by decide +kernel
theorem wc_X12_mended : Cond.code yX12_mended cX12_mended 4 (some .int) ∈ wsU := tb5 (i := 136) rfl rfl
theorem wj_X12_mended : Cond.instanceMethod yX12_mended ∈ wsU := tb5 (i := 135) rfl rfl
theorem wx_X12_mended : Cond.selects RX12 yX12_mended yX12_mended ∈ wsU := ts4 (i := 14) (n := 16) (y := yX12_mended) rfl rfl
theorem pd_X12_mended : yX12_mended.cls ≠ "java/lang/invoke/MethodHandle" ∧ yX12_mended.cls ≠ "java/lang/invoke/VarHandle" ∧ (parseMethodDescriptor yX12_mended.desc).map (fun d => d.parameters.length) = some 2 := by decide +kernel
theorem wc_X12_slip : Cond.code yX12_slip cX12_slip 12 (some .int) ∈ wsU := tb5 (i := 132) rfl rfl
theorem wj_X12_slip : Cond.instanceMethod yX12_slip ∈ wsU := tb5 (i := 130) rfl rfl
theorem wx_X12_slip : Cond.selects RX12 yX12_slip yX12_slip ∈ wsU := tb5 (i := 131) rfl rfl
theorem pd_X12_slip : yX12_slip.cls ≠ "java/lang/invoke/MethodHandle" ∧ yX12_slip.cls ≠ "java/lang/invoke/VarHandle" ∧ (parseMethodDescriptor yX12_slip.desc).map (fun d => d.parameters.length) = some 2 := by decide +kernel
theorem wc_X12_orthogonal : Cond.code yX12_orthogonal cX12_orthogonal 7 (some .boolean) ∈ wsU := tb5 (i := 148) rfl rfl
theorem wj_X12_orthogonal : Cond.instanceMethod yX12_orthogonal ∈ wsU := tb5 (i := 146) rfl rfl
theorem wx_X12_orthogonal : Cond.selects RX12 yX12_orthogonal yX12_orthogonal ∈ wsU := tb5 (i := 147) rfl rfl
theorem pd_X12_orthogonal : yX12_orthogonal.cls ≠ "java/lang/invoke/MethodHandle" ∧ yX12_orthogonal.cls ≠ "java/lang/invoke/VarHandle" ∧ (parseMethodDescriptor yX12_orthogonal.desc).map (fun d => d.parameters.length) = some 2 := by decide +kernel
theorem wc_X12_isWithin : Cond.code yX12_isWithin cX12_isWithin 5 (some .boolean) ∈ wsU := tb5 (i := 156) rfl rfl
theorem wj_X12_isWithin : Cond.instanceMethod yX12_isWithin ∈ wsU := tb5 (i := 155) rfl rfl
theorem wx_X12_isWithin : Cond.selects RX12 yX12_isWithin yX12_isWithin ∈ wsU := ts5 (i := 1) (n := 16) (y := yX12_isWithin) rfl rfl
theorem pd_X12_isWithin : yX12_isWithin.cls ≠ "java/lang/invoke/MethodHandle" ∧ yX12_isWithin.cls ≠ "java/lang/invoke/VarHandle" ∧ (parseMethodDescriptor yX12_isWithin.desc).map (fun d => d.parameters.length) = some 2 := by decide +kernel
theorem wc_X12_stack : Cond.code yX12_stack cX12_stack 6 (some .int) ∈ wsU := tb5 (i := 152) rfl rfl
theorem wj_X12_stack : Cond.instanceMethod yX12_stack ∈ wsU := tb5 (i := 150) rfl rfl
theorem wx_X12_stack : Cond.selects RX12 yX12_stack yX12_stack ∈ wsU := tb5 (i := 151) rfl rfl
theorem pd_X12_stack : yX12_stack.cls ≠ "java/lang/invoke/MethodHandle" ∧ yX12_stack.cls ≠ "java/lang/invoke/VarHandle" ∧ (parseMethodDescriptor yX12_stack.desc).map (fun d => d.parameters.length) = some 2 := by decide +kernel
theorem wc_X12_greatest : Cond.code yX12_greatest cX12_greatest 4 (some .int) ∈ wsU := tb5 (i := 164) rfl rfl
theorem wj_X12_greatest : Cond.instanceMethod yX12_greatest ∈ wsU := tb5 (i := 163) rfl rfl
theorem wx_X12_greatest : Cond.selects RX12 yX12_greatest yX12_greatest ∈ wsU := ts5 (i := 2) (n := 16) (y := yX12_greatest) rfl rfl
theorem pd_X12_greatest : yX12_greatest.cls ≠ "java/lang/invoke/MethodHandle" ∧ yX12_greatest.cls ≠ "java/lang/invoke/VarHandle" ∧ (parseMethodDescriptor yX12_greatest.desc).map (fun d => d.parameters.length) = some 1 := by decide +kernel
theorem wc_X12_product : Cond.code yX12_product cX12_product 10 (some .int) ∈ wsU := tb5 (i := 160) rfl rfl
theorem wj_X12_product : Cond.instanceMethod yX12_product ∈ wsU := tb5 (i := 158) rfl rfl
theorem wx_X12_product : Cond.selects RX12 yX12_product yX12_product ∈ wsU := tb5 (i := 159) rfl rfl
theorem pd_X12_product : yX12_product.cls ≠ "java/lang/invoke/MethodHandle" ∧ yX12_product.cls ≠ "java/lang/invoke/VarHandle" ∧ (parseMethodDescriptor yX12_product.desc).map (fun d => d.parameters.length) = some 2 := by decide +kernel
theorem wc_X12_crossings : Cond.code yX12_crossings cX12_crossings 10 (some .int) ∈ wsU := tb5 (i := 168) rfl rfl
theorem wj_X12_crossings : Cond.instanceMethod yX12_crossings ∈ wsU := tb5 (i := 166) rfl rfl
theorem wx_X12_crossings : Cond.selects RX12 yX12_crossings yX12_crossings ∈ wsU := tb5 (i := 167) rfl rfl
theorem pd_X12_crossings : yX12_crossings.cls ≠ "java/lang/invoke/MethodHandle" ∧ yX12_crossings.cls ≠ "java/lang/invoke/VarHandle" ∧ (parseMethodDescriptor yX12_crossings.desc).map (fun d => d.parameters.length) = some 2 := by decide +kernel
theorem wc_X12_power : Cond.code yX12_power cX12_power 10 (some .long) ∈ wsU := tb5 (i := 192) rfl rfl
theorem wz_X12_power : Cond.static yX12_power ∈ wsU := tb5 (i := 191) rfl rfl
theorem pd_X12_power : yX12_power.cls ≠ "java/lang/invoke/MethodHandle" ∧ yX12_power.cls ≠ "java/lang/invoke/VarHandle" ∧ (parseMethodDescriptor yX12_power.desc).map (fun d => d.parameters.length) = some 2 := by decide +kernel
theorem wc_X12_independent : Cond.code yX12_independent cX12_independent 7 (some .int) ∈ wsU := tb5 (i := 187) rfl rfl
theorem wj_X12_independent : Cond.instanceMethod yX12_independent ∈ wsU := tb5 (i := 186) rfl rfl
theorem wx_X12_independent : Cond.selects RX12 yX12_independent yX12_independent ∈ wsU := ts5 (i := 5) (n := 16) (y := yX12_independent) rfl rfl
theorem pd_X12_independent : yX12_independent.cls ≠ "java/lang/invoke/MethodHandle" ∧ yX12_independent.cls ≠ "java/lang/invoke/VarHandle" ∧ (parseMethodDescriptor yX12_independent.desc).map (fun d => d.parameters.length) = some 0 := by decide +kernel
theorem wc_X12_begin : Cond.code yX12_begin cX12_begin 3 none ∈ wsU := tb5 (i := 183) rfl rfl
theorem wj_X12_begin : Cond.instanceMethod yX12_begin ∈ wsU := tb5 (i := 182) rfl rfl
theorem wx_X12_begin : Cond.selects RX12 yX12_begin yX12_begin ∈ wsU := ts5 (i := 4) (n := 16) (y := yX12_begin) rfl rfl
theorem pd_X12_begin : yX12_begin.cls ≠ "java/lang/invoke/MethodHandle" ∧ yX12_begin.cls ≠ "java/lang/invoke/VarHandle" ∧ (parseMethodDescriptor yX12_begin.desc).map (fun d => d.parameters.length) = some 1 := by decide +kernel
theorem wc_X12_layLine : Cond.code yX12_layLine cX12_layLine 8 none ∈ wsU := tb5 (i := 179) rfl rfl
theorem wj_X12_layLine : Cond.instanceMethod yX12_layLine ∈ wsU := tb5 (i := 178) rfl rfl
theorem wx_X12_layLine : Cond.selects RX12 yX12_layLine yX12_layLine ∈ wsU := ts5 (i := 3) (n := 16) (y := yX12_layLine) rfl rfl
theorem pd_X12_layLine : yX12_layLine.cls ≠ "java/lang/invoke/MethodHandle" ∧ yX12_layLine.cls ≠ "java/lang/invoke/VarHandle" ∧ (parseMethodDescriptor yX12_layLine.desc).map (fun d => d.parameters.length) = some 4 := by decide +kernel
theorem wc_X12_isOfLaws : Cond.code yX12_isOfLaws cX12_isOfLaws 5 (some .boolean) ∈ wsU := tb5 (i := 175) rfl rfl
theorem wz_X12_isOfLaws : Cond.static yX12_isOfLaws ∈ wsU := tb5 (i := 174) rfl rfl
theorem pd_X12_isOfLaws : yX12_isOfLaws.cls ≠ "java/lang/invoke/MethodHandle" ∧ yX12_isOfLaws.cls ≠ "java/lang/invoke/VarHandle" ∧ (parseMethodDescriptor yX12_isOfLaws.desc).map (fun d => d.parameters.length) = some 4 := by decide +kernel
theorem wc_X12_dimension : Cond.code yX12_dimension cX12_dimension 9 (some .int) ∈ wsU := tb5 (i := 172) rfl rfl
theorem wj_X12_dimension : Cond.instanceMethod yX12_dimension ∈ wsU := tb5 (i := 170) rfl rfl
theorem wx_X12_dimension : Cond.selects RX12 yX12_dimension yX12_dimension ∈ wsU := tb5 (i := 171) rfl rfl
theorem pd_X12_dimension : yX12_dimension.cls ≠ "java/lang/invoke/MethodHandle" ∧ yX12_dimension.cls ≠ "java/lang/invoke/VarHandle" ∧ (parseMethodDescriptor yX12_dimension.desc).map (fun d => d.parameters.length) = some 2 := by decide +kernel
theorem wc_J6_bitCount_0f7a4 : Cond.code yJ6_bitCount_0f7a4 cJ6_bitCount_0f7a4 1 (some .int) ∈ wsU := tb3 (i := 190) rfl rfl
theorem wz_J6_bitCount_0f7a4 : Cond.static yJ6_bitCount_0f7a4 ∈ wsU := tb3 (i := 189) rfl rfl
theorem pd_J6_bitCount_0f7a4 : yJ6_bitCount_0f7a4.cls ≠ "java/lang/invoke/MethodHandle" ∧ yJ6_bitCount_0f7a4.cls ≠ "java/lang/invoke/VarHandle" ∧ (parseMethodDescriptor yJ6_bitCount_0f7a4.desc).map (fun d => d.parameters.length) = some 1 := by decide +kernel
theorem wc_J9_floorMod_7cf53 : Cond.code yJ9_floorMod_7cf53 cJ9_floorMod_7cf53 3 (some .int) ∈ wsU := tb2 (i := 139) rfl rfl
theorem wz_J9_floorMod_7cf53 : Cond.static yJ9_floorMod_7cf53 ∈ wsU := tb2 (i := 138) rfl rfl
theorem pd_J9_floorMod_7cf53 : yJ9_floorMod_7cf53.cls ≠ "java/lang/invoke/MethodHandle" ∧ yJ9_floorMod_7cf53.cls ≠ "java/lang/invoke/VarHandle" ∧ (parseMethodDescriptor yJ9_floorMod_7cf53.desc).map (fun d => d.parameters.length) = some 2 := by decide +kernel
theorem wc_J9_floorMod_f86c9 : Cond.code yJ9_floorMod_f86c9 cJ9_floorMod_f86c9 6 (some .long) ∈ wsU := tb4 (i := 89) rfl rfl
theorem wz_J9_floorMod_f86c9 : Cond.static yJ9_floorMod_f86c9 ∈ wsU := tb4 (i := 88) rfl rfl
theorem pd_J9_floorMod_f86c9 : yJ9_floorMod_f86c9.cls ≠ "java/lang/invoke/MethodHandle" ∧ yJ9_floorMod_f86c9.cls ≠ "java/lang/invoke/VarHandle" ∧ (parseMethodDescriptor yJ9_floorMod_f86c9.desc).map (fun d => d.parameters.length) = some 2 := by decide +kernel
theorem wc_J9_max_7cf53 : Cond.code yJ9_max_7cf53 cJ9_max_7cf53 2 (some .int) ∈ wsU := tb3 (i := 129) rfl rfl
theorem wz_J9_max_7cf53 : Cond.static yJ9_max_7cf53 ∈ wsU := tb3 (i := 128) rfl rfl
theorem pd_J9_max_7cf53 : yJ9_max_7cf53.cls ≠ "java/lang/invoke/MethodHandle" ∧ yJ9_max_7cf53.cls ≠ "java/lang/invoke/VarHandle" ∧ (parseMethodDescriptor yJ9_max_7cf53.desc).map (fun d => d.parameters.length) = some 2 := by decide +kernel
theorem wc_J9_min_7cf53 : Cond.code yJ9_min_7cf53 cJ9_min_7cf53 2 (some .int) ∈ wsU := tb3 (i := 122) rfl rfl
theorem wz_J9_min_7cf53 : Cond.static yJ9_min_7cf53 ∈ wsU := tb3 (i := 121) rfl rfl
theorem pd_J9_min_7cf53 : yJ9_min_7cf53.cls ≠ "java/lang/invoke/MethodHandle" ∧ yJ9_min_7cf53.cls ≠ "java/lang/invoke/VarHandle" ∧ (parseMethodDescriptor yJ9_min_7cf53.desc).map (fun d => d.parameters.length) = some 2 := by decide +kernel
theorem wz_L_square : Cond.static yL_square ∈ wsU := tb2 (i := 25) rfl rfl
theorem pd_L_square : yL_square.cls ≠ "java/lang/invoke/MethodHandle" ∧ yL_square.cls ≠ "java/lang/invoke/VarHandle" ∧ (parseMethodDescriptor yL_square.desc).map (fun d => d.parameters.length) = some 3 := by decide +kernel
theorem wz_L_put : Cond.static yL_put ∈ wsU := tb2 (i := 81) rfl rfl
theorem pd_L_put : yL_put.cls ≠ "java/lang/invoke/MethodHandle" ∧ yL_put.cls ≠ "java/lang/invoke/VarHandle" ∧ (parseMethodDescriptor yL_put.desc).map (fun d => d.parameters.length) = some 6 := by decide +kernel
theorem wz_L_at : Cond.static yL_at ∈ wsU := tb2 (i := 103) rfl rfl
theorem pd_L_at : yL_at.cls ≠ "java/lang/invoke/MethodHandle" ∧ yL_at.cls ≠ "java/lang/invoke/VarHandle" ∧ (parseMethodDescriptor yL_at.desc).map (fun d => d.parameters.length) = some 5 := by decide +kernel
theorem wz_L_make : Cond.static yL_make ∈ wsU := tb2 (i := 111) rfl rfl
theorem pd_L_make : yL_make.cls ≠ "java/lang/invoke/MethodHandle" ∧ yL_make.cls ≠ "java/lang/invoke/VarHandle" ∧ (parseMethodDescriptor yL_make.desc).map (fun d => d.parameters.length) = some 4 := by decide +kernel
theorem wz_L_laws : Cond.static yL_laws ∈ wsU := tb2 (i := 154) rfl rfl
theorem pd_L_laws : yL_laws.cls ≠ "java/lang/invoke/MethodHandle" ∧ yL_laws.cls ≠ "java/lang/invoke/VarHandle" ∧ (parseMethodDescriptor yL_laws.desc).map (fun d => d.parameters.length) = some 3 := by decide +kernel
theorem wz_L_sum : Cond.static yL_sum ∈ wsU := tb2 (i := 202) rfl rfl
theorem pd_L_sum : yL_sum.cls ≠ "java/lang/invoke/MethodHandle" ∧ yL_sum.cls ≠ "java/lang/invoke/VarHandle" ∧ (parseMethodDescriptor yL_sum.desc).map (fun d => d.parameters.length) = some 5 := by decide +kernel
theorem wz_L_change : Cond.static yL_change ∈ wsU := tb2 (i := 210) rfl rfl
theorem pd_L_change : yL_change.cls ≠ "java/lang/invoke/MethodHandle" ∧ yL_change.cls ≠ "java/lang/invoke/VarHandle" ∧ (parseMethodDescriptor yL_change.desc).map (fun d => d.parameters.length) = some 5 := by decide +kernel
theorem wz_L_same : Cond.static yL_same ∈ wsU := tb3 (i := 15) rfl rfl
theorem pd_L_same : yL_same.cls ≠ "java/lang/invoke/MethodHandle" ∧ yL_same.cls ≠ "java/lang/invoke/VarHandle" ∧ (parseMethodDescriptor yL_same.desc).map (fun d => d.parameters.length) = some 4 := by decide +kernel
theorem wz_L_least : Cond.static yL_least ∈ wsU := tb3 (i := 22) rfl rfl
theorem pd_L_least : yL_least.cls ≠ "java/lang/invoke/MethodHandle" ∧ yL_least.cls ≠ "java/lang/invoke/VarHandle" ∧ (parseMethodDescriptor yL_least.desc).map (fun d => d.parameters.length) = some 5 := by decide +kernel
theorem wz_L_kin : Cond.static yL_kin ∈ wsU := tb3 (i := 36) rfl rfl
theorem pd_L_kin : yL_kin.cls ≠ "java/lang/invoke/MethodHandle" ∧ yL_kin.cls ≠ "java/lang/invoke/VarHandle" ∧ (parseMethodDescriptor yL_kin.desc).map (fun d => d.parameters.length) = some 3 := by decide +kernel
theorem wz_L_completions : Cond.static yL_completions ∈ wsU := tb3 (i := 46) rfl rfl
theorem pd_L_completions : yL_completions.cls ≠ "java/lang/invoke/MethodHandle" ∧ yL_completions.cls ≠ "java/lang/invoke/VarHandle" ∧ (parseMethodDescriptor yL_completions.desc).map (fun d => d.parameters.length) = some 3 := by decide +kernel
theorem wz_L_completion : Cond.static yL_completion ∈ wsU := tb3 (i := 135) rfl rfl
theorem pd_L_completion : yL_completion.cls ≠ "java/lang/invoke/MethodHandle" ∧ yL_completion.cls ≠ "java/lang/invoke/VarHandle" ∧ (parseMethodDescriptor yL_completion.desc).map (fun d => d.parameters.length) = some 6 := by decide +kernel
theorem wz_L_estimate : Cond.static yL_estimate ∈ wsU := tb3 (i := 147) rfl rfl
theorem pd_L_estimate : yL_estimate.cls ≠ "java/lang/invoke/MethodHandle" ∧ yL_estimate.cls ≠ "java/lang/invoke/VarHandle" ∧ (parseMethodDescriptor yL_estimate.desc).map (fun d => d.parameters.length) = some 4 := by decide +kernel
theorem wz_L_givens : Cond.static yL_givens ∈ wsU := tb3 (i := 168) rfl rfl
theorem pd_L_givens : yL_givens.cls ≠ "java/lang/invoke/MethodHandle" ∧ yL_givens.cls ≠ "java/lang/invoke/VarHandle" ∧ (parseMethodDescriptor yL_givens.desc).map (fun d => d.parameters.length) = some 4 := by decide +kernel
theorem wz_L_slip : Cond.static yL_slip ∈ wsU := tb3 (i := 200) rfl rfl
theorem pd_L_slip : yL_slip.cls ≠ "java/lang/invoke/MethodHandle" ∧ yL_slip.cls ≠ "java/lang/invoke/VarHandle" ∧ (parseMethodDescriptor yL_slip.desc).map (fun d => d.parameters.length) = some 4 := by decide +kernel
theorem wz_L_orthogonal : Cond.static yL_orthogonal ∈ wsU := tb3 (i := 223) rfl rfl
theorem pd_L_orthogonal : yL_orthogonal.cls ≠ "java/lang/invoke/MethodHandle" ∧ yL_orthogonal.cls ≠ "java/lang/invoke/VarHandle" ∧ (parseMethodDescriptor yL_orthogonal.desc).map (fun d => d.parameters.length) = some 4 := by decide +kernel
theorem wz_L_stack : Cond.static yL_stack ∈ wsU := tb3 (i := 235) rfl rfl
theorem pd_L_stack : yL_stack.cls ≠ "java/lang/invoke/MethodHandle" ∧ yL_stack.cls ≠ "java/lang/invoke/VarHandle" ∧ (parseMethodDescriptor yL_stack.desc).map (fun d => d.parameters.length) = some 4 := by decide +kernel
theorem wz_L_product : Cond.static yL_product ∈ wsU := tb4 (i := 19) rfl rfl
theorem pd_L_product : yL_product.cls ≠ "java/lang/invoke/MethodHandle" ∧ yL_product.cls ≠ "java/lang/invoke/VarHandle" ∧ (parseMethodDescriptor yL_product.desc).map (fun d => d.parameters.length) = some 4 := by decide +kernel
theorem wz_L_crossings : Cond.static yL_crossings ∈ wsU := tb4 (i := 39) rfl rfl
theorem pd_L_crossings : yL_crossings.cls ≠ "java/lang/invoke/MethodHandle" ∧ yL_crossings.cls ≠ "java/lang/invoke/VarHandle" ∧ (parseMethodDescriptor yL_crossings.desc).map (fun d => d.parameters.length) = some 4 := by decide +kernel
theorem wz_L_dimension : Cond.static yL_dimension ∈ wsU := tb4 (i := 49) rfl rfl
theorem pd_L_dimension : yL_dimension.cls ≠ "java/lang/invoke/MethodHandle" ∧ yL_dimension.cls ≠ "java/lang/invoke/VarHandle" ∧ (parseMethodDescriptor yL_dimension.desc).map (fun d => d.parameters.length) = some 4 := by decide +kernel
theorem pd_L_law : yL_law.cls ≠ "java/lang/invoke/MethodHandle" ∧ yL_law.cls ≠ "java/lang/invoke/VarHandle" ∧ (parseMethodDescriptor yL_law.desc).map (fun d => d.parameters.length) = some 1 := by decide +kernel
theorem k_L_82 : Cond.methodLink RL 82 yX11_init ∈ wsU := tb1 (i := 24) rfl rfl
theorem k_X11_15 : Cond.methodLink RX11 15 yX1_init ∈ wsU := tb1 (i := 33) rfl rfl
theorem k_X11_22 : Cond.methodLink RX11 22 yX8_init ∈ wsU := tb1 (i := 47) rfl rfl
theorem k_X11_29 : Cond.methodLink RX11 29 yX3_init ∈ wsU := tb1 (i := 97) rfl rfl
theorem k_X11_36 : Cond.methodLink RX11 36 yX10_init ∈ wsU := tb1 (i := 107) rfl rfl
theorem k_L_126 : lkV RL RX11 126 yX11_classes cX11_classes 3 (some .int) 0 := ⟨gi_V (tb1 (i := 148) rfl rfl) wj_X11_classes wx_X11_classes wi_RX11 wc_X11_classes, rfl, pd_X11_classes⟩
theorem k_X11_134 : lkV RX11 RX11 134 yX11_hasEarlierKin cX11_hasEarlierKin 3 (some .boolean) 1 := ⟨gi_V (tb1 (i := 152) rfl rfl) wj_X11_hasEarlierKin wx_X11_hasEarlierKin wi_RX11 wc_X11_hasEarlierKin, rfl, pd_X11_hasEarlierKin⟩
theorem k_X11_56 : lkV RX11 RX11 56 yX11_figureOf cX11_figureOf 2 (some (.object "LoshuHall$Figure")) 1 := ⟨gi_V (tb1 (i := 156) rfl rfl) wj_X11_figureOf wx_X11_figureOf wi_RX11 wc_X11_figureOf, rfl, pd_X11_figureOf⟩
theorem k_X11_118 : lkS RX11 118 yX2_areKin cX2_areKin 3 (some .boolean) 2 := ⟨gi_S (tb1 (i := 228) rfl rfl) wz_X2_areKin wi_RX2 wc_X2_areKin, pd_X2_areKin⟩
theorem k_X2_28 : lkS RX2 28 yX2_isForm cX2_isForm 4 (some .boolean) 3 := ⟨gi_S (tb1 (i := 231) rfl rfl) wz_X2_isForm wi_RX2 wc_X2_isForm, pd_X2_isForm⟩
theorem k_X2_7 : lkV RX2 RX1 7 yX1_side cX1_side 1 (some .int) 0 := ⟨gi_V (tb1 (i := 234) rfl rfl) wj_X1_side wx_X1_side wi_RX1 wc_X1_side, rfl, pd_X1_side⟩
theorem k_X2_32 : lkV RX2 RX1 32 yX1_size cX1_size 1 (some .int) 0 := ⟨gi_V (tb1 (i := 238) rfl rfl) wj_X1_size wx_X1_size wi_RX1 wc_X1_size, rfl, pd_X1_size⟩
theorem k_X2_35 : lkS RX2 35 yX2_numberIn cX2_numberIn 4 (some .int) 3 := ⟨gi_S (tb2 (i := 2) rfl rfl) wz_X2_numberIn wi_RX2 wc_X2_numberIn, pd_X2_numberIn⟩
theorem k_X2_13 : lkS RX2 13 yX7_aheadOfTurn cX7_aheadOfTurn 6 (some .int) 3 := ⟨gi_S (tb2 (i := 5) rfl rfl) wz_X7_aheadOfTurn wi_RX7 wc_X7_aheadOfTurn, pd_X7_aheadOfTurn⟩
theorem k_X7_15 : lkS RX7 15 yX7_rowOf cX7_rowOf 2 (some .int) 2 := ⟨gi_S (tb2 (i := 8) rfl rfl) wz_X7_rowOf wi_RX7 wc_X7_rowOf, pd_X7_rowOf⟩
theorem k_X7_20 : lkS RX7 20 yX7_columnOf cX7_columnOf 2 (some .int) 2 := ⟨gi_S (tb2 (i := 11) rfl rfl) wz_X7_columnOf wi_RX7 wc_X7_columnOf, pd_X7_columnOf⟩
theorem k_X7_23 : lkS RX7 23 yX7_of cX7_of 3 (some .int) 3 := ⟨gi_S (tb2 (i := 14) rfl rfl) wz_X7_of wi_RX7 wc_X7_of, pd_X7_of⟩
theorem k_X2_19 : lkS RX2 19 yX7_aheadOfFlip cX7_aheadOfFlip 3 (some .int) 3 := ⟨gi_S (tb2 (i := 17) rfl rfl) wz_X7_aheadOfFlip wi_RX7 wc_X7_aheadOfFlip, pd_X7_aheadOfFlip⟩
theorem k_X2_22 : lkV RX2 RX1 22 yX1_read cX1_read 2 (some .int) 1 := ⟨gi_V (tb2 (i := 20) rfl rfl) wj_X1_read wx_X1_read wi_RX1 wc_X1_read, rfl, pd_X1_read⟩
theorem k_L_7 : lkV RL RX11 7 yX11_square cX11_square 2 (some .int) 1 := ⟨gi_V (tb2 (i := 29) rfl rfl) wj_X11_square wx_X11_square wi_RX11 wc_X11_square, rfl, pd_X11_square⟩
theorem k_X11_45 : lkS RX11 45 yX11_requireRange cX11_requireRange 3 none 3 := ⟨gi_S (tb2 (i := 33) rfl rfl) wz_X11_requireRange wi_RX11 wc_X11_requireRange, pd_X11_requireRange⟩
theorem k_X11_49 : lkV RX11 RX11 49 yX11_requireRoom cX11_requireRoom 1 none 0 := ⟨gi_V (tb2 (i := 52) rfl rfl) wj_X11_requireRoom wx_X11_requireRoom wi_RX11 wc_X11_requireRoom, rfl, pd_X11_requireRoom⟩
theorem k_X11_52 : lkV RX11 RX11 52 yX11_addFigure cX11_addFigure 3 (some .int) 1 := ⟨gi_V (tb2 (i := 72) rfl rfl) wj_X11_addFigure wx_X11_addFigure wi_RX11 wc_X11_addFigure, rfl, pd_X11_addFigure⟩
theorem k_X11_228 : lkV RX11 RX1 228 yX1_begin cX1_begin 3 none 1 := ⟨gi_V (tb2 (i := 76) rfl rfl) wj_X1_begin wx_X1_begin wi_RX1 wc_X1_begin, rfl, pd_X1_begin⟩
theorem k_L_17 : lkV RL RX11 17 yX11_put cX11_put 6 (some .int) 4 := ⟨gi_V (tb2 (i := 84) rfl rfl) wj_X11_put wx_X11_put wi_RX11 wc_X11_put, rfl, pd_X11_put⟩
theorem k_X11_60 : lkS RX11 60 yX11_requirePoint cX11_requirePoint 3 none 3 := ⟨gi_S (tb2 (i := 88) rfl rfl) wz_X11_requirePoint wi_RX11 wc_X11_requirePoint, pd_X11_requirePoint⟩
theorem k_X11_94 : lkV RX11 RX1 94 yX1_side cX1_side 1 (some .int) 0 := ⟨gi_V (tb2 (i := 91) rfl rfl) wj_X1_side wx_X1_side wi_RX1 wc_X1_side, rfl, pd_X1_side⟩
theorem k_X11_64 : lkV RX11 RX1 64 yX1_placeOf cX1_placeOf 3 (some .int) 2 := ⟨gi_V (tb2 (i := 93) rfl rfl) wj_X1_placeOf wx_X1_placeOf wi_RX1 wc_X1_placeOf, rfl, pd_X1_placeOf⟩
theorem k_X1_37 : lkS RX1 37 yX7_of cX7_of 3 (some .int) 3 := ⟨gi_S (tb2 (i := 97) rfl rfl) wz_X7_of wi_RX7 wc_X7_of, pd_X7_of⟩
theorem k_X11_68 : lkV RX11 RX1 68 yX1_write cX1_write 4 (some .int) 2 := ⟨gi_V (tb2 (i := 98) rfl rfl) wj_X1_write wx_X1_write wi_RX1 wc_X1_write, rfl, pd_X1_write⟩
theorem k_L_23 : lkV RL RX11 23 yX11_at cX11_at 5 (some .int) 3 := ⟨gi_V (tb2 (i := 105) rfl rfl) wj_X11_at wx_X11_at wi_RX11 wc_X11_at, rfl, pd_X11_at⟩
theorem k_X11_71 : lkV RX11 RX1 71 yX1_read cX1_read 2 (some .int) 1 := ⟨gi_V (tb2 (i := 109) rfl rfl) wj_X1_read wx_X1_read wi_RX1 wc_X1_read, rfl, pd_X1_read⟩
theorem k_L_27 : lkV RL RX11 27 yX11_make cX11_make 4 (some .int) 2 := ⟨gi_V (tb2 (i := 113) rfl rfl) wj_X11_make wx_X11_make wi_RX11 wc_X11_make, rfl, pd_X11_make⟩
theorem k_X11_74 : lkS RX11 74 yX5_holdsFor cX5_holdsFor 2 (some .boolean) 2 := ⟨gi_S (tb2 (i := 117) rfl rfl) wz_X5_holdsFor wi_RX5 wc_X5_holdsFor, pd_X5_holdsFor⟩
theorem k_X11_80 : lkS RX11 80 yX11_requireState cX11_requireState 1 none 1 := ⟨gi_S (tb2 (i := 120) rfl rfl) wz_X11_requireState wi_RX11 wc_X11_requireState, pd_X11_requireState⟩
theorem k_X11_84 : lkS RX11 84 yX5_lay cX5_lay 3 none 3 := ⟨gi_S (tb2 (i := 124) rfl rfl) wz_X5_lay wi_RX5 wc_X5_lay, pd_X5_lay⟩
theorem k_X5_9 : lkS RX5 9 yX5_laySiege cX5_laySiege 7 none 1 := ⟨gi_S (tb2 (i := 127) rfl rfl) wz_X5_laySiege wi_RX5 wc_X5_laySiege, pd_X5_laySiege⟩
theorem k_X5_25 : lkV RX5 RX1 25 yX1_side cX1_side 1 (some .int) 0 := ⟨gi_V (tb2 (i := 130) rfl rfl) wj_X1_side wx_X1_side wi_RX1 wc_X1_side, rfl, pd_X1_side⟩
theorem k_X5_31 : lkV RX5 RX1 31 yX1_size cX1_size 1 (some .int) 0 := ⟨gi_V (tb2 (i := 131) rfl rfl) wj_X1_size wx_X1_size wi_RX1 wc_X1_size, rfl, pd_X1_size⟩
theorem k_X5_34 : lkV RX5 RX1 34 yX1_placeOf cX1_placeOf 3 (some .int) 2 := ⟨gi_V (tb2 (i := 132) rfl rfl) wj_X1_placeOf wx_X1_placeOf wi_RX1 wc_X1_placeOf, rfl, pd_X1_placeOf⟩
theorem k_X5_38 : lkV RX5 RX1 38 yX1_write cX1_write 4 (some .int) 2 := ⟨gi_V (tb2 (i := 133) rfl rfl) wj_X1_write wx_X1_write wi_RX1 wc_X1_write, rfl, pd_X1_write⟩
theorem k_X5_41 : lkS RX5 41 yX7_wrap cX7_wrap 2 (some .int) 2 := ⟨gi_S (tb2 (i := 134) rfl rfl) wz_X7_wrap wi_RX7 wc_X7_wrap, pd_X7_wrap⟩
theorem k_X7_9 : lkS RX7 9 yJ9_floorMod_7cf53 cJ9_floorMod_7cf53 3 (some .int) 2 := ⟨gi_S (tb2 (i := 137) rfl rfl) wz_J9_floorMod_7cf53 wi_RJ9 wc_J9_floorMod_7cf53, pd_J9_floorMod_7cf53⟩
theorem k_X5_46 : lkV RX5 RX1 46 yX1_read cX1_read 2 (some .int) 1 := ⟨gi_V (tb2 (i := 140) rfl rfl) wj_X1_read wx_X1_read wi_RX1 wc_X1_read, rfl, pd_X1_read⟩
theorem k_X5_15 : lkS RX5 15 yX5_layCross cX5_layCross 6 none 1 := ⟨gi_S (tb2 (i := 141) rfl rfl) wz_X5_layCross wi_RX5 wc_X5_layCross, pd_X5_layCross⟩
theorem k_X5_50 : lkS RX5 50 yX7_rowOf cX7_rowOf 2 (some .int) 2 := ⟨gi_S (tb2 (i := 144) rfl rfl) wz_X7_rowOf wi_RX7 wc_X7_rowOf, pd_X7_rowOf⟩
theorem k_X5_53 : lkS RX5 53 yX7_columnOf cX7_columnOf 2 (some .int) 2 := ⟨gi_S (tb2 (i := 145) rfl rfl) wz_X7_columnOf wi_RX7 wc_X7_columnOf, pd_X7_columnOf⟩
theorem k_X5_18 : lkS RX5 18 yX5_layDigits cX5_layDigits 6 none 1 := ⟨gi_S (tb2 (i := 146) rfl rfl) wz_X5_layDigits wi_RX5 wc_X5_layDigits, pd_X5_layDigits⟩
theorem k_X5_21 : lkS RX5 21 yX5_layLux cX5_layLux 8 none 2 := ⟨gi_S (tb2 (i := 149) rfl rfl) wz_X5_layLux wi_RX5 wc_X5_layLux, pd_X5_layLux⟩
theorem k_X5_56 : lkV RX5 RX1 56 yX1_begin cX1_begin 3 none 1 := ⟨gi_V (tb2 (i := 152) rfl rfl) wj_X1_begin wx_X1_begin wi_RX1 wc_X1_begin, rfl, pd_X1_begin⟩
theorem k_L_31 : lkV RL RX11 31 yX11_laws cX11_laws 2 (some .int) 1 := ⟨gi_V (tb2 (i := 156) rfl rfl) wj_X11_laws wx_X11_laws wi_RX11 wc_X11_laws, rfl, pd_X11_laws⟩
theorem k_X11_88 : lkS RX11 88 yX4_heldBy cX4_heldBy 3 (some .int) 1 := ⟨gi_S (tb2 (i := 160) rfl rfl) wz_X4_heldBy wi_RX4 wc_X4_heldBy, pd_X4_heldBy⟩
theorem k_X4_11 : lkS RX4 11 yX4_holds cX4_holds 3 (some .boolean) 2 := ⟨gi_S (tb2 (i := 163) rfl rfl) wz_X4_holds wi_RX4 wc_X4_holds, pd_X4_holds⟩
theorem k_X4_15 : lkV RX4 RX1 15 yX1_lineSum cX1_lineSum 5 (some .int) 2 := ⟨gi_V (tb2 (i := 166) rfl rfl) wj_X1_lineSum wx_X1_lineSum wi_RX1 wc_X1_lineSum, rfl, pd_X1_lineSum⟩
theorem k_X1_48 : lkS RX1 48 yX7_onLine cX7_onLine 4 (some .int) 4 := ⟨gi_S (tb2 (i := 170) rfl rfl) wz_X7_onLine wi_RX7 wc_X7_onLine, pd_X7_onLine⟩
theorem k_X1_29 : lkV RX1 RX1 29 yX1_read cX1_read 2 (some .int) 1 := ⟨gi_V (tb2 (i := 173) rfl rfl) wj_X1_read wx_X1_read wi_RX1 wc_X1_read, rfl, pd_X1_read⟩
theorem k_X4_32 : lkV RX4 RX1 32 yX1_countOf cX1_countOf 4 (some .int) 1 := ⟨gi_V (tb2 (i := 174) rfl rfl) wj_X1_countOf wx_X1_countOf wi_RX1 wc_X1_countOf, rfl, pd_X1_countOf⟩
theorem k_X1_26 : lkV RX1 RX1 26 yX1_size cX1_size 1 (some .int) 0 := ⟨gi_V (tb2 (i := 178) rfl rfl) wj_X1_size wx_X1_size wi_RX1 wc_X1_size, rfl, pd_X1_size⟩
theorem k_X4_21 : lkS RX4 21 yX4_areLinesAt cX4_areLinesAt 4 (some .boolean) 3 := ⟨gi_S (tb2 (i := 179) rfl rfl) wz_X4_areLinesAt wi_RX4 wc_X4_areLinesAt, pd_X4_areLinesAt⟩
theorem k_X4_46 : lkV RX4 RX1 46 yX1_side cX1_side 1 (some .int) 0 := ⟨gi_V (tb2 (i := 182) rfl rfl) wj_X1_side wx_X1_side wi_RX1 wc_X1_side, rfl, pd_X1_side⟩
theorem k_X4_25 : lkS RX4 25 yX4_areDiagonalsAt cX4_areDiagonalsAt 2 (some .boolean) 2 := ⟨gi_S (tb2 (i := 183) rfl rfl) wz_X4_areDiagonalsAt wi_RX4 wc_X4_areDiagonalsAt, pd_X4_areDiagonalsAt⟩
theorem k_X4_36 : lkS RX4 36 yX4_areOppositesAlike cX4_areOppositesAlike 4 (some .boolean) 1 := ⟨gi_S (tb2 (i := 186) rfl rfl) wz_X4_areOppositesAlike wi_RX4 wc_X4_areOppositesAlike, pd_X4_areOppositesAlike⟩
theorem k_X4_28 : lkV RX4 RX1 28 yX1_size cX1_size 1 (some .int) 0 := ⟨gi_V (tb2 (i := 189) rfl rfl) wj_X1_size wx_X1_size wi_RX1 wc_X1_size, rfl, pd_X1_size⟩
theorem k_X4_49 : lkV RX4 RX1 49 yX1_read cX1_read 2 (some .int) 1 := ⟨gi_V (tb2 (i := 190) rfl rfl) wj_X1_read wx_X1_read wi_RX1 wc_X1_read, rfl, pd_X1_read⟩
theorem k_X4_40 : lkS RX4 40 yX4_isNormal cX4_isNormal 2 (some .boolean) 1 := ⟨gi_S (tb2 (i := 191) rfl rfl) wz_X4_isNormal wi_RX4 wc_X4_isNormal, pd_X4_isNormal⟩
theorem k_X4_43 : lkS RX4 43 yX4_arePowersAlike cX4_arePowersAlike 3 (some .boolean) 1 := ⟨gi_S (tb2 (i := 194) rfl rfl) wz_X4_arePowersAlike wi_RX4 wc_X4_arePowersAlike, pd_X4_arePowersAlike⟩
theorem k_X4_52 : lkV RX4 RX1 52 yX1_linePower cX1_linePower 6 (some .int) 2 := ⟨gi_V (tb2 (i := 197) rfl rfl) wj_X1_linePower wx_X1_linePower wi_RX1 wc_X1_linePower, rfl, pd_X1_linePower⟩
theorem k_L_34 : lkV RL RX11 34 yX11_sum cX11_sum 5 (some .int) 3 := ⟨gi_V (tb2 (i := 204) rfl rfl) wj_X11_sum wx_X11_sum wi_RX11 wc_X11_sum, rfl, pd_X11_sum⟩
theorem k_X11_98 : lkV RX11 RX1 98 yX1_lineSum cX1_lineSum 5 (some .int) 2 := ⟨gi_V (tb2 (i := 208) rfl rfl) wj_X1_lineSum wx_X1_lineSum wi_RX1 wc_X1_lineSum, rfl, pd_X1_lineSum⟩
theorem k_L_37 : lkV RL RX11 37 yX11_change cX11_change 5 (some .int) 3 := ⟨gi_V (tb2 (i := 212) rfl rfl) wj_X11_change wx_X11_change wi_RX11 wc_X11_change, rfl, pd_X11_change⟩
theorem k_X11_101 : lkS RX11 101 yX0_mostBy cX0_mostBy 2 (some .int) 2 := ⟨gi_S (tb2 (i := 216) rfl rfl) wz_X0_mostBy wi_RX0 wc_X0_mostBy, pd_X0_mostBy⟩
theorem k_X11_106 : lkS RX11 106 yX0_move cX0_move 7 (some .int) 4 := ⟨gi_S (tb2 (i := 219) rfl rfl) wz_X0_move wi_RX0 wc_X0_move, pd_X0_move⟩
theorem k_X0_9 : lkV RX0 RX1 9 yX1_copyFrom cX1_copyFrom 3 none 1 := ⟨gi_V (tb2 (i := 222) rfl rfl) wj_X1_copyFrom wx_X1_copyFrom wi_RX1 wc_X1_copyFrom, rfl, pd_X1_copyFrom⟩
theorem k_X1_19 : lkV RX1 RX1 19 yX1_side cX1_side 1 (some .int) 0 := ⟨gi_V (tb2 (i := 226) rfl rfl) wj_X1_side wx_X1_side wi_RX1 wc_X1_side, rfl, pd_X1_side⟩
theorem k_X1_22 : lkV RX1 RX1 22 yX1_begin cX1_begin 3 none 1 := ⟨gi_V (tb2 (i := 227) rfl rfl) wj_X1_begin wx_X1_begin wi_RX1 wc_X1_begin, rfl, pd_X1_begin⟩
theorem k_X1_33 : lkV RX1 RX1 33 yX1_write cX1_write 4 (some .int) 2 := ⟨gi_V (tb2 (i := 228) rfl rfl) wj_X1_write wx_X1_write wi_RX1 wc_X1_write, rfl, pd_X1_write⟩
theorem k_X0_15 : lkV RX0 RX1 15 yX1_size cX1_size 1 (some .int) 0 := ⟨gi_V (tb2 (i := 229) rfl rfl) wj_X1_size wx_X1_size wi_RX1 wc_X1_size, rfl, pd_X1_size⟩
theorem k_X0_19 : lkV RX0 RX1 19 yX1_side cX1_side 1 (some .int) 0 := ⟨gi_V (tb2 (i := 230) rfl rfl) wj_X1_side wx_X1_side wi_RX1 wc_X1_side, rfl, pd_X1_side⟩
theorem k_X0_22 : lkS RX0 22 yX0_aheadOf cX0_aheadOf 4 (some .int) 4 := ⟨gi_S (tb2 (i := 231) rfl rfl) wz_X0_aheadOf wi_RX0 wc_X0_aheadOf, pd_X0_aheadOf⟩
theorem k_X0_36 : lkS RX0 36 yX7_aheadOfTurn cX7_aheadOfTurn 6 (some .int) 3 := ⟨gi_S (tb2 (i := 234) rfl rfl) wz_X7_aheadOfTurn wi_RX7 wc_X7_aheadOfTurn, pd_X7_aheadOfTurn⟩
theorem k_X0_42 : lkS RX0 42 yX7_aheadOfFlip cX7_aheadOfFlip 3 (some .int) 3 := ⟨gi_S (tb2 (i := 235) rfl rfl) wz_X7_aheadOfFlip wi_RX7 wc_X7_aheadOfFlip, pd_X7_aheadOfFlip⟩
theorem k_X0_45 : lkS RX0 45 yX7_aheadOfShift cX7_aheadOfShift 4 (some .int) 4 := ⟨gi_S (tb2 (i := 236) rfl rfl) wz_X7_aheadOfShift wi_RX7 wc_X7_aheadOfShift, pd_X7_aheadOfShift⟩
theorem k_X7_27 : lkS RX7 27 yX7_wrap cX7_wrap 2 (some .int) 2 := ⟨gi_S (tb2 (i := 239) rfl rfl) wz_X7_wrap wi_RX7 wc_X7_wrap, pd_X7_wrap⟩
theorem k_X0_48 : lkS RX0 48 yX7_aheadOfPairs cX7_aheadOfPairs 3 (some .int) 3 := ⟨gi_S (tb3 (i := 0) rfl rfl) wz_X7_aheadOfPairs wi_RX7 wc_X7_aheadOfPairs, pd_X7_aheadOfPairs⟩
theorem k_X7_30 : lkS RX7 30 yX7_swapped cX7_swapped 4 (some .int) 3 := ⟨gi_S (tb3 (i := 3) rfl rfl) wz_X7_swapped wi_RX7 wc_X7_swapped, pd_X7_swapped⟩
theorem k_X0_28 : lkV RX0 RX1 28 yX1_read cX1_read 2 (some .int) 1 := ⟨gi_V (tb3 (i := 6) rfl rfl) wj_X1_read wx_X1_read wi_RX1 wc_X1_read, rfl, pd_X1_read⟩
theorem k_X0_32 : lkV RX0 RX1 32 yX1_write cX1_write 4 (some .int) 2 := ⟨gi_V (tb3 (i := 7) rfl rfl) wj_X1_write wx_X1_write wi_RX1 wc_X1_write, rfl, pd_X1_write⟩
theorem k_X11_110 : lkS RX11 110 yX0_canComplement cX0_canComplement 4 (some .boolean) 2 := ⟨gi_S (tb3 (i := 8) rfl rfl) wz_X0_canComplement wi_RX0 wc_X0_canComplement, pd_X0_canComplement⟩
theorem k_X11_114 : lkS RX11 114 yX0_complement cX0_complement 5 (some .int) 2 := ⟨gi_S (tb3 (i := 11) rfl rfl) wz_X0_complement wi_RX0 wc_X0_complement, pd_X0_complement⟩
theorem k_L_40 : lkV RL RX11 40 yX11_same cX11_same 4 (some .boolean) 2 := ⟨gi_V (tb3 (i := 17) rfl rfl) wj_X11_same wx_X11_same wi_RX11 wc_X11_same, rfl, pd_X11_same⟩
theorem k_L_44 : lkV RL RX11 44 yX11_least cX11_least 5 (some .int) 3 := ⟨gi_V (tb3 (i := 24) rfl rfl) wj_X11_least wx_X11_least wi_RX11 wc_X11_least, rfl, pd_X11_least⟩
theorem k_X11_124 : lkS RX11 124 yX2_leastOf cX2_leastOf 3 (some .int) 1 := ⟨gi_S (tb3 (i := 28) rfl rfl) wz_X2_leastOf wi_RX2 wc_X2_leastOf, pd_X2_leastOf⟩
theorem k_X2_39 : lkS RX2 39 yX2_isLower cX2_isLower 6 (some .boolean) 3 := ⟨gi_S (tb3 (i := 31) rfl rfl) wz_X2_isLower wi_RX2 wc_X2_isLower, pd_X2_isLower⟩
theorem k_X11_127 : lkS RX11 127 yX2_numberIn cX2_numberIn 4 (some .int) 3 := ⟨gi_S (tb3 (i := 34) rfl rfl) wz_X2_numberIn wi_RX2 wc_X2_numberIn, pd_X2_numberIn⟩
theorem k_L_47 : lkV RL RX11 47 yX11_kin cX11_kin 2 (some .int) 1 := ⟨gi_V (tb3 (i := 38) rfl rfl) wj_X11_kin wx_X11_kin wi_RX11 wc_X11_kin, rfl, pd_X11_kin⟩
theorem k_X11_131 : lkS RX11 131 yX2_countLike cX2_countLike 3 (some .int) 1 := ⟨gi_S (tb3 (i := 42) rfl rfl) wz_X2_countLike wi_RX2 wc_X2_countLike, pd_X2_countLike⟩
theorem k_L_50 : lkV RL RX11 50 yX11_completions cX11_completions 3 (some .int) 1 := ⟨gi_V (tb3 (i := 48) rfl rfl) wj_X11_completions wx_X11_completions wi_RX11 wc_X11_completions, rfl, pd_X11_completions⟩
theorem k_X11_138 : lkS RX11 138 yX11_canBeCompleted cX11_canBeCompleted 1 (some .boolean) 1 := ⟨gi_S (tb3 (i := 52) rfl rfl) wz_X11_canBeCompleted wi_RX11 wc_X11_canBeCompleted, pd_X11_canBeCompleted⟩
theorem k_X11_223 : lkV RX11 RX1 223 yX1_countOf cX1_countOf 4 (some .int) 1 := ⟨gi_V (tb3 (i := 55) rfl rfl) wj_X1_countOf wx_X1_countOf wi_RX1 wc_X1_countOf, rfl, pd_X1_countOf⟩
theorem k_X11_142 : lkV RX11 RX8 142 yX8_load cX8_load 4 none 1 := ⟨gi_V (tb3 (i := 56) rfl rfl) wj_X8_load wx_X8_load wi_RX8 wc_X8_load, rfl, pd_X8_load⟩
theorem k_X8_35 : lkV RX8 RX1 35 yX1_side cX1_side 1 (some .int) 0 := ⟨gi_V (tb3 (i := 60) rfl rfl) wj_X1_side wx_X1_side wi_RX1 wc_X1_side, rfl, pd_X1_side⟩
theorem k_X8_40 : lkV RX8 RX8 40 yX8_begin cX8_begin 3 none 1 := ⟨gi_V (tb3 (i := 61) rfl rfl) wj_X8_begin wx_X8_begin wi_RX8 wc_X8_begin, rfl, pd_X8_begin⟩
theorem k_X8_72 : lkV RX8 RX8 72 yX8_lineThrough cX8_lineThrough 5 (some .int) 2 := ⟨gi_V (tb3 (i := 65) rfl rfl) wj_X8_lineThrough wx_X8_lineThrough wi_RX8 wc_X8_lineThrough, rfl, pd_X8_lineThrough⟩
theorem k_X8_76 : lkS RX8 76 yX7_rowOf cX7_rowOf 2 (some .int) 2 := ⟨gi_S (tb3 (i := 69) rfl rfl) wz_X7_rowOf wi_RX7 wc_X7_rowOf, pd_X7_rowOf⟩
theorem k_X8_81 : lkS RX8 81 yX7_columnOf cX7_columnOf 2 (some .int) 2 := ⟨gi_S (tb3 (i := 70) rfl rfl) wz_X7_columnOf wi_RX7 wc_X7_columnOf, pd_X7_columnOf⟩
theorem k_X8_44 : lkV RX8 RX1 44 yX1_size cX1_size 1 (some .int) 0 := ⟨gi_V (tb3 (i := 71) rfl rfl) wj_X1_size wx_X1_size wi_RX1 wc_X1_size, rfl, pd_X1_size⟩
theorem k_X8_47 : lkV RX8 RX1 47 yX1_read cX1_read 2 (some .int) 1 := ⟨gi_V (tb3 (i := 72) rfl rfl) wj_X1_read wx_X1_read wi_RX1 wc_X1_read, rfl, pd_X1_read⟩
theorem k_X8_51 : lkV RX8 RX8 51 yX8_addEmpty cX8_addEmpty 2 none 1 := ⟨gi_V (tb3 (i := 73) rfl rfl) wj_X8_addEmpty wx_X8_addEmpty wi_RX8 wc_X8_addEmpty, rfl, pd_X8_addEmpty⟩
theorem k_X8_54 : lkV RX8 RX8 54 yX8_isFree cX8_isFree 2 (some .boolean) 1 := ⟨gi_V (tb3 (i := 77) rfl rfl) wj_X8_isFree wx_X8_isFree wi_RX8 wc_X8_isFree, rfl, pd_X8_isFree⟩
theorem k_X8_58 : lkV RX8 RX8 58 yX8_lay cX8_lay 3 none 2 := ⟨gi_V (tb3 (i := 81) rfl rfl) wj_X8_lay wx_X8_lay wi_RX8 wc_X8_lay, rfl, pd_X8_lay⟩
theorem k_X8_140 : lkV RX8 RX8 140 yX8_tally cX8_tally 6 none 3 := ⟨gi_V (tb3 (i := 85) rfl rfl) wj_X8_tally wx_X8_tally wi_RX8 wc_X8_tally, rfl, pd_X8_tally⟩
theorem k_X8_129 : lkV RX8 RX8 129 yX8_lineAt cX8_lineAt 4 (some .int) 2 := ⟨gi_V (tb3 (i := 89) rfl rfl) wj_X8_lineAt wx_X8_lineAt wi_RX8 wc_X8_lineAt, rfl, pd_X8_lineAt⟩
theorem k_X8_126 : lkV RX8 RX8 126 yX8_isLine cX8_isLine 2 (some .boolean) 1 := ⟨gi_V (tb3 (i := 93) rfl rfl) wj_X8_isLine wx_X8_isLine wi_RX8 wc_X8_isLine, rfl, pd_X8_isLine⟩
theorem k_X11_146 : lkV RX11 RX8 146 yX8_countAll cX8_countAll 1 (some .int) 0 := ⟨gi_V (tb3 (i := 97) rfl rfl) wj_X8_countAll wx_X8_countAll wi_RX8 wc_X8_countAll, rfl, pd_X8_countAll⟩
theorem k_X8_84 : lkV RX8 RX8 84 yX8_seek cX8_seek 3 none 2 := ⟨gi_V (tb3 (i := 101) rfl rfl) wj_X8_seek wx_X8_seek wi_RX8 wc_X8_seek, rfl, pd_X8_seek⟩
theorem k_X8_99 : lkV RX8 RX8 99 yX8_fits cX8_fits 2 (some .boolean) 0 := ⟨gi_V (tb3 (i := 105) rfl rfl) wj_X8_fits wx_X8_fits wi_RX8 wc_X8_fits, rfl, pd_X8_fits⟩
theorem k_X8_103 : lkS RX8 103 yX8_fillFrom cX8_fillFrom 5 none 2 := ⟨gi_S (tb3 (i := 109) rfl rfl) wz_X8_fillFrom wi_RX8 wc_X8_fillFrom, pd_X8_fillFrom⟩
theorem k_X8_107 : lkV RX8 RX8 107 yX8_meet cX8_meet 1 none 0 := ⟨gi_V (tb3 (i := 112) rfl rfl) wj_X8_meet wx_X8_meet wi_RX8 wc_X8_meet, rfl, pd_X8_meet⟩
theorem k_X8_110 : lkV RX8 RX8 110 yX8_highestAt cX8_highestAt 6 (some .int) 1 := ⟨gi_V (tb3 (i := 116) rfl rfl) wj_X8_highestAt wx_X8_highestAt wi_RX8 wc_X8_highestAt, rfl, pd_X8_highestAt⟩
theorem k_X8_137 : lkS RX8 137 yJ9_min_7cf53 cJ9_min_7cf53 2 (some .int) 2 := ⟨gi_S (tb3 (i := 120) rfl rfl) wz_J9_min_7cf53 wi_RJ9 wc_J9_min_7cf53, pd_J9_min_7cf53⟩
theorem k_X8_113 : lkV RX8 RX8 113 yX8_lowestAt cX8_lowestAt 5 (some .int) 1 := ⟨gi_V (tb3 (i := 123) rfl rfl) wj_X8_lowestAt wx_X8_lowestAt wi_RX8 wc_X8_lowestAt, rfl, pd_X8_lowestAt⟩
theorem k_X8_132 : lkS RX8 132 yJ9_max_7cf53 cJ9_max_7cf53 2 (some .int) 2 := ⟨gi_S (tb3 (i := 127) rfl rfl) wz_J9_max_7cf53 wi_RJ9 wc_J9_max_7cf53, pd_J9_max_7cf53⟩
theorem k_X8_116 : lkV RX8 RX8 116 yX8_lift cX8_lift 3 none 2 := ⟨gi_V (tb3 (i := 130) rfl rfl) wj_X8_lift wx_X8_lift wi_RX8 wc_X8_lift, rfl, pd_X8_lift⟩
theorem k_L_53 : lkV RL RX11 53 yX11_completion cX11_completion 6 (some .int) 4 := ⟨gi_V (tb3 (i := 137) rfl rfl) wj_X11_completion wx_X11_completion wi_RX11 wc_X11_completion, rfl, pd_X11_completion⟩
theorem k_X11_156 : lkV RX11 RX8 156 yX8_numberIn cX8_numberIn 3 (some .int) 2 := ⟨gi_V (tb3 (i := 142) rfl rfl) wj_X8_numberIn wx_X8_numberIn wi_RX8 wc_X8_numberIn, rfl, pd_X8_numberIn⟩
theorem k_L_56 : lkV RL RX11 56 yX11_estimate cX11_estimate 4 (some .long) 2 := ⟨gi_V (tb3 (i := 149) rfl rfl) wj_X11_estimate wx_X11_estimate wi_RX11 wc_X11_estimate, rfl, pd_X11_estimate⟩
theorem k_X11_159 : lkV RX11 RX8 159 yX8_estimateFrom cX8_estimateFrom 7 (some .long) 1 := ⟨gi_V (tb3 (i := 154) rfl rfl) wj_X8_estimateFrom wx_X8_estimateFrom wi_RX8 wc_X8_estimateFrom, rfl, pd_X8_estimateFrom⟩
theorem k_X8_119 : lkV RX8 RX8 119 yX8_countChoices cX8_countChoices 5 (some .int) 1 := ⟨gi_V (tb3 (i := 158) rfl rfl) wj_X8_countChoices wx_X8_countChoices wi_RX8 wc_X8_countChoices, rfl, pd_X8_countChoices⟩
theorem k_X8_123 : lkV RX8 RX8 123 yX8_choiceAt cX8_choiceAt 6 (some .int) 2 := ⟨gi_V (tb3 (i := 163) rfl rfl) wj_X8_choiceAt wx_X8_choiceAt wi_RX8 wc_X8_choiceAt, rfl, pd_X8_choiceAt⟩
theorem k_L_60 : lkV RL RX11 60 yX11_givens cX11_givens 5 (some .int) 2 := ⟨gi_V (tb3 (i := 170) rfl rfl) wj_X11_givens wx_X11_givens wi_RX11 wc_X11_givens, rfl, pd_X11_givens⟩
theorem k_X11_163 : lkS RX11 163 yX4_isNormal cX4_isNormal 2 (some .boolean) 1 := ⟨gi_S (tb3 (i := 174) rfl rfl) wz_X4_isNormal wi_RX4 wc_X4_isNormal, pd_X4_isNormal⟩
theorem k_X11_166 : lkS RX11 166 yX4_isMagic cX4_isMagic 2 (some .boolean) 1 := ⟨gi_S (tb3 (i := 175) rfl rfl) wz_X4_isMagic wi_RX4 wc_X4_isMagic, pd_X4_isMagic⟩
theorem k_X11_169 : lkV RX11 RX3 169 yX3_fewestOf cX3_fewestOf 5 (some .int) 1 := ⟨gi_V (tb3 (i := 178) rfl rfl) wj_X3_fewestOf wx_X3_fewestOf wi_RX3 wc_X3_fewestOf, rfl, pd_X3_fewestOf⟩
theorem k_X3_15 : lkS RX3 15 yX3_differenceOf cX3_differenceOf 4 (some .int) 2 := ⟨gi_S (tb3 (i := 182) rfl rfl) wz_X3_differenceOf wi_RX3 wc_X3_differenceOf, pd_X3_differenceOf⟩
theorem k_X3_19 : lkV RX3 RX1 19 yX1_size cX1_size 1 (some .int) 0 := ⟨gi_V (tb3 (i := 185) rfl rfl) wj_X1_size wx_X1_size wi_RX1 wc_X1_size, rfl, pd_X1_size⟩
theorem k_X3_35 : lkS RX3 35 yX2_numberIn cX2_numberIn 4 (some .int) 3 := ⟨gi_S (tb3 (i := 186) rfl rfl) wz_X2_numberIn wi_RX2 wc_X2_numberIn, pd_X2_numberIn⟩
theorem k_X3_39 : lkV RX3 RX1 39 yX1_read cX1_read 2 (some .int) 1 := ⟨gi_V (tb3 (i := 187) rfl rfl) wj_X1_read wx_X1_read wi_RX1 wc_X1_read, rfl, pd_X1_read⟩
theorem k_X3_25 : lkS RX3 25 yJ6_bitCount_0f7a4 cJ6_bitCount_0f7a4 1 (some .int) 1 := ⟨gi_S (tb3 (i := 188) rfl rfl) wz_J6_bitCount_0f7a4 wi_RJ6 wc_J6_bitCount_0f7a4, pd_J6_bitCount_0f7a4⟩
theorem k_X3_31 : lkV RX3 RX3 31 yX3_tellsAllApart cX3_tellsAllApart 6 (some .boolean) 1 := ⟨gi_V (tb3 (i := 194) rfl rfl) wj_X3_tellsAllApart wx_X3_tellsAllApart wi_RX3 wc_X3_tellsAllApart, rfl, pd_X3_tellsAllApart⟩
theorem k_X11_172 : lkS RX11 172 yJ6_bitCount_0f7a4 cJ6_bitCount_0f7a4 1 (some .int) 1 := ⟨gi_S (tb3 (i := 198) rfl rfl) wz_J6_bitCount_0f7a4 wi_RJ6 wc_J6_bitCount_0f7a4, pd_J6_bitCount_0f7a4⟩
theorem k_L_64 : lkV RL RX11 64 yX11_slip cX11_slip 4 (some .int) 2 := ⟨gi_V (tb3 (i := 202) rfl rfl) wj_X11_slip wx_X11_slip wi_RX11 wc_X11_slip, rfl, pd_X11_slip⟩
theorem k_X11_179 : lkS RX11 179 yX9_tell cX9_tell 5 (some .int) 2 := ⟨gi_S (tb3 (i := 206) rfl rfl) wz_X9_tell wi_RX9 wc_X9_tell, pd_X9_tell⟩
theorem k_X9_9 : lkV RX9 RX1 9 yX1_side cX1_side 1 (some .int) 0 := ⟨gi_V (tb3 (i := 209) rfl rfl) wj_X1_side wx_X1_side wi_RX1 wc_X1_side, rfl, pd_X1_side⟩
theorem k_X9_15 : lkV RX9 RX1 15 yX1_read cX1_read 2 (some .int) 1 := ⟨gi_V (tb3 (i := 210) rfl rfl) wj_X1_read wx_X1_read wi_RX1 wc_X1_read, rfl, pd_X1_read⟩
theorem k_X9_19 : lkS RX9 19 yX9_tellOfOnePoint cX9_tellOfOnePoint 2 (some .int) 2 := ⟨gi_S (tb3 (i := 211) rfl rfl) wz_X9_tellOfOnePoint wi_RX9 wc_X9_tellOfOnePoint, pd_X9_tellOfOnePoint⟩
theorem k_X9_25 : lkV RX9 RX1 25 yX1_size cX1_size 1 (some .int) 0 := ⟨gi_V (tb3 (i := 214) rfl rfl) wj_X1_size wx_X1_size wi_RX1 wc_X1_size, rfl, pd_X1_size⟩
theorem k_X9_28 : lkS RX9 28 yX9_mendingAt cX9_mendingAt 7 (some .int) 2 := ⟨gi_S (tb3 (i := 215) rfl rfl) wz_X9_mendingAt wi_RX9 wc_X9_mendingAt, pd_X9_mendingAt⟩
theorem k_X9_32 : lkS RX9 32 yX7_rowOf cX7_rowOf 2 (some .int) 2 := ⟨gi_S (tb3 (i := 218) rfl rfl) wz_X7_rowOf wi_RX7 wc_X7_rowOf, pd_X7_rowOf⟩
theorem k_X9_37 : lkV RX9 RX1 37 yX1_lineSum cX1_lineSum 5 (some .int) 2 := ⟨gi_V (tb3 (i := 219) rfl rfl) wj_X1_lineSum wx_X1_lineSum wi_RX1 wc_X1_lineSum, rfl, pd_X1_lineSum⟩
theorem k_X9_40 : lkV RX9 RX1 40 yX1_write cX1_write 4 (some .int) 2 := ⟨gi_V (tb3 (i := 220) rfl rfl) wj_X1_write wx_X1_write wi_RX1 wc_X1_write, rfl, pd_X1_write⟩
theorem k_X9_43 : lkS RX9 43 yX4_isMagic cX4_isMagic 2 (some .boolean) 1 := ⟨gi_S (tb3 (i := 221) rfl rfl) wz_X4_isMagic wi_RX4 wc_X4_isMagic, pd_X4_isMagic⟩
theorem k_L_67 : lkV RL RX11 67 yX11_orthogonal cX11_orthogonal 5 (some .boolean) 2 := ⟨gi_V (tb3 (i := 225) rfl rfl) wj_X11_orthogonal wx_X11_orthogonal wi_RX11 wc_X11_orthogonal, rfl, pd_X11_orthogonal⟩
theorem k_X11_182 : lkS RX11 182 yX6_areOrthogonal cX6_areOrthogonal 4 (some .boolean) 2 := ⟨gi_S (tb3 (i := 229) rfl rfl) wz_X6_areOrthogonal wi_RX6 wc_X6_areOrthogonal, pd_X6_areOrthogonal⟩
theorem k_X6_9 : lkV RX6 RX1 9 yX1_size cX1_size 1 (some .int) 0 := ⟨gi_V (tb3 (i := 232) rfl rfl) wj_X1_size wx_X1_size wi_RX1 wc_X1_size, rfl, pd_X1_size⟩
theorem k_X6_15 : lkV RX6 RX1 15 yX1_read cX1_read 2 (some .int) 1 := ⟨gi_V (tb3 (i := 233) rfl rfl) wj_X1_read wx_X1_read wi_RX1 wc_X1_read, rfl, pd_X1_read⟩
theorem k_L_70 : lkV RL RX11 70 yX11_stack cX11_stack 6 (some .int) 2 := ⟨gi_V (tb3 (i := 237) rfl rfl) wj_X11_stack wx_X11_stack wi_RX11 wc_X11_stack, rfl, pd_X11_stack⟩
theorem k_X11_187 : lkS RX11 187 yX6_canStack cX6_canStack 3 (some .boolean) 2 := ⟨gi_S (tb4 (i := 1) rfl rfl) wz_X6_canStack wi_RX6 wc_X6_canStack, pd_X6_canStack⟩
theorem k_X6_19 : lkV RX6 RX1 19 yX1_side cX1_side 1 (some .int) 0 := ⟨gi_V (tb4 (i := 4) rfl rfl) wj_X1_side wx_X1_side wi_RX1 wc_X1_side, rfl, pd_X1_side⟩
theorem k_X6_22 : lkS RX6 22 yX6_areBothFull cX6_areBothFull 2 (some .boolean) 2 := ⟨gi_S (tb4 (i := 5) rfl rfl) wz_X6_areBothFull wi_RX6 wc_X6_areBothFull, pd_X6_areBothFull⟩
theorem k_X6_53 : lkV RX6 RX1 53 yX1_countOf cX1_countOf 4 (some .int) 1 := ⟨gi_V (tb4 (i := 8) rfl rfl) wj_X1_countOf wx_X1_countOf wi_RX1 wc_X1_countOf, rfl, pd_X1_countOf⟩
theorem k_X6_28 : lkV RX6 RX1 28 yX1_highest cX1_highest 3 (some .int) 0 := ⟨gi_V (tb4 (i := 9) rfl rfl) wj_X1_highest wx_X1_highest wi_RX1 wc_X1_highest, rfl, pd_X1_highest⟩
theorem k_X1_43 : lkS RX1 43 yJ9_max_7cf53 cJ9_max_7cf53 2 (some .int) 2 := ⟨gi_S (tb4 (i := 13) rfl rfl) wz_J9_max_7cf53 wi_RJ9 wc_J9_max_7cf53, pd_J9_max_7cf53⟩
theorem k_X11_190 : lkS RX11 190 yX6_layStack cX6_layStack 4 none 3 := ⟨gi_S (tb4 (i := 14) rfl rfl) wz_X6_layStack wi_RX6 wc_X6_layStack, pd_X6_layStack⟩
theorem k_X6_31 : lkV RX6 RX1 31 yX1_write cX1_write 4 (some .int) 2 := ⟨gi_V (tb4 (i := 17) rfl rfl) wj_X1_write wx_X1_write wi_RX1 wc_X1_write, rfl, pd_X1_write⟩
theorem k_L_73 : lkV RL RX11 73 yX11_product cX11_product 6 (some .int) 2 := ⟨gi_V (tb4 (i := 21) rfl rfl) wj_X11_product wx_X11_product wi_RX11 wc_X11_product, rfl, pd_X11_product⟩
theorem k_X11_194 : lkS RX11 194 yX6_canMultiply cX6_canMultiply 2 (some .boolean) 2 := ⟨gi_S (tb4 (i := 25) rfl rfl) wz_X6_canMultiply wi_RX6 wc_X6_canMultiply, pd_X6_canMultiply⟩
theorem k_X6_35 : lkS RX6 35 yX6_multiplied cX6_multiplied 3 (some .int) 3 := ⟨gi_S (tb4 (i := 28) rfl rfl) wz_X6_multiplied wi_RX6 wc_X6_multiplied, pd_X6_multiplied⟩
theorem k_X11_197 : lkS RX11 197 yX6_layProduct cX6_layProduct 9 none 3 := ⟨gi_S (tb4 (i := 31) rfl rfl) wz_X6_layProduct wi_RX6 wc_X6_layProduct, pd_X6_layProduct⟩
theorem k_X6_39 : lkS RX6 39 yX7_rowOf cX7_rowOf 2 (some .int) 2 := ⟨gi_S (tb4 (i := 34) rfl rfl) wz_X7_rowOf wi_RX7 wc_X7_rowOf, pd_X7_rowOf⟩
theorem k_X6_44 : lkS RX6 44 yX7_columnOf cX7_columnOf 2 (some .int) 2 := ⟨gi_S (tb4 (i := 35) rfl rfl) wz_X7_columnOf wi_RX7 wc_X7_columnOf, pd_X7_columnOf⟩
theorem k_X6_47 : lkV RX6 RX1 47 yX1_placeOf cX1_placeOf 3 (some .int) 2 := ⟨gi_V (tb4 (i := 36) rfl rfl) wj_X1_placeOf wx_X1_placeOf wi_RX1 wc_X1_placeOf, rfl, pd_X1_placeOf⟩
theorem k_X6_50 : lkS RX6 50 yX7_wrap cX7_wrap 2 (some .int) 2 := ⟨gi_S (tb4 (i := 37) rfl rfl) wz_X7_wrap wi_RX7 wc_X7_wrap, pd_X7_wrap⟩
theorem k_L_76 : lkV RL RX11 76 yX11_crossings cX11_crossings 4 (some .int) 2 := ⟨gi_V (tb4 (i := 41) rfl rfl) wj_X11_crossings wx_X11_crossings wi_RX11 wc_X11_crossings, rfl, pd_X11_crossings⟩
theorem k_X11_200 : lkS RX11 200 yX11_countCrossings cX11_countCrossings 8 (some .int) 4 := ⟨gi_S (tb4 (i := 45) rfl rfl) wz_X11_countCrossings wi_RX11 wc_X11_countCrossings, pd_X11_countCrossings⟩
theorem k_L_79 : lkV RL RX11 79 yX11_dimension cX11_dimension 3 (some .int) 2 := ⟨gi_V (tb4 (i := 51) rfl rfl) wj_X11_dimension wx_X11_dimension wi_RX11 wc_X11_dimension, rfl, pd_X11_dimension⟩
theorem k_X11_206 : lkV RX11 RX10 206 yX10_dimensionOf cX10_dimensionOf 4 (some .int) 2 := ⟨gi_V (tb4 (i := 56) rfl rfl) wj_X10_dimensionOf wx_X10_dimensionOf wi_RX10 wc_X10_dimensionOf, rfl, pd_X10_dimensionOf⟩
theorem k_X10_30 : lkV RX10 RX10 30 yX10_addLines cX10_addLines 5 none 1 := ⟨gi_V (tb4 (i := 60) rfl rfl) wj_X10_addLines wx_X10_addLines wi_RX10 wc_X10_addLines, rfl, pd_X10_addLines⟩
theorem k_X10_37 : lkV RX10 RX10 37 yX10_addLine cX10_addLine 4 none 2 := ⟨gi_V (tb4 (i := 64) rfl rfl) wj_X10_addLine wx_X10_addLine wi_RX10 wc_X10_addLine, rfl, pd_X10_addLine⟩
theorem k_X10_41 : lkV RX10 RX10 41 yX10_clearRow cX10_clearRow 2 none 0 := ⟨gi_V (tb4 (i := 68) rfl rfl) wj_X10_clearRow wx_X10_clearRow wi_RX10 wc_X10_clearRow, rfl, pd_X10_clearRow⟩
theorem k_X10_44 : lkS RX10 44 yX7_onLine cX7_onLine 4 (some .int) 4 := ⟨gi_S (tb4 (i := 72) rfl rfl) wz_X7_onLine wi_RX7 wc_X7_onLine, pd_X7_onLine⟩
theorem k_X10_50 : lkV RX10 RX10 50 yX10_addToRow cX10_addToRow 3 none 2 := ⟨gi_V (tb4 (i := 73) rfl rfl) wj_X10_addToRow wx_X10_addToRow wi_RX10 wc_X10_addToRow, rfl, pd_X10_addToRow⟩
theorem k_X10_54 : lkV RX10 RX10 54 yX10_addRow cX10_addRow 2 none 0 := ⟨gi_V (tb4 (i := 78) rfl rfl) wj_X10_addRow wx_X10_addRow wi_RX10 wc_X10_addRow, rfl, pd_X10_addRow⟩
theorem k_X10_57 : lkV RX10 RX10 57 yX10_reduceBy cX10_reduceBy 8 none 2 := ⟨gi_V (tb4 (i := 82) rfl rfl) wj_X10_reduceBy wx_X10_reduceBy wi_RX10 wc_X10_reduceBy, rfl, pd_X10_reduceBy⟩
theorem k_X10_71 : lkS RX10 71 yJ9_floorMod_f86c9 cJ9_floorMod_f86c9 6 (some .long) 2 := ⟨gi_S (tb4 (i := 87) rfl rfl) wz_J9_floorMod_f86c9 wi_RJ9 wc_J9_floorMod_f86c9, pd_J9_floorMod_f86c9⟩
theorem k_X10_61 : lkV RX10 RX10 61 yX10_leadOfRow cX10_leadOfRow 2 (some .int) 0 := ⟨gi_V (tb4 (i := 90) rfl rfl) wj_X10_leadOfRow wx_X10_leadOfRow wi_RX10 wc_X10_leadOfRow, rfl, pd_X10_leadOfRow⟩
theorem k_X10_65 : lkV RX10 RX10 65 yX10_copyRowTo cX10_copyRowTo 3 none 1 := ⟨gi_V (tb4 (i := 94) rfl rfl) wj_X10_copyRowTo wx_X10_copyRowTo wi_RX10 wc_X10_copyRowTo, rfl, pd_X10_copyRowTo⟩
theorem k_X10_34 : lkV RX10 RX10 34 yX10_addOpposites cX10_addOpposites 3 none 0 := ⟨gi_V (tb4 (i := 98) rfl rfl) wj_X10_addOpposites wx_X10_addOpposites wi_RX10 wc_X10_addOpposites, rfl, pd_X10_addOpposites⟩
theorem k_L_85 : Cond.methodLink RL 85 yX12_init ∈ wsU := tb4 (i := 104) rfl rfl
theorem k_L_92 : lkV RL RX12 92 yX12_thrown cX12_thrown 1 (some .int) 0 := ⟨gi_V (tb4 (i := 158) rfl rfl) wj_X12_thrown wx_X12_thrown wi_RX12 wc_X12_thrown, rfl, pd_X12_thrown⟩
theorem k_L_91 : lkV RL RX12 91 yX12_square cX12_square 2 (some .int) 1 := ⟨gi_V (tb4 (i := 162) rfl rfl) wj_X12_square wx_X12_square wi_RX12 wc_X12_square, rfl, pd_X12_square⟩
theorem k_X12_55 : lkS RX12 55 yX12_in cX12_in 3 (some .boolean) 3 := ⟨gi_S (tb4 (i := 166) rfl rfl) wz_X12_in wi_RX12 wc_X12_in, pd_X12_in⟩
theorem k_X12_63 : lkV RX12 RX12 63 yX12_isFine cX12_isFine 2 (some .boolean) 1 := ⟨gi_V (tb4 (i := 169) rfl rfl) wj_X12_isFine wx_X12_isFine wi_RX12 wc_X12_isFine, rfl, pd_X12_isFine⟩
theorem k_X12_66 : lkV RX12 RX12 66 yX12_wipe cX12_wipe 2 none 0 := ⟨gi_V (tb4 (i := 173) rfl rfl) wj_X12_wipe wx_X12_wipe wi_RX12 wc_X12_wipe, rfl, pd_X12_wipe⟩
theorem k_X12_69 : lkV RX12 RX12 69 yX12_lay cX12_lay 3 (some .int) 1 := ⟨gi_V (tb4 (i := 177) rfl rfl) wj_X12_lay wx_X12_lay wi_RX12 wc_X12_lay, rfl, pd_X12_lay⟩
theorem k_L_99 : lkV RL RX12 99 yX12_put cX12_put 7 (some .int) 4 := ⟨gi_V (tb4 (i := 181) rfl rfl) wj_X12_put wx_X12_put wi_RX12 wc_X12_put, rfl, pd_X12_put⟩
theorem k_X12_73 : lkV RX12 RX12 73 yX12_isPoint cX12_isPoint 4 (some .boolean) 3 := ⟨gi_V (tb4 (i := 185) rfl rfl) wj_X12_isPoint wx_X12_isPoint wi_RX12 wc_X12_isPoint, rfl, pd_X12_isPoint⟩
theorem k_X12_59 : lkV RX12 RX12 59 yX12_isSquare cX12_isSquare 2 (some .boolean) 1 := ⟨gi_V (tb4 (i := 189) rfl rfl) wj_X12_isSquare wx_X12_isSquare wi_RX12 wc_X12_isSquare, rfl, pd_X12_isSquare⟩
theorem k_L_103 : lkV RL RX12 103 yX12_at cX12_at 4 (some .int) 3 := ⟨gi_V (tb4 (i := 193) rfl rfl) wj_X12_at wx_X12_at wi_RX12 wc_X12_at, rfl, pd_X12_at⟩
theorem k_X12_76 : lkV RX12 RX12 76 yX12_numberAt cX12_numberAt 4 (some .int) 3 := ⟨gi_V (tb4 (i := 197) rfl rfl) wj_X12_numberAt wx_X12_numberAt wi_RX12 wc_X12_numberAt, rfl, pd_X12_numberAt⟩
theorem k_L_107 : lkV RL RX12 107 yX12_make cX12_make 4 (some .int) 2 := ⟨gi_V (tb4 (i := 201) rfl rfl) wj_X12_make wx_X12_make wi_RX12 wc_X12_make, rfl, pd_X12_make⟩
theorem k_X12_84 : lkS RX12 84 yX12_doesHold cX12_doesHold 2 (some .boolean) 2 := ⟨gi_S (tb4 (i := 205) rfl rfl) wz_X12_doesHold wi_RX12 wc_X12_doesHold, pd_X12_doesHold⟩
theorem k_X12_80 : lkV RX12 RX12 80 yX12_siege cX12_siege 8 none 1 := ⟨gi_V (tb4 (i := 208) rfl rfl) wj_X12_siege wx_X12_siege wi_RX12 wc_X12_siege, rfl, pd_X12_siege⟩
theorem k_X12_88 : lkV RX12 RX12 88 yX12_cross cX12_cross 5 none 1 := ⟨gi_V (tb4 (i := 212) rfl rfl) wj_X12_cross wx_X12_cross wi_RX12 wc_X12_cross, rfl, pd_X12_cross⟩
theorem k_X12_91 : lkV RX12 RX12 91 yX12_digits cX12_digits 5 none 1 := ⟨gi_V (tb4 (i := 216) rfl rfl) wj_X12_digits wx_X12_digits wi_RX12 wc_X12_digits, rfl, pd_X12_digits⟩
theorem k_X12_94 : lkV RX12 RX12 94 yX12_lux cX12_lux 7 none 0 := ⟨gi_V (tb4 (i := 220) rfl rfl) wj_X12_lux wx_X12_lux wi_RX12 wc_X12_lux, rfl, pd_X12_lux⟩
theorem k_L_110 : lkV RL RX12 110 yX12_laws cX12_laws 2 (some .int) 1 := ⟨gi_V (tb4 (i := 224) rfl rfl) wj_X12_laws wx_X12_laws wi_RX12 wc_X12_laws, rfl, pd_X12_laws⟩
theorem k_X12_118 : lkV RX12 RX12 118 yX12_lawsOf cX12_lawsOf 5 (some .int) 1 := ⟨gi_V (tb4 (i := 228) rfl rfl) wj_X12_lawsOf wx_X12_lawsOf wi_RX12 wc_X12_lawsOf, rfl, pd_X12_lawsOf⟩
theorem k_X12_100 : lkV RX12 RX12 100 yX12_areaOf cX12_areaOf 2 (some .int) 1 := ⟨gi_V (tb4 (i := 232) rfl rfl) wj_X12_areaOf wx_X12_areaOf wi_RX12 wc_X12_areaOf, rfl, pd_X12_areaOf⟩
theorem k_X12_103 : lkV RX12 RX12 103 yX12_squaresOf cX12_squaresOf 7 (some .int) 3 := ⟨gi_V (tb4 (i := 236) rfl rfl) wj_X12_squaresOf wx_X12_squaresOf wi_RX12 wc_X12_squaresOf, rfl, pd_X12_squaresOf⟩
theorem k_X12_106 : lkV RX12 RX12 106 yX12_areAlike cX12_areAlike 5 (some .boolean) 2 := ⟨gi_V (tb5 (i := 0) rfl rfl) wj_X12_areAlike wx_X12_areAlike wi_RX12 wc_X12_areAlike, rfl, pd_X12_areAlike⟩
theorem k_X12_97 : lkV RX12 RX12 97 yX12_sumOf cX12_sumOf 9 (some .int) 3 := ⟨gi_V (tb5 (i := 4) rfl rfl) wj_X12_sumOf wx_X12_sumOf wi_RX12 wc_X12_sumOf, rfl, pd_X12_sumOf⟩
theorem k_X12_109 : lkV RX12 RX12 109 yX12_areDiagonals cX12_areDiagonals 3 (some .boolean) 1 := ⟨gi_V (tb5 (i := 8) rfl rfl) wj_X12_areDiagonals wx_X12_areDiagonals wi_RX12 wc_X12_areDiagonals, rfl, pd_X12_areDiagonals⟩
theorem k_X12_112 : lkV RX12 RX12 112 yX12_areOpposite cX12_areOpposite 5 (some .boolean) 1 := ⟨gi_V (tb5 (i := 12) rfl rfl) wj_X12_areOpposite wx_X12_areOpposite wi_RX12 wc_X12_areOpposite, rfl, pd_X12_areOpposite⟩
theorem k_X12_115 : lkV RX12 RX12 115 yX12_isNormal cX12_isNormal 6 (some .boolean) 1 := ⟨gi_V (tb5 (i := 16) rfl rfl) wj_X12_isNormal wx_X12_isNormal wi_RX12 wc_X12_isNormal, rfl, pd_X12_isNormal⟩
theorem k_L_113 : lkV RL RX12 113 yX12_sum cX12_sum 6 (some .int) 3 := ⟨gi_V (tb5 (i := 20) rfl rfl) wj_X12_sum wx_X12_sum wi_RX12 wc_X12_sum, rfl, pd_X12_sum⟩
theorem k_L_116 : lkV RL RX12 116 yX12_change cX12_change 10 (some .int) 3 := ⟨gi_V (tb5 (i := 24) rfl rfl) wj_X12_change wx_X12_change wi_RX12 wc_X12_change, rfl, pd_X12_change⟩
theorem k_X12_128 : lkV RX12 RX12 128 yX12_mostBy cX12_mostBy 3 (some .int) 2 := ⟨gi_V (tb5 (i := 28) rfl rfl) wj_X12_mostBy wx_X12_mostBy wi_RX12 wc_X12_mostBy, rfl, pd_X12_mostBy⟩
theorem k_X12_131 : lkV RX12 RX12 131 yX12_canComplement cX12_canComplement 6 (some .boolean) 2 := ⟨gi_V (tb5 (i := 32) rfl rfl) wj_X12_canComplement wx_X12_canComplement wi_RX12 wc_X12_canComplement, rfl, pd_X12_canComplement⟩
theorem k_X12_134 : lkS RX12 134 yX12_comesFrom cX12_comesFrom 7 (some .int) 4 := ⟨gi_S (tb5 (i := 36) rfl rfl) wz_X12_comesFrom wi_RX12 wc_X12_comesFrom, pd_X12_comesFrom⟩
theorem k_X12_121 : lkS RX12 121 yX12_turned cX12_turned 6 (some .int) 3 := ⟨gi_S (tb5 (i := 39) rfl rfl) wz_X12_turned wi_RX12 wc_X12_turned, pd_X12_turned⟩
theorem k_X12_124 : lkS RX12 124 yX12_flipped cX12_flipped 2 (some .int) 2 := ⟨gi_S (tb5 (i := 42) rfl rfl) wz_X12_flipped wi_RX12 wc_X12_flipped, pd_X12_flipped⟩
theorem k_L_119 : lkV RL RX12 119 yX12_same cX12_same 3 (some .boolean) 2 := ⟨gi_V (tb5 (i := 45) rfl rfl) wj_X12_same wx_X12_same wi_RX12 wc_X12_same, rfl, pd_X12_same⟩
theorem k_X12_144 : lkV RX12 RX12 144 yX12_areKin cX12_areKin 5 (some .boolean) 2 := ⟨gi_V (tb5 (i := 49) rfl rfl) wj_X12_areKin wx_X12_areKin wi_RX12 wc_X12_areKin, rfl, pd_X12_areKin⟩
theorem k_X12_141 : lkV RX12 RX12 141 yX12_isForm cX12_isForm 6 (some .boolean) 3 := ⟨gi_V (tb5 (i := 53) rfl rfl) wj_X12_isForm wx_X12_isForm wi_RX12 wc_X12_isForm, rfl, pd_X12_isForm⟩
theorem k_X12_138 : lkV RX12 RX12 138 yX12_formAt cX12_formAt 6 (some .int) 3 := ⟨gi_V (tb5 (i := 57) rfl rfl) wj_X12_formAt wx_X12_formAt wi_RX12 wc_X12_formAt, rfl, pd_X12_formAt⟩
theorem k_L_122 : lkV RL RX12 122 yX12_least cX12_least 6 (some .int) 3 := ⟨gi_V (tb5 (i := 61) rfl rfl) wj_X12_least wx_X12_least wi_RX12 wc_X12_least, rfl, pd_X12_least⟩
theorem k_X12_147 : lkV RX12 RX12 147 yX12_isLess cX12_isLess 7 (some .boolean) 3 := ⟨gi_V (tb5 (i := 65) rfl rfl) wj_X12_isLess wx_X12_isLess wi_RX12 wc_X12_isLess, rfl, pd_X12_isLess⟩
theorem k_L_125 : lkV RL RX12 125 yX12_kin cX12_kin 4 (some .int) 1 := ⟨gi_V (tb5 (i := 69) rfl rfl) wj_X12_kin wx_X12_kin wi_RX12 wc_X12_kin, rfl, pd_X12_kin⟩
theorem k_L_129 : lkV RL RX12 129 yX12_classes cX12_classes 5 (some .int) 0 := ⟨gi_V (tb5 (i := 73) rfl rfl) wj_X12_classes wx_X12_classes wi_RX12 wc_X12_classes, rfl, pd_X12_classes⟩
theorem k_L_132 : lkV RL RX12 132 yX12_completions cX12_completions 3 (some .int) 1 := ⟨gi_V (tb5 (i := 77) rfl rfl) wj_X12_completions wx_X12_completions wi_RX12 wc_X12_completions, rfl, pd_X12_completions⟩
theorem k_X12_169 : lkV RX12 RX12 169 yX12_isSearched cX12_isSearched 2 (some .boolean) 1 := ⟨gi_V (tb5 (i := 81) rfl rfl) wj_X12_isSearched wx_X12_isSearched wi_RX12 wc_X12_isSearched, rfl, pd_X12_isSearched⟩
theorem k_X12_166 : lkV RX12 RX12 166 yX12_emptyOf cX12_emptyOf 4 (some .int) 1 := ⟨gi_V (tb5 (i := 85) rfl rfl) wj_X12_emptyOf wx_X12_emptyOf wi_RX12 wc_X12_emptyOf, rfl, pd_X12_emptyOf⟩
theorem k_X12_173 : lkV RX12 RX12 173 yX12_take cX12_take 4 none 2 := ⟨gi_V (tb5 (i := 90) rfl rfl) wj_X12_take wx_X12_take wi_RX12 wc_X12_take, rfl, pd_X12_take⟩
theorem k_X12_178 : lkV RX12 RX12 178 yX12_search cX12_search 5 (some .int) 1 := ⟨gi_V (tb5 (i := 95) rfl rfl) wj_X12_search wx_X12_search wi_RX12 wc_X12_search, rfl, pd_X12_search⟩
theorem k_X12_159 : lkV RX12 RX12 159 yX12_isFit cX12_isFit 4 (some .boolean) 0 := ⟨gi_V (tb5 (i := 99) rfl rfl) wj_X12_isFit wx_X12_isFit wi_RX12 wc_X12_isFit, rfl, pd_X12_isFit⟩
theorem k_X12_153 : lkV RX12 RX12 153 yX12_isLineFit cX12_isLineFit 7 (some .boolean) 2 := ⟨gi_V (tb5 (i := 103) rfl rfl) wj_X12_isLineFit wx_X12_isLineFit wi_RX12 wc_X12_isLineFit, rfl, pd_X12_isLineFit⟩
theorem k_X12_163 : lkV RX12 RX12 163 yX12_goesOn cX12_goesOn 3 (some .boolean) 1 := ⟨gi_V (tb5 (i := 107) rfl rfl) wj_X12_goesOn wx_X12_goesOn wi_RX12 wc_X12_goesOn, rfl, pd_X12_goesOn⟩
theorem k_L_135 : lkV RL RX12 135 yX12_completion cX12_completion 6 (some .int) 4 := ⟨gi_V (tb5 (i := 111) rfl rfl) wj_X12_completion wx_X12_completion wi_RX12 wc_X12_completion, rfl, pd_X12_completion⟩
theorem k_L_138 : lkV RL RX12 138 yX12_estimate cX12_estimate 10 (some .long) 2 := ⟨gi_V (tb5 (i := 115) rfl rfl) wj_X12_estimate wx_X12_estimate wi_RX12 wc_X12_estimate, rfl, pd_X12_estimate⟩
theorem k_L_142 : lkV RL RX12 142 yX12_givens cX12_givens 8 (some .int) 2 := ⟨gi_V (tb5 (i := 122) rfl rfl) wj_X12_givens wx_X12_givens wi_RX12 wc_X12_givens, rfl, pd_X12_givens⟩
theorem k_X12_187 : lkS RX12 187 yX12_ones cX12_ones 3 (some .int) 1 := ⟨gi_S (tb5 (i := 126) rfl rfl) wz_X12_ones wi_RX12 wc_X12_ones, pd_X12_ones⟩
theorem k_L_145 : lkV RL RX12 145 yX12_slip cX12_slip 12 (some .int) 2 := ⟨gi_V (tb5 (i := 129) rfl rfl) wj_X12_slip wx_X12_slip wi_RX12 wc_X12_slip, rfl, pd_X12_slip⟩
theorem k_X12_193 : lkV RX12 RX12 193 yX12_mended cX12_mended 4 (some .int) 2 := ⟨gi_V (tb5 (i := 133) rfl rfl) wj_X12_mended wx_X12_mended wi_RX12 wc_X12_mended, rfl, pd_X12_mended⟩
theorem k_X12_196 : lkV RX12 RX12 196 yX12_isSlip cX12_isSlip 7 (some .boolean) 3 := ⟨gi_V (tb5 (i := 137) rfl rfl) wj_X12_isSlip wx_X12_isSlip wi_RX12 wc_X12_isSlip, rfl, pd_X12_isSlip⟩
theorem k_X12_190 : lkV RX12 RX12 190 yX12_isRight cX12_isRight 2 (some .boolean) 1 := ⟨gi_V (tb5 (i := 141) rfl rfl) wj_X12_isRight wx_X12_isRight wi_RX12 wc_X12_isRight, rfl, pd_X12_isRight⟩
theorem k_L_148 : lkV RL RX12 148 yX12_orthogonal cX12_orthogonal 7 (some .boolean) 2 := ⟨gi_V (tb5 (i := 145) rfl rfl) wj_X12_orthogonal wx_X12_orthogonal wi_RX12 wc_X12_orthogonal, rfl, pd_X12_orthogonal⟩
theorem k_L_151 : lkV RL RX12 151 yX12_stack cX12_stack 6 (some .int) 2 := ⟨gi_V (tb5 (i := 149) rfl rfl) wj_X12_stack wx_X12_stack wi_RX12 wc_X12_stack, rfl, pd_X12_stack⟩
theorem k_X12_199 : lkV RX12 RX12 199 yX12_isWithin cX12_isWithin 5 (some .boolean) 2 := ⟨gi_V (tb5 (i := 153) rfl rfl) wj_X12_isWithin wx_X12_isWithin wi_RX12 wc_X12_isWithin, rfl, pd_X12_isWithin⟩
theorem k_L_154 : lkV RL RX12 154 yX12_product cX12_product 10 (some .int) 2 := ⟨gi_V (tb5 (i := 157) rfl rfl) wj_X12_product wx_X12_product wi_RX12 wc_X12_product, rfl, pd_X12_product⟩
theorem k_X12_202 : lkV RX12 RX12 202 yX12_greatest cX12_greatest 4 (some .int) 1 := ⟨gi_V (tb5 (i := 161) rfl rfl) wj_X12_greatest wx_X12_greatest wi_RX12 wc_X12_greatest, rfl, pd_X12_greatest⟩
theorem k_L_157 : lkV RL RX12 157 yX12_crossings cX12_crossings 10 (some .int) 2 := ⟨gi_V (tb5 (i := 165) rfl rfl) wj_X12_crossings wx_X12_crossings wi_RX12 wc_X12_crossings, rfl, pd_X12_crossings⟩
theorem k_L_160 : lkV RL RX12 160 yX12_dimension cX12_dimension 9 (some .int) 2 := ⟨gi_V (tb5 (i := 169) rfl rfl) wj_X12_dimension wx_X12_dimension wi_RX12 wc_X12_dimension, rfl, pd_X12_dimension⟩
theorem k_X12_219 : lkS RX12 219 yX12_isOfLaws cX12_isOfLaws 5 (some .boolean) 4 := ⟨gi_S (tb5 (i := 173) rfl rfl) wz_X12_isOfLaws wi_RX12 wc_X12_isOfLaws, pd_X12_isOfLaws⟩
theorem k_X12_223 : lkV RX12 RX12 223 yX12_layLine cX12_layLine 8 none 4 := ⟨gi_V (tb5 (i := 176) rfl rfl) wj_X12_layLine wx_X12_layLine wi_RX12 wc_X12_layLine, rfl, pd_X12_layLine⟩
theorem k_X12_215 : lkV RX12 RX12 215 yX12_begin cX12_begin 3 none 1 := ⟨gi_V (tb5 (i := 180) rfl rfl) wj_X12_begin wx_X12_begin wi_RX12 wc_X12_begin, rfl, pd_X12_begin⟩
theorem k_X12_227 : lkV RX12 RX12 227 yX12_independent cX12_independent 7 (some .int) 0 := ⟨gi_V (tb5 (i := 184) rfl rfl) wj_X12_independent wx_X12_independent wi_RX12 wc_X12_independent, rfl, pd_X12_independent⟩
theorem k_X12_211 : lkS RX12 211 yX12_power cX12_power 10 (some .long) 2 := ⟨gi_S (tb5 (i := 190) rfl rfl) wz_X12_power wi_RX12 wc_X12_power, pd_X12_power⟩
theorem f_X1_9 : Cond.fieldLink RX1 9 RX1 "numbers" "[I" ∈ wsU := tb1 (i := 37) rfl rfl
theorem f_X1_15 : Cond.fieldLink RX1 15 RX1 "side" "I" ∈ wsU := tb1 (i := 38) rfl rfl
theorem f_X8_11 : Cond.fieldLink RX8 11 RX8 "numbers" "[I" ∈ wsU := tb1 (i := 51) rfl rfl
theorem f_X8_15 : Cond.fieldLink RX8 15 RX8 "isUsed" "[Z" ∈ wsU := tb1 (i := 52) rfl rfl
theorem f_X8_19 : Cond.fieldLink RX8 19 RX8 "sums" "[I" ∈ wsU := tb1 (i := 53) rfl rfl
theorem f_X8_22 : Cond.fieldLink RX8 22 RX8 "lacks" "[I" ∈ wsU := tb1 (i := 54) rfl rfl
theorem f_X8_25 : Cond.fieldLink RX8 25 RX8 "linesAtPlaces" "[I" ∈ wsU := tb1 (i := 55) rfl rfl
theorem f_X8_28 : Cond.fieldLink RX8 28 RX8 "empties" "[I" ∈ wsU := tb1 (i := 56) rfl rfl
theorem f_X8_69 : Cond.fieldLink RX8 69 RX8 "emptyCount" "I" ∈ wsU := tb1 (i := 57) rfl rfl
theorem f_X8_31 : Cond.fieldLink RX8 31 RX8 "side" "I" ∈ wsU := tb1 (i := 58) rfl rfl
theorem f_X8_66 : Cond.fieldLink RX8 66 RX8 "due" "I" ∈ wsU := tb1 (i := 59) rfl rfl
theorem f_X8_62 : Cond.fieldLink RX8 62 RX8 "isClashing" "Z" ∈ wsU := tb1 (i := 60) rfl rfl
theorem f_X8_93 : Cond.fieldLink RX8 93 RX8 "wanted" "I" ∈ wsU := tb1 (i := 61) rfl rfl
theorem f_X8_96 : Cond.fieldLink RX8 96 RX8 "wantedPlace" "I" ∈ wsU := tb1 (i := 62) rfl rfl
theorem f_X8_87 : Cond.fieldLink RX8 87 RX8 "found" "I" ∈ wsU := tb1 (i := 63) rfl rfl
theorem f_X8_90 : Cond.fieldLink RX8 90 RX8 "answer" "I" ∈ wsU := tb1 (i := 64) rfl rfl
theorem f_X3_9 : Cond.fieldLink RX3 9 RX3 "differences" "[I" ∈ wsU := tb1 (i := 101) rfl rfl
theorem f_X10_13 : Cond.fieldLink RX10 13 RX10 "rows" "[[I" ∈ wsU := tb1 (i := 113) rfl rfl
theorem f_X10_16 : Cond.fieldLink RX10 16 RX10 "leads" "[I" ∈ wsU := tb1 (i := 114) rfl rfl
theorem f_X10_20 : Cond.fieldLink RX10 20 RX10 "row" "[I" ∈ wsU := tb1 (i := 115) rfl rfl
theorem f_X10_27 : Cond.fieldLink RX10 27 RX10 "rank" "I" ∈ wsU := tb1 (i := 116) rfl rfl
theorem f_X10_23 : Cond.fieldLink RX10 23 RX10 "side" "I" ∈ wsU := tb1 (i := 117) rfl rfl
theorem f_X11_11 : Cond.fieldLink RX11 11 RX11 "figures" "[LLoshuHall$Figure;" ∈ wsU := tb1 (i := 129) rfl rfl
theorem f_X11_16 : Cond.fieldLink RX11 16 RX11 "spare" "LLoshuHall$Figure;" ∈ wsU := tb1 (i := 130) rfl rfl
theorem f_X11_23 : Cond.fieldLink RX11 23 RX11 "search" "LLoshuHall$Search;" ∈ wsU := tb1 (i := 131) rfl rfl
theorem f_X11_30 : Cond.fieldLink RX11 30 RX11 "givensFinder" "LLoshuHall$Givens;" ∈ wsU := tb1 (i := 132) rfl rfl
theorem f_X11_37 : Cond.fieldLink RX11 37 RX11 "space" "LLoshuHall$Space;" ∈ wsU := tb1 (i := 133) rfl rfl
theorem f_X11_41 : Cond.fieldLink RX11 41 RX11 "figureCount" "I" ∈ wsU := tb1 (i := 134) rfl rfl
theorem f_X12_48 : Cond.fieldLink RX12 48 RX12 "thrown" "I" ∈ wsU := tb4 (i := 108) rfl rfl
theorem f_X12_52 : Cond.fieldLink RX12 52 RX12 "squares" "I" ∈ wsU := tb4 (i := 109) rfl rfl
theorem f_X12_7 : Cond.fieldLink RX12 7 RX12 "sideOf" "[I" ∈ wsU := tb4 (i := 110) rfl rfl
theorem f_X12_13 : Cond.fieldLink RX12 13 RX12 "numbers" "[I" ∈ wsU := tb4 (i := 111) rfl rfl
theorem f_X12_16 : Cond.fieldLink RX12 16 RX12 "made" "[I" ∈ wsU := tb4 (i := 112) rfl rfl
theorem f_X12_150 : Cond.fieldLink RX12 150 RX12 "side" "I" ∈ wsU := tb4 (i := 113) rfl rfl
theorem f_X12_19 : Cond.fieldLink RX12 19 RX12 "work" "[I" ∈ wsU := tb4 (i := 114) rfl rfl
theorem f_X12_156 : Cond.fieldLink RX12 156 RX12 "empties" "I" ∈ wsU := tb4 (i := 115) rfl rfl
theorem f_X12_22 : Cond.fieldLink RX12 22 RX12 "empty" "[I" ∈ wsU := tb4 (i := 116) rfl rfl
theorem f_X12_25 : Cond.fieldLink RX12 25 RX12 "tried" "[I" ∈ wsU := tb4 (i := 117) rfl rfl
theorem f_X12_28 : Cond.fieldLink RX12 28 RX12 "found" "[I" ∈ wsU := tb4 (i := 118) rfl rfl
theorem f_X12_31 : Cond.fieldLink RX12 31 RX12 "picked" "[I" ∈ wsU := tb4 (i := 119) rfl rfl
theorem f_X12_34 : Cond.fieldLink RX12 34 RX12 "line" "[J" ∈ wsU := tb4 (i := 120) rfl rfl
theorem f_X12_38 : Cond.fieldLink RX12 38 RX12 "first" "[J" ∈ wsU := tb4 (i := 121) rfl rfl
theorem f_X12_41 : Cond.fieldLink RX12 41 RX12 "rows" "[J" ∈ wsU := tb4 (i := 122) rfl rfl
theorem f_X12_44 : Cond.fieldLink RX12 44 RX12 "isBegun" "[Z" ∈ wsU := tb4 (i := 123) rfl rfl
theorem n_X11_158 : Cond.constant RX11 158 (zi 65535) ∈ wsU := tb3 (i := 153) rfl rfl
theorem n_X8_122 : Cond.constant RX8 122 (zi 65536) ∈ wsU := tb3 (i := 162) rfl rfl
theorem n_J6_265 : Cond.constant RJ6 265 (zi 1431655765) ∈ wsU := tb3 (i := 191) rfl rfl
theorem n_J6_266 : Cond.constant RJ6 266 (zi 858993459) ∈ wsU := tb3 (i := 192) rfl rfl
theorem n_J6_267 : Cond.constant RJ6 267 (zi 252645135) ∈ wsU := tb3 (i := 193) rfl rfl
theorem n_X10_53 : Cond.constant RX10 53 (zi 1000002) ∈ wsU := tb4 (i := 77) rfl rfl
theorem n_X12_172 : Cond.constant RX12 172 (zi 65535) ∈ wsU := tb5 (i := 89) rfl rfl
theorem n_X12_177 : Cond.constant RX12 177 (zi 2147483647) ∈ wsU := tb5 (i := 94) rfl rfl
theorem n_X10_69 : Cond.constantLong RX10 69 (zl 1000003) ∈ wsU := tb4 (i := 86) rfl rfl
theorem n_X12_181 : Cond.constantLong RX12 181 (zl 25173) ∈ wsU := tb5 (i := 119) rfl rfl
theorem n_X12_183 : Cond.constantLong RX12 183 (zl 13849) ∈ wsU := tb5 (i := 120) rfl rfl
theorem n_X12_185 : Cond.constantLong RX12 185 (zl 65536) ∈ wsU := tb5 (i := 121) rfl rfl
theorem n_X12_207 : Cond.constantLong RX12 207 (zl 1000003) ∈ wsU := tb5 (i := 188) rfl rfl
theorem n_X12_209 : Cond.constantLong RX12 209 (zl 1000001) ∈ wsU := tb5 (i := 189) rfl rfl
theorem n_X12_205 : Cond.constantLong RX12 205 (zl 2) ∈ wsU := tb5 (i := 193) rfl rfl
theorem l_L_8 : Cond.classLink RL 8 RX11 ∈ wsU := tb1 (i := 22) rfl rfl
theorem l_X11_9 : Cond.classLink RX11 9 RX1 ∈ wsU := tb1 (i := 30) rfl rfl
theorem l_X11_20 : Cond.classLink RX11 20 RX8 ∈ wsU := tb1 (i := 45) rfl rfl
theorem l_X11_27 : Cond.classLink RX11 27 RX3 ∈ wsU := tb1 (i := 95) rfl rfl
theorem l_X11_34 : Cond.classLink RX11 34 RX10 ∈ wsU := tb1 (i := 105) rfl rfl
theorem l_X10_11 : Cond.classLink RX10 11 "[[I" ∈ wsU := tb1 (i := 111) rfl rfl
theorem l_X11_211 : Cond.classLink RX11 211 "java/lang/IndexOutOfBoundsException" ∈ wsU := tb1 (i := 160) rfl rfl
theorem l_L_13 : Cond.classLink RL 13 "java/lang/IllegalArgumentException" ∈ wsU := tb2 (i := 27) rfl rfl
theorem l_L_15 : Cond.classLink RL 15 "java/lang/IllegalStateException" ∈ wsU := tb2 (i := 28) rfl rfl
theorem l_X11_149 : Cond.classLink RX11 149 "java/lang/IllegalArgumentException" ∈ wsU := tb2 (i := 36) rfl rfl
theorem l_X11_216 : Cond.classLink RX11 216 "java/lang/IllegalStateException" ∈ wsU := tb2 (i := 56) rfl rfl
theorem l_L_21 : Cond.classLink RL 21 "java/lang/IndexOutOfBoundsException" ∈ wsU := tb2 (i := 83) rfl rfl
theorem l_L_83 : Cond.classLink RL 83 RX12 ∈ wsU := tb4 (i := 102) rfl rfl
theorem in_X1 : ∀ w ∈ u_ws RX1 TX1 2, w ∈ wsU := by
  have h : (u_ws RX1 TX1 2).all (fun w => decide (w ∈ lw_tbl) && goodWord w) = true := by decide +kernel
  intro w hw
  have h2 := List.all_eq_true.mp h w hw
  rw [Bool.and_eq_true] at h2
  exact wsU_in (of_decide_eq_true h2.1) h2.2
theorem in_X3 : ∀ w ∈ u_ws RX3 TX3 1, w ∈ wsU := by
  have h : (u_ws RX3 TX3 1).all (fun w => decide (w ∈ lw_tbl) && goodWord w) = true := by decide +kernel
  intro w hw
  have h2 := List.all_eq_true.mp h w hw
  rw [Bool.and_eq_true] at h2
  exact wsU_in (of_decide_eq_true h2.1) h2.2
theorem in_X8 : ∀ w ∈ u_ws RX8 TX8 14, w ∈ wsU := by
  have h : (u_ws RX8 TX8 14).all (fun w => decide (w ∈ lw_tbl) && goodWord w) = true := by decide +kernel
  intro w hw
  have h2 := List.all_eq_true.mp h w hw
  rw [Bool.and_eq_true] at h2
  exact wsU_in (of_decide_eq_true h2.1) h2.2
theorem in_X10 : ∀ w ∈ u_ws RX10 TX10 5, w ∈ wsU := by
  have h : (u_ws RX10 TX10 5).all (fun w => decide (w ∈ lw_tbl) && goodWord w) = true := by decide +kernel
  intro w hw
  have h2 := List.all_eq_true.mp h w hw
  rw [Bool.and_eq_true] at h2
  exact wsU_in (of_decide_eq_true h2.1) h2.2
theorem in_X11 : ∀ w ∈ u_ws RX11 TX11 6, w ∈ wsU := by
  have h : (u_ws RX11 TX11 6).all (fun w => decide (w ∈ lw_tbl) && goodWord w) = true := by decide +kernel
  intro w hw
  have h2 := List.all_eq_true.mp h w hw
  rw [Bool.and_eq_true] at h2
  exact wsU_in (of_decide_eq_true h2.1) h2.2
theorem in_X12 : ∀ w ∈ u_ws RX12 TX12 16, w ∈ wsU := by
  have h : (u_ws RX12 TX12 16).all (fun w => decide (w ∈ lw_tbl) && goodWord w) = true := by decide +kernel
  intro w hw
  have h2 := List.all_eq_true.mp h w hw
  rw [Bool.and_eq_true] at h2
  exact wsU_in (of_decide_eq_true h2.1) h2.2
section Flds
variable {Γ : Gam} {g : Gl} {cc : ByteArray} {own : String} {nL k n F Lc kc ns pc : Nat} {x : Me} {lv : List (Nat × Value)} {st : List Value}
theorem gf_X1_numbers (hO : Ok Γ g cc nL own F Lc kc ns) {index : Nat} {q : Nat} (hq : q < 9) (hlink : Cond.fieldLink own index RX1 "numbers" "[I" ∈ wsU) (d : decode cc pc = .ok (.getfield index, 3)) (kk : Zz Γ g nL k n x (pc + 3) lv (.ref (gA g (20 + q)) :: st)) : Zz Γ g nL k n x pc lv (.ref (gA g (10 + q)) :: st) := z_get hO (10 + q) (dl_fig hq) d hlink (ci := 0) (kf := 0) (N := 2) (T := TX1) rfl in_X1 (by decide) rfl (we_fig hq _) rfl kk
theorem gf_X1_side (hO : Ok Γ g cc nL own F Lc kc ns) {index : Nat} {q : Nat} (hq : q < 9) (hlink : Cond.fieldLink own index RX1 "side" "I" ∈ wsU) (d : decode cc pc = .ok (.getfield index, 3)) (kk : Zz Γ g nL k n x (pc + 3) lv (.int (zi (x (10 + q) 1)) :: st)) : Zz Γ g nL k n x pc lv (.ref (gA g (10 + q)) :: st) := z_get hO (10 + q) (dl_fig hq) d hlink (ci := 0) (kf := 1) (N := 2) (T := TX1) rfl in_X1 (by decide) rfl (we_fig hq _) rfl kk
theorem pf_X1_side (hO : Ok Γ g cc nL own F Lc kc ns) {index : Nat} {q : Nat} (hq : q < 9) {v : Int} (hlink : Cond.fieldLink own index RX1 "side" "I" ∈ wsU) (d : decode cc pc = .ok (.putfield index, 3)) (kk : ∀ x' : Me, x' = up x (10 + q) 1 v → Zz Γ g nL k n x' (pc + 3) lv st) : Zz Γ g nL k n x pc lv (.int (zi v) :: .ref (gA g (10 + q)) :: st) := z_put hO (10 + q) 1 (dl_fig hq) d hlink (ci := 0) (kf := 1) (N := 2) (T := TX1) rfl in_X1 tyX1_ok nmX1 (by decide) rfl (ty := .int) (by decide) rfl rfl (Nat.le_of_ble_eq_true rfl) (we_fig hq _) ((we_fig hq _).trans (by rw [up_s]; rfl)) kk
theorem gf_X3_differences (hO : Ok Γ g cc nL own F Lc kc ns) {index : Nat} (hlink : Cond.fieldLink own index RX3 "differences" "[I" ∈ wsU) (d : decode cc pc = .ok (.getfield index, 3)) (kk : Zz Γ g nL k n x (pc + 3) lv (.ref (gA g 41) :: st)) : Zz Γ g nL k n x pc lv (.ref (gA g (40)) :: st) := z_get hO (40) (by decide) d hlink (ci := 1) (kf := 0) (N := 1) (T := TX3) rfl in_X3 (by decide) rfl rfl rfl kk
theorem gf_X8_numbers (hO : Ok Γ g cc nL own F Lc kc ns) {index : Nat} (hlink : Cond.fieldLink own index RX8 "numbers" "[I" ∈ wsU) (d : decode cc pc = .ok (.getfield index, 3)) (kk : Zz Γ g nL k n x (pc + 3) lv (.ref (gA g 31) :: st)) : Zz Γ g nL k n x pc lv (.ref (gA g (30)) :: st) := z_get hO (30) (by decide) d hlink (ci := 2) (kf := 0) (N := 14) (T := TX8) rfl in_X8 (by decide) rfl rfl rfl kk
theorem gf_X8_isUsed (hO : Ok Γ g cc nL own F Lc kc ns) {index : Nat} (hlink : Cond.fieldLink own index RX8 "isUsed" "[Z" ∈ wsU) (d : decode cc pc = .ok (.getfield index, 3)) (kk : Zz Γ g nL k n x (pc + 3) lv (.ref (gA g 32) :: st)) : Zz Γ g nL k n x pc lv (.ref (gA g (30)) :: st) := z_get hO (30) (by decide) d hlink (ci := 2) (kf := 1) (N := 14) (T := TX8) rfl in_X8 (by decide) rfl rfl rfl kk
theorem gf_X8_sums (hO : Ok Γ g cc nL own F Lc kc ns) {index : Nat} (hlink : Cond.fieldLink own index RX8 "sums" "[I" ∈ wsU) (d : decode cc pc = .ok (.getfield index, 3)) (kk : Zz Γ g nL k n x (pc + 3) lv (.ref (gA g 33) :: st)) : Zz Γ g nL k n x pc lv (.ref (gA g (30)) :: st) := z_get hO (30) (by decide) d hlink (ci := 2) (kf := 2) (N := 14) (T := TX8) rfl in_X8 (by decide) rfl rfl rfl kk
theorem gf_X8_lacks (hO : Ok Γ g cc nL own F Lc kc ns) {index : Nat} (hlink : Cond.fieldLink own index RX8 "lacks" "[I" ∈ wsU) (d : decode cc pc = .ok (.getfield index, 3)) (kk : Zz Γ g nL k n x (pc + 3) lv (.ref (gA g 34) :: st)) : Zz Γ g nL k n x pc lv (.ref (gA g (30)) :: st) := z_get hO (30) (by decide) d hlink (ci := 2) (kf := 3) (N := 14) (T := TX8) rfl in_X8 (by decide) rfl rfl rfl kk
theorem gf_X8_linesAtPlaces (hO : Ok Γ g cc nL own F Lc kc ns) {index : Nat} (hlink : Cond.fieldLink own index RX8 "linesAtPlaces" "[I" ∈ wsU) (d : decode cc pc = .ok (.getfield index, 3)) (kk : Zz Γ g nL k n x (pc + 3) lv (.ref (gA g 35) :: st)) : Zz Γ g nL k n x pc lv (.ref (gA g (30)) :: st) := z_get hO (30) (by decide) d hlink (ci := 2) (kf := 4) (N := 14) (T := TX8) rfl in_X8 (by decide) rfl rfl rfl kk
theorem gf_X8_empties (hO : Ok Γ g cc nL own F Lc kc ns) {index : Nat} (hlink : Cond.fieldLink own index RX8 "empties" "[I" ∈ wsU) (d : decode cc pc = .ok (.getfield index, 3)) (kk : Zz Γ g nL k n x (pc + 3) lv (.ref (gA g 36) :: st)) : Zz Γ g nL k n x pc lv (.ref (gA g (30)) :: st) := z_get hO (30) (by decide) d hlink (ci := 2) (kf := 5) (N := 14) (T := TX8) rfl in_X8 (by decide) rfl rfl rfl kk
theorem gf_X8_emptyCount (hO : Ok Γ g cc nL own F Lc kc ns) {index : Nat} (hlink : Cond.fieldLink own index RX8 "emptyCount" "I" ∈ wsU) (d : decode cc pc = .ok (.getfield index, 3)) (kk : Zz Γ g nL k n x (pc + 3) lv (.int (zi (x 30 6)) :: st)) : Zz Γ g nL k n x pc lv (.ref (gA g (30)) :: st) := z_get hO (30) (by decide) d hlink (ci := 2) (kf := 6) (N := 14) (T := TX8) rfl in_X8 (by decide) rfl rfl rfl kk
theorem pf_X8_emptyCount (hO : Ok Γ g cc nL own F Lc kc ns) {index : Nat} {v : Int} (hlink : Cond.fieldLink own index RX8 "emptyCount" "I" ∈ wsU) (d : decode cc pc = .ok (.putfield index, 3)) (kk : ∀ x' : Me, x' = up x (30) 6 v → Zz Γ g nL k n x' (pc + 3) lv st) : Zz Γ g nL k n x pc lv (.int (zi v) :: .ref (gA g (30)) :: st) := z_put hO (30) 6 (by decide) d hlink (ci := 2) (kf := 6) (N := 14) (T := TX8) rfl in_X8 tyX8_ok nmX8 (by decide) rfl (ty := .int) (by decide) rfl rfl (Nat.le_of_ble_eq_true rfl) rfl (rfl) kk
theorem gf_X8_side (hO : Ok Γ g cc nL own F Lc kc ns) {index : Nat} (hlink : Cond.fieldLink own index RX8 "side" "I" ∈ wsU) (d : decode cc pc = .ok (.getfield index, 3)) (kk : Zz Γ g nL k n x (pc + 3) lv (.int (zi (x 30 7)) :: st)) : Zz Γ g nL k n x pc lv (.ref (gA g (30)) :: st) := z_get hO (30) (by decide) d hlink (ci := 2) (kf := 7) (N := 14) (T := TX8) rfl in_X8 (by decide) rfl rfl rfl kk
theorem pf_X8_side (hO : Ok Γ g cc nL own F Lc kc ns) {index : Nat} {v : Int} (hlink : Cond.fieldLink own index RX8 "side" "I" ∈ wsU) (d : decode cc pc = .ok (.putfield index, 3)) (kk : ∀ x' : Me, x' = up x (30) 7 v → Zz Γ g nL k n x' (pc + 3) lv st) : Zz Γ g nL k n x pc lv (.int (zi v) :: .ref (gA g (30)) :: st) := z_put hO (30) 7 (by decide) d hlink (ci := 2) (kf := 7) (N := 14) (T := TX8) rfl in_X8 tyX8_ok nmX8 (by decide) rfl (ty := .int) (by decide) rfl rfl (Nat.le_of_ble_eq_true rfl) rfl (rfl) kk
theorem gf_X8_due (hO : Ok Γ g cc nL own F Lc kc ns) {index : Nat} (hlink : Cond.fieldLink own index RX8 "due" "I" ∈ wsU) (d : decode cc pc = .ok (.getfield index, 3)) (kk : Zz Γ g nL k n x (pc + 3) lv (.int (zi (x 30 8)) :: st)) : Zz Γ g nL k n x pc lv (.ref (gA g (30)) :: st) := z_get hO (30) (by decide) d hlink (ci := 2) (kf := 8) (N := 14) (T := TX8) rfl in_X8 (by decide) rfl rfl rfl kk
theorem pf_X8_due (hO : Ok Γ g cc nL own F Lc kc ns) {index : Nat} {v : Int} (hlink : Cond.fieldLink own index RX8 "due" "I" ∈ wsU) (d : decode cc pc = .ok (.putfield index, 3)) (kk : ∀ x' : Me, x' = up x (30) 8 v → Zz Γ g nL k n x' (pc + 3) lv st) : Zz Γ g nL k n x pc lv (.int (zi v) :: .ref (gA g (30)) :: st) := z_put hO (30) 8 (by decide) d hlink (ci := 2) (kf := 8) (N := 14) (T := TX8) rfl in_X8 tyX8_ok nmX8 (by decide) rfl (ty := .int) (by decide) rfl rfl (Nat.le_of_ble_eq_true rfl) rfl (rfl) kk
theorem gf_X8_isClashing (hO : Ok Γ g cc nL own F Lc kc ns) {index : Nat} (hlink : Cond.fieldLink own index RX8 "isClashing" "Z" ∈ wsU) (d : decode cc pc = .ok (.getfield index, 3)) (kk : Zz Γ g nL k n x (pc + 3) lv (.int (zi (x 30 9)) :: st)) : Zz Γ g nL k n x pc lv (.ref (gA g (30)) :: st) := z_get hO (30) (by decide) d hlink (ci := 2) (kf := 9) (N := 14) (T := TX8) rfl in_X8 (by decide) rfl rfl rfl kk
theorem pf_X8_isClashing (hO : Ok Γ g cc nL own F Lc kc ns) {index : Nat} {v : Int} (hlink : Cond.fieldLink own index RX8 "isClashing" "Z" ∈ wsU) (hb : v = 0 ∨ v = 1) (d : decode cc pc = .ok (.putfield index, 3)) (kk : ∀ x' : Me, x' = up x (30) 9 v → Zz Γ g nL k n x' (pc + 3) lv st) : Zz Γ g nL k n x pc lv (.int (zi v) :: .ref (gA g (30)) :: st) := z_put hO (30) 9 (by decide) d hlink (ci := 2) (kf := 9) (N := 14) (T := TX8) rfl in_X8 tyX8_ok nmX8 (by decide) rfl (ty := .boolean) (by decide) (zi_bool hb).1 (zi_bool hb).2.2 (Nat.le_of_ble_eq_true rfl) rfl (rfl) kk
theorem gf_X8_wanted (hO : Ok Γ g cc nL own F Lc kc ns) {index : Nat} (hlink : Cond.fieldLink own index RX8 "wanted" "I" ∈ wsU) (d : decode cc pc = .ok (.getfield index, 3)) (kk : Zz Γ g nL k n x (pc + 3) lv (.int (zi (x 30 10)) :: st)) : Zz Γ g nL k n x pc lv (.ref (gA g (30)) :: st) := z_get hO (30) (by decide) d hlink (ci := 2) (kf := 10) (N := 14) (T := TX8) rfl in_X8 (by decide) rfl rfl rfl kk
theorem pf_X8_wanted (hO : Ok Γ g cc nL own F Lc kc ns) {index : Nat} {v : Int} (hlink : Cond.fieldLink own index RX8 "wanted" "I" ∈ wsU) (d : decode cc pc = .ok (.putfield index, 3)) (kk : ∀ x' : Me, x' = up x (30) 10 v → Zz Γ g nL k n x' (pc + 3) lv st) : Zz Γ g nL k n x pc lv (.int (zi v) :: .ref (gA g (30)) :: st) := z_put hO (30) 10 (by decide) d hlink (ci := 2) (kf := 10) (N := 14) (T := TX8) rfl in_X8 tyX8_ok nmX8 (by decide) rfl (ty := .int) (by decide) rfl rfl (Nat.le_of_ble_eq_true rfl) rfl (rfl) kk
theorem gf_X8_wantedPlace (hO : Ok Γ g cc nL own F Lc kc ns) {index : Nat} (hlink : Cond.fieldLink own index RX8 "wantedPlace" "I" ∈ wsU) (d : decode cc pc = .ok (.getfield index, 3)) (kk : Zz Γ g nL k n x (pc + 3) lv (.int (zi (x 30 11)) :: st)) : Zz Γ g nL k n x pc lv (.ref (gA g (30)) :: st) := z_get hO (30) (by decide) d hlink (ci := 2) (kf := 11) (N := 14) (T := TX8) rfl in_X8 (by decide) rfl rfl rfl kk
theorem pf_X8_wantedPlace (hO : Ok Γ g cc nL own F Lc kc ns) {index : Nat} {v : Int} (hlink : Cond.fieldLink own index RX8 "wantedPlace" "I" ∈ wsU) (d : decode cc pc = .ok (.putfield index, 3)) (kk : ∀ x' : Me, x' = up x (30) 11 v → Zz Γ g nL k n x' (pc + 3) lv st) : Zz Γ g nL k n x pc lv (.int (zi v) :: .ref (gA g (30)) :: st) := z_put hO (30) 11 (by decide) d hlink (ci := 2) (kf := 11) (N := 14) (T := TX8) rfl in_X8 tyX8_ok nmX8 (by decide) rfl (ty := .int) (by decide) rfl rfl (Nat.le_of_ble_eq_true rfl) rfl (rfl) kk
theorem gf_X8_found (hO : Ok Γ g cc nL own F Lc kc ns) {index : Nat} (hlink : Cond.fieldLink own index RX8 "found" "I" ∈ wsU) (d : decode cc pc = .ok (.getfield index, 3)) (kk : Zz Γ g nL k n x (pc + 3) lv (.int (zi (x 30 12)) :: st)) : Zz Γ g nL k n x pc lv (.ref (gA g (30)) :: st) := z_get hO (30) (by decide) d hlink (ci := 2) (kf := 12) (N := 14) (T := TX8) rfl in_X8 (by decide) rfl rfl rfl kk
theorem pf_X8_found (hO : Ok Γ g cc nL own F Lc kc ns) {index : Nat} {v : Int} (hlink : Cond.fieldLink own index RX8 "found" "I" ∈ wsU) (d : decode cc pc = .ok (.putfield index, 3)) (kk : ∀ x' : Me, x' = up x (30) 12 v → Zz Γ g nL k n x' (pc + 3) lv st) : Zz Γ g nL k n x pc lv (.int (zi v) :: .ref (gA g (30)) :: st) := z_put hO (30) 12 (by decide) d hlink (ci := 2) (kf := 12) (N := 14) (T := TX8) rfl in_X8 tyX8_ok nmX8 (by decide) rfl (ty := .int) (by decide) rfl rfl (Nat.le_of_ble_eq_true rfl) rfl (rfl) kk
theorem gf_X8_answer (hO : Ok Γ g cc nL own F Lc kc ns) {index : Nat} (hlink : Cond.fieldLink own index RX8 "answer" "I" ∈ wsU) (d : decode cc pc = .ok (.getfield index, 3)) (kk : Zz Γ g nL k n x (pc + 3) lv (.int (zi (x 30 13)) :: st)) : Zz Γ g nL k n x pc lv (.ref (gA g (30)) :: st) := z_get hO (30) (by decide) d hlink (ci := 2) (kf := 13) (N := 14) (T := TX8) rfl in_X8 (by decide) rfl rfl rfl kk
theorem pf_X8_answer (hO : Ok Γ g cc nL own F Lc kc ns) {index : Nat} {v : Int} (hlink : Cond.fieldLink own index RX8 "answer" "I" ∈ wsU) (d : decode cc pc = .ok (.putfield index, 3)) (kk : ∀ x' : Me, x' = up x (30) 13 v → Zz Γ g nL k n x' (pc + 3) lv st) : Zz Γ g nL k n x pc lv (.int (zi v) :: .ref (gA g (30)) :: st) := z_put hO (30) 13 (by decide) d hlink (ci := 2) (kf := 13) (N := 14) (T := TX8) rfl in_X8 tyX8_ok nmX8 (by decide) rfl (ty := .int) (by decide) rfl rfl (Nat.le_of_ble_eq_true rfl) rfl (rfl) kk
theorem gf_X10_rows (hO : Ok Γ g cc nL own F Lc kc ns) {index : Nat} (hlink : Cond.fieldLink own index RX10 "rows" "[[I" ∈ wsU) (d : decode cc pc = .ok (.getfield index, 3)) (kk : Zz Γ g nL k n x (pc + 3) lv (.ref (gA g 43) :: st)) : Zz Γ g nL k n x pc lv (.ref (gA g (42)) :: st) := z_get hO (42) (by decide) d hlink (ci := 3) (kf := 0) (N := 5) (T := TX10) rfl in_X10 (by decide) rfl rfl rfl kk
theorem gf_X10_leads (hO : Ok Γ g cc nL own F Lc kc ns) {index : Nat} (hlink : Cond.fieldLink own index RX10 "leads" "[I" ∈ wsU) (d : decode cc pc = .ok (.getfield index, 3)) (kk : Zz Γ g nL k n x (pc + 3) lv (.ref (gA g 44) :: st)) : Zz Γ g nL k n x pc lv (.ref (gA g (42)) :: st) := z_get hO (42) (by decide) d hlink (ci := 3) (kf := 1) (N := 5) (T := TX10) rfl in_X10 (by decide) rfl rfl rfl kk
theorem gf_X10_row (hO : Ok Γ g cc nL own F Lc kc ns) {index : Nat} (hlink : Cond.fieldLink own index RX10 "row" "[I" ∈ wsU) (d : decode cc pc = .ok (.getfield index, 3)) (kk : Zz Γ g nL k n x (pc + 3) lv (.ref (gA g 45) :: st)) : Zz Γ g nL k n x pc lv (.ref (gA g (42)) :: st) := z_get hO (42) (by decide) d hlink (ci := 3) (kf := 2) (N := 5) (T := TX10) rfl in_X10 (by decide) rfl rfl rfl kk
theorem gf_X10_rank (hO : Ok Γ g cc nL own F Lc kc ns) {index : Nat} (hlink : Cond.fieldLink own index RX10 "rank" "I" ∈ wsU) (d : decode cc pc = .ok (.getfield index, 3)) (kk : Zz Γ g nL k n x (pc + 3) lv (.int (zi (x 42 3)) :: st)) : Zz Γ g nL k n x pc lv (.ref (gA g (42)) :: st) := z_get hO (42) (by decide) d hlink (ci := 3) (kf := 3) (N := 5) (T := TX10) rfl in_X10 (by decide) rfl rfl rfl kk
theorem pf_X10_rank (hO : Ok Γ g cc nL own F Lc kc ns) {index : Nat} {v : Int} (hlink : Cond.fieldLink own index RX10 "rank" "I" ∈ wsU) (d : decode cc pc = .ok (.putfield index, 3)) (kk : ∀ x' : Me, x' = up x (42) 3 v → Zz Γ g nL k n x' (pc + 3) lv st) : Zz Γ g nL k n x pc lv (.int (zi v) :: .ref (gA g (42)) :: st) := z_put hO (42) 3 (by decide) d hlink (ci := 3) (kf := 3) (N := 5) (T := TX10) rfl in_X10 tyX10_ok nmX10 (by decide) rfl (ty := .int) (by decide) rfl rfl (Nat.le_of_ble_eq_true rfl) rfl (rfl) kk
theorem gf_X10_side (hO : Ok Γ g cc nL own F Lc kc ns) {index : Nat} (hlink : Cond.fieldLink own index RX10 "side" "I" ∈ wsU) (d : decode cc pc = .ok (.getfield index, 3)) (kk : Zz Γ g nL k n x (pc + 3) lv (.int (zi (x 42 4)) :: st)) : Zz Γ g nL k n x pc lv (.ref (gA g (42)) :: st) := z_get hO (42) (by decide) d hlink (ci := 3) (kf := 4) (N := 5) (T := TX10) rfl in_X10 (by decide) rfl rfl rfl kk
theorem pf_X10_side (hO : Ok Γ g cc nL own F Lc kc ns) {index : Nat} {v : Int} (hlink : Cond.fieldLink own index RX10 "side" "I" ∈ wsU) (d : decode cc pc = .ok (.putfield index, 3)) (kk : ∀ x' : Me, x' = up x (42) 4 v → Zz Γ g nL k n x' (pc + 3) lv st) : Zz Γ g nL k n x pc lv (.int (zi v) :: .ref (gA g (42)) :: st) := z_put hO (42) 4 (by decide) d hlink (ci := 3) (kf := 4) (N := 5) (T := TX10) rfl in_X10 tyX10_ok nmX10 (by decide) rfl (ty := .int) (by decide) rfl rfl (Nat.le_of_ble_eq_true rfl) rfl (rfl) kk
theorem gf_X11_figures (hO : Ok Γ g cc nL own F Lc kc ns) {index : Nat} (hlink : Cond.fieldLink own index RX11 "figures" "[LLoshuHall$Figure;" ∈ wsU) (d : decode cc pc = .ok (.getfield index, 3)) (kk : Zz Γ g nL k n x (pc + 3) lv (.ref (gA g 1) :: st)) : Zz Γ g nL k n x pc lv (.ref (gA g (0)) :: st) := z_get hO (0) (by decide) d hlink (ci := 4) (kf := 0) (N := 6) (T := TX11) rfl in_X11 (by decide) rfl rfl rfl kk
theorem gf_X11_spare (hO : Ok Γ g cc nL own F Lc kc ns) {index : Nat} (hlink : Cond.fieldLink own index RX11 "spare" "LLoshuHall$Figure;" ∈ wsU) (d : decode cc pc = .ok (.getfield index, 3)) (kk : Zz Γ g nL k n x (pc + 3) lv (.ref (gA g (10 + 8)) :: st)) : Zz Γ g nL k n x pc lv (.ref (gA g (0)) :: st) := z_get hO (0) (by decide) d hlink (ci := 4) (kf := 1) (N := 6) (T := TX11) rfl in_X11 (by decide) rfl rfl rfl kk
theorem gf_X11_search (hO : Ok Γ g cc nL own F Lc kc ns) {index : Nat} (hlink : Cond.fieldLink own index RX11 "search" "LLoshuHall$Search;" ∈ wsU) (d : decode cc pc = .ok (.getfield index, 3)) (kk : Zz Γ g nL k n x (pc + 3) lv (.ref (gA g 30) :: st)) : Zz Γ g nL k n x pc lv (.ref (gA g (0)) :: st) := z_get hO (0) (by decide) d hlink (ci := 4) (kf := 2) (N := 6) (T := TX11) rfl in_X11 (by decide) rfl rfl rfl kk
theorem gf_X11_givensFinder (hO : Ok Γ g cc nL own F Lc kc ns) {index : Nat} (hlink : Cond.fieldLink own index RX11 "givensFinder" "LLoshuHall$Givens;" ∈ wsU) (d : decode cc pc = .ok (.getfield index, 3)) (kk : Zz Γ g nL k n x (pc + 3) lv (.ref (gA g 40) :: st)) : Zz Γ g nL k n x pc lv (.ref (gA g (0)) :: st) := z_get hO (0) (by decide) d hlink (ci := 4) (kf := 3) (N := 6) (T := TX11) rfl in_X11 (by decide) rfl rfl rfl kk
theorem gf_X11_space (hO : Ok Γ g cc nL own F Lc kc ns) {index : Nat} (hlink : Cond.fieldLink own index RX11 "space" "LLoshuHall$Space;" ∈ wsU) (d : decode cc pc = .ok (.getfield index, 3)) (kk : Zz Γ g nL k n x (pc + 3) lv (.ref (gA g 42) :: st)) : Zz Γ g nL k n x pc lv (.ref (gA g (0)) :: st) := z_get hO (0) (by decide) d hlink (ci := 4) (kf := 4) (N := 6) (T := TX11) rfl in_X11 (by decide) rfl rfl rfl kk
theorem gf_X11_figureCount (hO : Ok Γ g cc nL own F Lc kc ns) {index : Nat} (hlink : Cond.fieldLink own index RX11 "figureCount" "I" ∈ wsU) (d : decode cc pc = .ok (.getfield index, 3)) (kk : Zz Γ g nL k n x (pc + 3) lv (.int (zi (x 0 5)) :: st)) : Zz Γ g nL k n x pc lv (.ref (gA g (0)) :: st) := z_get hO (0) (by decide) d hlink (ci := 4) (kf := 5) (N := 6) (T := TX11) rfl in_X11 (by decide) rfl rfl rfl kk
theorem pf_X11_figureCount (hO : Ok Γ g cc nL own F Lc kc ns) {index : Nat} {v : Int} (hlink : Cond.fieldLink own index RX11 "figureCount" "I" ∈ wsU) (d : decode cc pc = .ok (.putfield index, 3)) (kk : ∀ x' : Me, x' = up x (0) 5 v → Zz Γ g nL k n x' (pc + 3) lv st) : Zz Γ g nL k n x pc lv (.int (zi v) :: .ref (gA g (0)) :: st) := z_put hO (0) 5 (by decide) d hlink (ci := 4) (kf := 5) (N := 6) (T := TX11) rfl in_X11 tyX11_ok nmX11 (by decide) rfl (ty := .int) (by decide) rfl rfl (Nat.le_of_ble_eq_true rfl) rfl (rfl) kk
theorem gf_X12_thrown (hO : Ok Γ g cc nL own F Lc kc ns) {index : Nat} (hlink : Cond.fieldLink own index RX12 "thrown" "I" ∈ wsU) (d : decode cc pc = .ok (.getfield index, 3)) (kk : Zz Γ g nL k n x (pc + 3) lv (.int (zi (x 50 0)) :: st)) : Zz Γ g nL k n x pc lv (.ref (gA g (50)) :: st) := z_get hO (50) (by decide) d hlink (ci := 5) (kf := 0) (N := 16) (T := TX12) rfl in_X12 (by decide) rfl rfl rfl kk
theorem pf_X12_thrown (hO : Ok Γ g cc nL own F Lc kc ns) {index : Nat} {v : Int} (hlink : Cond.fieldLink own index RX12 "thrown" "I" ∈ wsU) (d : decode cc pc = .ok (.putfield index, 3)) (kk : ∀ x' : Me, x' = up x (50) 0 v → Zz Γ g nL k n x' (pc + 3) lv st) : Zz Γ g nL k n x pc lv (.int (zi v) :: .ref (gA g (50)) :: st) := z_put hO (50) 0 (by decide) d hlink (ci := 5) (kf := 0) (N := 16) (T := TX12) rfl in_X12 tyX12_ok nmX12 (by decide) rfl (ty := .int) (by decide) rfl rfl (Nat.le_of_ble_eq_true rfl) rfl (rfl) kk
theorem gf_X12_squares (hO : Ok Γ g cc nL own F Lc kc ns) {index : Nat} (hlink : Cond.fieldLink own index RX12 "squares" "I" ∈ wsU) (d : decode cc pc = .ok (.getfield index, 3)) (kk : Zz Γ g nL k n x (pc + 3) lv (.int (zi (x 50 1)) :: st)) : Zz Γ g nL k n x pc lv (.ref (gA g (50)) :: st) := z_get hO (50) (by decide) d hlink (ci := 5) (kf := 1) (N := 16) (T := TX12) rfl in_X12 (by decide) rfl rfl rfl kk
theorem pf_X12_squares (hO : Ok Γ g cc nL own F Lc kc ns) {index : Nat} {v : Int} (hlink : Cond.fieldLink own index RX12 "squares" "I" ∈ wsU) (d : decode cc pc = .ok (.putfield index, 3)) (kk : ∀ x' : Me, x' = up x (50) 1 v → Zz Γ g nL k n x' (pc + 3) lv st) : Zz Γ g nL k n x pc lv (.int (zi v) :: .ref (gA g (50)) :: st) := z_put hO (50) 1 (by decide) d hlink (ci := 5) (kf := 1) (N := 16) (T := TX12) rfl in_X12 tyX12_ok nmX12 (by decide) rfl (ty := .int) (by decide) rfl rfl (Nat.le_of_ble_eq_true rfl) rfl (rfl) kk
theorem gf_X12_sideOf (hO : Ok Γ g cc nL own F Lc kc ns) {index : Nat} (hlink : Cond.fieldLink own index RX12 "sideOf" "[I" ∈ wsU) (d : decode cc pc = .ok (.getfield index, 3)) (kk : Zz Γ g nL k n x (pc + 3) lv (.ref (gA g 51) :: st)) : Zz Γ g nL k n x pc lv (.ref (gA g (50)) :: st) := z_get hO (50) (by decide) d hlink (ci := 5) (kf := 2) (N := 16) (T := TX12) rfl in_X12 (by decide) rfl rfl rfl kk
theorem gf_X12_numbers (hO : Ok Γ g cc nL own F Lc kc ns) {index : Nat} (hlink : Cond.fieldLink own index RX12 "numbers" "[I" ∈ wsU) (d : decode cc pc = .ok (.getfield index, 3)) (kk : Zz Γ g nL k n x (pc + 3) lv (.ref (gA g 52) :: st)) : Zz Γ g nL k n x pc lv (.ref (gA g (50)) :: st) := z_get hO (50) (by decide) d hlink (ci := 5) (kf := 3) (N := 16) (T := TX12) rfl in_X12 (by decide) rfl rfl rfl kk
theorem gf_X12_made (hO : Ok Γ g cc nL own F Lc kc ns) {index : Nat} (hlink : Cond.fieldLink own index RX12 "made" "[I" ∈ wsU) (d : decode cc pc = .ok (.getfield index, 3)) (kk : Zz Γ g nL k n x (pc + 3) lv (.ref (gA g 53) :: st)) : Zz Γ g nL k n x pc lv (.ref (gA g (50)) :: st) := z_get hO (50) (by decide) d hlink (ci := 5) (kf := 4) (N := 16) (T := TX12) rfl in_X12 (by decide) rfl rfl rfl kk
theorem gf_X12_side (hO : Ok Γ g cc nL own F Lc kc ns) {index : Nat} (hlink : Cond.fieldLink own index RX12 "side" "I" ∈ wsU) (d : decode cc pc = .ok (.getfield index, 3)) (kk : Zz Γ g nL k n x (pc + 3) lv (.int (zi (x 50 5)) :: st)) : Zz Γ g nL k n x pc lv (.ref (gA g (50)) :: st) := z_get hO (50) (by decide) d hlink (ci := 5) (kf := 5) (N := 16) (T := TX12) rfl in_X12 (by decide) rfl rfl rfl kk
theorem pf_X12_side (hO : Ok Γ g cc nL own F Lc kc ns) {index : Nat} {v : Int} (hlink : Cond.fieldLink own index RX12 "side" "I" ∈ wsU) (d : decode cc pc = .ok (.putfield index, 3)) (kk : ∀ x' : Me, x' = up x (50) 5 v → Zz Γ g nL k n x' (pc + 3) lv st) : Zz Γ g nL k n x pc lv (.int (zi v) :: .ref (gA g (50)) :: st) := z_put hO (50) 5 (by decide) d hlink (ci := 5) (kf := 5) (N := 16) (T := TX12) rfl in_X12 tyX12_ok nmX12 (by decide) rfl (ty := .int) (by decide) rfl rfl (Nat.le_of_ble_eq_true rfl) rfl (rfl) kk
theorem gf_X12_work (hO : Ok Γ g cc nL own F Lc kc ns) {index : Nat} (hlink : Cond.fieldLink own index RX12 "work" "[I" ∈ wsU) (d : decode cc pc = .ok (.getfield index, 3)) (kk : Zz Γ g nL k n x (pc + 3) lv (.ref (gA g 54) :: st)) : Zz Γ g nL k n x pc lv (.ref (gA g (50)) :: st) := z_get hO (50) (by decide) d hlink (ci := 5) (kf := 6) (N := 16) (T := TX12) rfl in_X12 (by decide) rfl rfl rfl kk
theorem gf_X12_empties (hO : Ok Γ g cc nL own F Lc kc ns) {index : Nat} (hlink : Cond.fieldLink own index RX12 "empties" "I" ∈ wsU) (d : decode cc pc = .ok (.getfield index, 3)) (kk : Zz Γ g nL k n x (pc + 3) lv (.int (zi (x 50 7)) :: st)) : Zz Γ g nL k n x pc lv (.ref (gA g (50)) :: st) := z_get hO (50) (by decide) d hlink (ci := 5) (kf := 7) (N := 16) (T := TX12) rfl in_X12 (by decide) rfl rfl rfl kk
theorem pf_X12_empties (hO : Ok Γ g cc nL own F Lc kc ns) {index : Nat} {v : Int} (hlink : Cond.fieldLink own index RX12 "empties" "I" ∈ wsU) (d : decode cc pc = .ok (.putfield index, 3)) (kk : ∀ x' : Me, x' = up x (50) 7 v → Zz Γ g nL k n x' (pc + 3) lv st) : Zz Γ g nL k n x pc lv (.int (zi v) :: .ref (gA g (50)) :: st) := z_put hO (50) 7 (by decide) d hlink (ci := 5) (kf := 7) (N := 16) (T := TX12) rfl in_X12 tyX12_ok nmX12 (by decide) rfl (ty := .int) (by decide) rfl rfl (Nat.le_of_ble_eq_true rfl) rfl (rfl) kk
theorem gf_X12_empty (hO : Ok Γ g cc nL own F Lc kc ns) {index : Nat} (hlink : Cond.fieldLink own index RX12 "empty" "[I" ∈ wsU) (d : decode cc pc = .ok (.getfield index, 3)) (kk : Zz Γ g nL k n x (pc + 3) lv (.ref (gA g 55) :: st)) : Zz Γ g nL k n x pc lv (.ref (gA g (50)) :: st) := z_get hO (50) (by decide) d hlink (ci := 5) (kf := 8) (N := 16) (T := TX12) rfl in_X12 (by decide) rfl rfl rfl kk
theorem gf_X12_tried (hO : Ok Γ g cc nL own F Lc kc ns) {index : Nat} (hlink : Cond.fieldLink own index RX12 "tried" "[I" ∈ wsU) (d : decode cc pc = .ok (.getfield index, 3)) (kk : Zz Γ g nL k n x (pc + 3) lv (.ref (gA g 56) :: st)) : Zz Γ g nL k n x pc lv (.ref (gA g (50)) :: st) := z_get hO (50) (by decide) d hlink (ci := 5) (kf := 9) (N := 16) (T := TX12) rfl in_X12 (by decide) rfl rfl rfl kk
theorem gf_X12_found (hO : Ok Γ g cc nL own F Lc kc ns) {index : Nat} (hlink : Cond.fieldLink own index RX12 "found" "[I" ∈ wsU) (d : decode cc pc = .ok (.getfield index, 3)) (kk : Zz Γ g nL k n x (pc + 3) lv (.ref (gA g 57) :: st)) : Zz Γ g nL k n x pc lv (.ref (gA g (50)) :: st) := z_get hO (50) (by decide) d hlink (ci := 5) (kf := 10) (N := 16) (T := TX12) rfl in_X12 (by decide) rfl rfl rfl kk
theorem gf_X12_picked (hO : Ok Γ g cc nL own F Lc kc ns) {index : Nat} (hlink : Cond.fieldLink own index RX12 "picked" "[I" ∈ wsU) (d : decode cc pc = .ok (.getfield index, 3)) (kk : Zz Γ g nL k n x (pc + 3) lv (.ref (gA g 58) :: st)) : Zz Γ g nL k n x pc lv (.ref (gA g (50)) :: st) := z_get hO (50) (by decide) d hlink (ci := 5) (kf := 11) (N := 16) (T := TX12) rfl in_X12 (by decide) rfl rfl rfl kk
theorem gf_X12_line (hO : Ok Γ g cc nL own F Lc kc ns) {index : Nat} (hlink : Cond.fieldLink own index RX12 "line" "[J" ∈ wsU) (d : decode cc pc = .ok (.getfield index, 3)) (kk : Zz Γ g nL k n x (pc + 3) lv (.ref (gA g 59) :: st)) : Zz Γ g nL k n x pc lv (.ref (gA g (50)) :: st) := z_get hO (50) (by decide) d hlink (ci := 5) (kf := 12) (N := 16) (T := TX12) rfl in_X12 (by decide) rfl rfl rfl kk
theorem gf_X12_first (hO : Ok Γ g cc nL own F Lc kc ns) {index : Nat} (hlink : Cond.fieldLink own index RX12 "first" "[J" ∈ wsU) (d : decode cc pc = .ok (.getfield index, 3)) (kk : Zz Γ g nL k n x (pc + 3) lv (.ref (gA g 60) :: st)) : Zz Γ g nL k n x pc lv (.ref (gA g (50)) :: st) := z_get hO (50) (by decide) d hlink (ci := 5) (kf := 13) (N := 16) (T := TX12) rfl in_X12 (by decide) rfl rfl rfl kk
theorem gf_X12_rows (hO : Ok Γ g cc nL own F Lc kc ns) {index : Nat} (hlink : Cond.fieldLink own index RX12 "rows" "[J" ∈ wsU) (d : decode cc pc = .ok (.getfield index, 3)) (kk : Zz Γ g nL k n x (pc + 3) lv (.ref (gA g 61) :: st)) : Zz Γ g nL k n x pc lv (.ref (gA g (50)) :: st) := z_get hO (50) (by decide) d hlink (ci := 5) (kf := 14) (N := 16) (T := TX12) rfl in_X12 (by decide) rfl rfl rfl kk
theorem gf_X12_isBegun (hO : Ok Γ g cc nL own F Lc kc ns) {index : Nat} (hlink : Cond.fieldLink own index RX12 "isBegun" "[Z" ∈ wsU) (d : decode cc pc = .ok (.getfield index, 3)) (kk : Zz Γ g nL k n x (pc + 3) lv (.ref (gA g 62) :: st)) : Zz Γ g nL k n x pc lv (.ref (gA g (50)) :: st) := z_get hO (50) (by decide) d hlink (ci := 5) (kf := 15) (N := 16) (T := TX12) rfl in_X12 (by decide) rfl rfl rfl kk
end Flds
