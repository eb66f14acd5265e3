theorem tb_t {w : Cond} (i : Nat) (h : tables_1[i]? = some w) (g : goodWord w = true) : w ∈ tb := tb_in (List.mem_append_right _ (List.mem_of_getElem? h)) g
theorem tb_p {w : Cond} (i : Nat) (h : (k2_sels lw_privs)[i]? = some w) (g : goodWord w = true) : w ∈ tb := tb_in (List.mem_append_left _ (List.mem_of_getElem? h)) g
abbrev mJ0_charAt_5068e : Mt := (yJ0_charAt_5068e, cJ0_charAt_5068e, 2, (some (.char)))
set_option maxRecDepth 100000 in
theorem kJ0_charAt_5068e : Cond.initialized (yJ0_charAt_5068e).cls ∈ tb ∧ Cond.code yJ0_charAt_5068e cJ0_charAt_5068e 2 (some (.char)) ∈ tb ∧ ((yJ0_charAt_5068e).cls ≠ "java/lang/invoke/MethodHandle" ∧ (yJ0_charAt_5068e).cls ≠ "java/lang/invoke/VarHandle" ∧ (parseMethodDescriptor (yJ0_charAt_5068e).desc).map (fun d => d.parameters.length) = some 1) ∧ 2 ≤ 21 := ⟨tb_t 4 (by decide +kernel) (by decide +kernel), tb_t 1400 rfl (by decide +kernel), ⟨by decide +kernel, by decide +kernel, by decide +kernel⟩, by decide⟩
theorem vJ0_charAt_5068e : Cond.instanceMethod yJ0_charAt_5068e ∈ tb ∧ Cond.selects (yJ0_charAt_5068e).cls yJ0_charAt_5068e yJ0_charAt_5068e ∈ tb := ⟨tb_t 1398 (by decide +kernel) (by decide +kernel), tb_t 1399 (by decide +kernel) (by decide +kernel)⟩
abbrev mJ0_checkBoundsBeginEnd_23922 : Mt := (yJ0_checkBoundsBeginEnd_23922, cJ0_checkBoundsBeginEnd_23922, 3, none)
set_option maxRecDepth 100000 in
theorem kJ0_checkBoundsBeginEnd_23922 : Cond.initialized (yJ0_checkBoundsBeginEnd_23922).cls ∈ tb ∧ Cond.code yJ0_checkBoundsBeginEnd_23922 cJ0_checkBoundsBeginEnd_23922 3 none ∈ tb ∧ ((yJ0_checkBoundsBeginEnd_23922).cls ≠ "java/lang/invoke/MethodHandle" ∧ (yJ0_checkBoundsBeginEnd_23922).cls ≠ "java/lang/invoke/VarHandle" ∧ (parseMethodDescriptor (yJ0_checkBoundsBeginEnd_23922).desc).map (fun d => d.parameters.length) = some 3) ∧ 3 ≤ 21 := ⟨tb_t 4 (by decide +kernel) (by decide +kernel), tb_t 478 rfl (by decide +kernel), ⟨by decide +kernel, by decide +kernel, by decide +kernel⟩, by decide⟩
theorem sJ0_checkBoundsBeginEnd_23922 : Cond.static yJ0_checkBoundsBeginEnd_23922 ∈ tb := tb_t 477 (by decide +kernel) (by decide +kernel)
abbrev mJ0_checkIndex_df160 : Mt := (yJ0_checkIndex_df160, cJ0_checkIndex_df160, 2, none)
set_option maxRecDepth 100000 in
theorem kJ0_checkIndex_df160 : Cond.initialized (yJ0_checkIndex_df160).cls ∈ tb ∧ Cond.code yJ0_checkIndex_df160 cJ0_checkIndex_df160 2 none ∈ tb ∧ ((yJ0_checkIndex_df160).cls ≠ "java/lang/invoke/MethodHandle" ∧ (yJ0_checkIndex_df160).cls ≠ "java/lang/invoke/VarHandle" ∧ (parseMethodDescriptor (yJ0_checkIndex_df160).desc).map (fun d => d.parameters.length) = some 2) ∧ 2 ≤ 21 := ⟨tb_t 4 (by decide +kernel) (by decide +kernel), tb_t 1406 rfl (by decide +kernel), ⟨by decide +kernel, by decide +kernel, by decide +kernel⟩, by decide⟩
theorem sJ0_checkIndex_df160 : Cond.static yJ0_checkIndex_df160 ∈ tb := tb_t 1405 (by decide +kernel) (by decide +kernel)
abbrev mJ0_coder_7d493 : Mt := (yJ0_coder_7d493, cJ0_coder_7d493, 1, (some (.byte)))
set_option maxRecDepth 100000 in
theorem kJ0_coder_7d493 : Cond.initialized (yJ0_coder_7d493).cls ∈ tb ∧ Cond.code yJ0_coder_7d493 cJ0_coder_7d493 1 (some (.byte)) ∈ tb ∧ ((yJ0_coder_7d493).cls ≠ "java/lang/invoke/MethodHandle" ∧ (yJ0_coder_7d493).cls ≠ "java/lang/invoke/VarHandle" ∧ (parseMethodDescriptor (yJ0_coder_7d493).desc).map (fun d => d.parameters.length) = some 0) ∧ 1 ≤ 21 := ⟨tb_t 4 (by decide +kernel) (by decide +kernel), tb_t 70 rfl (by decide +kernel), ⟨by decide +kernel, by decide +kernel, by decide +kernel⟩, by decide⟩
theorem vJ0_coder_7d493 : Cond.instanceMethod yJ0_coder_7d493 ∈ tb ∧ Cond.selects (yJ0_coder_7d493).cls yJ0_coder_7d493 yJ0_coder_7d493 ∈ tb := ⟨tb_t 68 (by decide +kernel) (by decide +kernel), tb_t 69 (by decide +kernel) (by decide +kernel)⟩
abbrev mJ0_indexOf_0f7a4 : Mt := (yJ0_indexOf_0f7a4, cJ0_indexOf_0f7a4, 2, (some (.int)))
set_option maxRecDepth 100000 in
theorem kJ0_indexOf_0f7a4 : Cond.initialized (yJ0_indexOf_0f7a4).cls ∈ tb ∧ Cond.code yJ0_indexOf_0f7a4 cJ0_indexOf_0f7a4 2 (some (.int)) ∈ tb ∧ ((yJ0_indexOf_0f7a4).cls ≠ "java/lang/invoke/MethodHandle" ∧ (yJ0_indexOf_0f7a4).cls ≠ "java/lang/invoke/VarHandle" ∧ (parseMethodDescriptor (yJ0_indexOf_0f7a4).desc).map (fun d => d.parameters.length) = some 1) ∧ 2 ≤ 21 := ⟨tb_t 4 (by decide +kernel) (by decide +kernel), tb_t 438 rfl (by decide +kernel), ⟨by decide +kernel, by decide +kernel, by decide +kernel⟩, by decide⟩
theorem vJ0_indexOf_0f7a4 : Cond.instanceMethod yJ0_indexOf_0f7a4 ∈ tb ∧ Cond.selects (yJ0_indexOf_0f7a4).cls yJ0_indexOf_0f7a4 yJ0_indexOf_0f7a4 ∈ tb := ⟨tb_t 436 (by decide +kernel) (by decide +kernel), tb_t 437 (by decide +kernel) (by decide +kernel)⟩
abbrev mJ0_indexOf_7cf53 : Mt := (yJ0_indexOf_7cf53, cJ0_indexOf_7cf53, 3, (some (.int)))
set_option maxRecDepth 100000 in
theorem kJ0_indexOf_7cf53 : Cond.initialized (yJ0_indexOf_7cf53).cls ∈ tb ∧ Cond.code yJ0_indexOf_7cf53 cJ0_indexOf_7cf53 3 (some (.int)) ∈ tb ∧ ((yJ0_indexOf_7cf53).cls ≠ "java/lang/invoke/MethodHandle" ∧ (yJ0_indexOf_7cf53).cls ≠ "java/lang/invoke/VarHandle" ∧ (parseMethodDescriptor (yJ0_indexOf_7cf53).desc).map (fun d => d.parameters.length) = some 2) ∧ 3 ≤ 21 := ⟨tb_t 4 (by decide +kernel) (by decide +kernel), tb_t 442 rfl (by decide +kernel), ⟨by decide +kernel, by decide +kernel, by decide +kernel⟩, by decide⟩
theorem vJ0_indexOf_7cf53 : Cond.instanceMethod yJ0_indexOf_7cf53 ∈ tb ∧ Cond.selects (yJ0_indexOf_7cf53).cls yJ0_indexOf_7cf53 yJ0_indexOf_7cf53 ∈ tb := ⟨tb_t 440 (by decide +kernel) (by decide +kernel), tb_t 441 (by decide +kernel) (by decide +kernel)⟩
abbrev mJ0_isLatin1_aae02 : Mt := (yJ0_isLatin1_aae02, cJ0_isLatin1_aae02, 1, (some (.boolean)))
set_option maxRecDepth 100000 in
theorem kJ0_isLatin1_aae02 : Cond.initialized (yJ0_isLatin1_aae02).cls ∈ tb ∧ Cond.code yJ0_isLatin1_aae02 cJ0_isLatin1_aae02 1 (some (.boolean)) ∈ tb ∧ ((yJ0_isLatin1_aae02).cls ≠ "java/lang/invoke/MethodHandle" ∧ (yJ0_isLatin1_aae02).cls ≠ "java/lang/invoke/VarHandle" ∧ (parseMethodDescriptor (yJ0_isLatin1_aae02).desc).map (fun d => d.parameters.length) = some 0) ∧ 1 ≤ 21 := ⟨tb_t 4 (by decide +kernel) (by decide +kernel), tb_t 446 rfl (by decide +kernel), ⟨by decide +kernel, by decide +kernel, by decide +kernel⟩, by decide⟩
theorem vJ0_isLatin1_aae02 : Cond.instanceMethod yJ0_isLatin1_aae02 ∈ tb ∧ Cond.selects (yJ0_isLatin1_aae02).cls yJ0_isLatin1_aae02 yJ0_isLatin1_aae02 ∈ tb := ⟨tb_t 444 (by decide +kernel) (by decide +kernel), tb_t 445 (by decide +kernel) (by decide +kernel)⟩
abbrev mJ0_length_8abf5 : Mt := (yJ0_length_8abf5, cJ0_length_8abf5, 1, (some (.int)))
set_option maxRecDepth 100000 in
theorem kJ0_length_8abf5 : Cond.initialized (yJ0_length_8abf5).cls ∈ tb ∧ Cond.code yJ0_length_8abf5 cJ0_length_8abf5 1 (some (.int)) ∈ tb ∧ ((yJ0_length_8abf5).cls ≠ "java/lang/invoke/MethodHandle" ∧ (yJ0_length_8abf5).cls ≠ "java/lang/invoke/VarHandle" ∧ (parseMethodDescriptor (yJ0_length_8abf5).desc).map (fun d => d.parameters.length) = some 0) ∧ 1 ≤ 21 := ⟨tb_t 4 (by decide +kernel) (by decide +kernel), tb_t 66 rfl (by decide +kernel), ⟨by decide +kernel, by decide +kernel, by decide +kernel⟩, by decide⟩
theorem vJ0_length_8abf5 : Cond.instanceMethod yJ0_length_8abf5 ∈ tb ∧ Cond.selects (yJ0_length_8abf5).cls yJ0_length_8abf5 yJ0_length_8abf5 ∈ tb := ⟨tb_t 64 (by decide +kernel) (by decide +kernel), tb_t 65 (by decide +kernel) (by decide +kernel)⟩
abbrev mJ1_canEncode_9a6ad : Mt := (yJ1_canEncode_9a6ad, cJ1_canEncode_9a6ad, 1, (some (.boolean)))
set_option maxRecDepth 100000 in
theorem kJ1_canEncode_9a6ad : Cond.initialized (yJ1_canEncode_9a6ad).cls ∈ tb ∧ Cond.code yJ1_canEncode_9a6ad cJ1_canEncode_9a6ad 1 (some (.boolean)) ∈ tb ∧ ((yJ1_canEncode_9a6ad).cls ≠ "java/lang/invoke/MethodHandle" ∧ (yJ1_canEncode_9a6ad).cls ≠ "java/lang/invoke/VarHandle" ∧ (parseMethodDescriptor (yJ1_canEncode_9a6ad).desc).map (fun d => d.parameters.length) = some 1) ∧ 1 ≤ 21 := ⟨tb_t 17 (by decide +kernel) (by decide +kernel), tb_t 453 rfl (by decide +kernel), ⟨by decide +kernel, by decide +kernel, by decide +kernel⟩, by decide⟩
theorem sJ1_canEncode_9a6ad : Cond.static yJ1_canEncode_9a6ad ∈ tb := tb_t 452 (by decide +kernel) (by decide +kernel)
abbrev mJ1_charAt_3b067 : Mt := (yJ1_charAt_3b067, cJ1_charAt_3b067, 2, (some (.char)))
set_option maxRecDepth 100000 in
theorem kJ1_charAt_3b067 : Cond.initialized (yJ1_charAt_3b067).cls ∈ tb ∧ Cond.code yJ1_charAt_3b067 cJ1_charAt_3b067 2 (some (.char)) ∈ tb ∧ ((yJ1_charAt_3b067).cls ≠ "java/lang/invoke/MethodHandle" ∧ (yJ1_charAt_3b067).cls ≠ "java/lang/invoke/VarHandle" ∧ (parseMethodDescriptor (yJ1_charAt_3b067).desc).map (fun d => d.parameters.length) = some 2) ∧ 2 ≤ 21 := ⟨tb_t 17 (by decide +kernel) (by decide +kernel), tb_t 1403 rfl (by decide +kernel), ⟨by decide +kernel, by decide +kernel, by decide +kernel⟩, by decide⟩
theorem sJ1_charAt_3b067 : Cond.static yJ1_charAt_3b067 ∈ tb := tb_t 1402 (by decide +kernel) (by decide +kernel)
abbrev mJ1_indexOfChar_4cfef : Mt := (yJ1_indexOfChar_4cfef, cJ1_indexOfChar_4cfef, 6, (some (.int)))
set_option maxRecDepth 100000 in
theorem kJ1_indexOfChar_4cfef : Cond.initialized (yJ1_indexOfChar_4cfef).cls ∈ tb ∧ Cond.code yJ1_indexOfChar_4cfef cJ1_indexOfChar_4cfef 6 (some (.int)) ∈ tb ∧ ((yJ1_indexOfChar_4cfef).cls ≠ "java/lang/invoke/MethodHandle" ∧ (yJ1_indexOfChar_4cfef).cls ≠ "java/lang/invoke/VarHandle" ∧ (parseMethodDescriptor (yJ1_indexOfChar_4cfef).desc).map (fun d => d.parameters.length) = some 4) ∧ 6 ≤ 21 := ⟨tb_t 17 (by decide +kernel) (by decide +kernel), tb_t 460 rfl (by decide +kernel), ⟨by decide +kernel, by decide +kernel, by decide +kernel⟩, by decide⟩
theorem sJ1_indexOfChar_4cfef : Cond.static yJ1_indexOfChar_4cfef ∈ tb := tb_t 459 (by decide +kernel) (by decide +kernel)
abbrev mJ1_indexOf_4cfef : Mt := (yJ1_indexOf_4cfef, cJ1_indexOf_4cfef, 4, (some (.int)))
set_option maxRecDepth 100000 in
theorem kJ1_indexOf_4cfef : Cond.initialized (yJ1_indexOf_4cfef).cls ∈ tb ∧ Cond.code yJ1_indexOf_4cfef cJ1_indexOf_4cfef 4 (some (.int)) ∈ tb ∧ ((yJ1_indexOf_4cfef).cls ≠ "java/lang/invoke/MethodHandle" ∧ (yJ1_indexOf_4cfef).cls ≠ "java/lang/invoke/VarHandle" ∧ (parseMethodDescriptor (yJ1_indexOf_4cfef).desc).map (fun d => d.parameters.length) = some 4) ∧ 4 ≤ 21 := ⟨tb_t 17 (by decide +kernel) (by decide +kernel), tb_t 450 rfl (by decide +kernel), ⟨by decide +kernel, by decide +kernel, by decide +kernel⟩, by decide⟩
theorem sJ1_indexOf_4cfef : Cond.static yJ1_indexOf_4cfef ∈ tb := tb_t 449 (by decide +kernel) (by decide +kernel)
abbrev mJ3_checkFromToIndex_8c36e : Mt := (yJ3_checkFromToIndex_8c36e, cJ3_checkFromToIndex_8c36e, 4, (some (.int)))
set_option maxRecDepth 100000 in
theorem kJ3_checkFromToIndex_8c36e : Cond.initialized (yJ3_checkFromToIndex_8c36e).cls ∈ tb ∧ Cond.code yJ3_checkFromToIndex_8c36e cJ3_checkFromToIndex_8c36e 4 (some (.int)) ∈ tb ∧ ((yJ3_checkFromToIndex_8c36e).cls ≠ "java/lang/invoke/MethodHandle" ∧ (yJ3_checkFromToIndex_8c36e).cls ≠ "java/lang/invoke/VarHandle" ∧ (parseMethodDescriptor (yJ3_checkFromToIndex_8c36e).desc).map (fun d => d.parameters.length) = some 4) ∧ 4 ≤ 21 := ⟨tb_t 19 (by decide +kernel) (by decide +kernel), tb_t 483 rfl (by decide +kernel), ⟨by decide +kernel, by decide +kernel, by decide +kernel⟩, by decide⟩
theorem sJ3_checkFromToIndex_8c36e : Cond.static yJ3_checkFromToIndex_8c36e ∈ tb := tb_t 482 (by decide +kernel) (by decide +kernel)
abbrev mJ3_checkIndex_8e157 : Mt := (yJ3_checkIndex_8e157, cJ3_checkIndex_8e157, 3, (some (.int)))
set_option maxRecDepth 100000 in
theorem kJ3_checkIndex_8e157 : Cond.initialized (yJ3_checkIndex_8e157).cls ∈ tb ∧ Cond.code yJ3_checkIndex_8e157 cJ3_checkIndex_8e157 3 (some (.int)) ∈ tb ∧ ((yJ3_checkIndex_8e157).cls ≠ "java/lang/invoke/MethodHandle" ∧ (yJ3_checkIndex_8e157).cls ≠ "java/lang/invoke/VarHandle" ∧ (parseMethodDescriptor (yJ3_checkIndex_8e157).desc).map (fun d => d.parameters.length) = some 3) ∧ 3 ≤ 21 := ⟨tb_t 19 (by decide +kernel) (by decide +kernel), tb_t 1409 rfl (by decide +kernel), ⟨by decide +kernel, by decide +kernel, by decide +kernel⟩, by decide⟩
theorem sJ3_checkIndex_8e157 : Cond.static yJ3_checkIndex_8e157 ∈ tb := tb_t 1408 (by decide +kernel) (by decide +kernel)
abbrev mJ6_bitCount_0f7a4 : Mt := (yJ6_bitCount_0f7a4, cJ6_bitCount_0f7a4, 1, (some (.int)))
set_option maxRecDepth 100000 in
theorem kJ6_bitCount_0f7a4 : Cond.initialized (yJ6_bitCount_0f7a4).cls ∈ tb ∧ Cond.code yJ6_bitCount_0f7a4 cJ6_bitCount_0f7a4 1 (some (.int)) ∈ tb ∧ ((yJ6_bitCount_0f7a4).cls ≠ "java/lang/invoke/MethodHandle" ∧ (yJ6_bitCount_0f7a4).cls ≠ "java/lang/invoke/VarHandle" ∧ (parseMethodDescriptor (yJ6_bitCount_0f7a4).desc).map (fun d => d.parameters.length) = some 1) ∧ 1 ≤ 21 := ⟨tb_t 25 (by decide +kernel) (by decide +kernel), tb_t 895 rfl (by decide +kernel), ⟨by decide +kernel, by decide +kernel, by decide +kernel⟩, by decide⟩
theorem sJ6_bitCount_0f7a4 : Cond.static yJ6_bitCount_0f7a4 ∈ tb := tb_t 894 (by decide +kernel) (by decide +kernel)
abbrev mJ6_numberOfTrailingZeros_0f7a4 : Mt := (yJ6_numberOfTrailingZeros_0f7a4, cJ6_numberOfTrailingZeros_0f7a4, 2, (some (.int)))
set_option maxRecDepth 100000 in
theorem kJ6_numberOfTrailingZeros_0f7a4 : Cond.initialized (yJ6_numberOfTrailingZeros_0f7a4).cls ∈ tb ∧ Cond.code yJ6_numberOfTrailingZeros_0f7a4 cJ6_numberOfTrailingZeros_0f7a4 2 (some (.int)) ∈ tb ∧ ((yJ6_numberOfTrailingZeros_0f7a4).cls ≠ "java/lang/invoke/MethodHandle" ∧ (yJ6_numberOfTrailingZeros_0f7a4).cls ≠ "java/lang/invoke/VarHandle" ∧ (parseMethodDescriptor (yJ6_numberOfTrailingZeros_0f7a4).desc).map (fun d => d.parameters.length) = some 1) ∧ 2 ≤ 21 := ⟨tb_t 25 (by decide +kernel) (by decide +kernel), tb_t 1810 rfl (by decide +kernel), ⟨by decide +kernel, by decide +kernel, by decide +kernel⟩, by decide⟩
theorem sJ6_numberOfTrailingZeros_0f7a4 : Cond.static yJ6_numberOfTrailingZeros_0f7a4 ∈ tb := tb_t 1809 (by decide +kernel) (by decide +kernel)
abbrev mX0_forget : Mt := (yX0_forget, cX0_forget, 1, none)
set_option maxRecDepth 100000 in
theorem kX0_forget : Cond.initialized (yX0_forget).cls ∈ tb ∧ Cond.code yX0_forget cX0_forget 1 none ∈ tb ∧ ((yX0_forget).cls ≠ "java/lang/invoke/MethodHandle" ∧ (yX0_forget).cls ≠ "java/lang/invoke/VarHandle" ∧ (parseMethodDescriptor (yX0_forget).desc).map (fun d => d.parameters.length) = some 0) ∧ 1 ≤ 21 := ⟨tb_t 11 (by decide +kernel) (by decide +kernel), tb_t 649 rfl (by decide +kernel), ⟨by decide +kernel, by decide +kernel, by decide +kernel⟩, by decide⟩
theorem vX0_forget : Cond.instanceMethod yX0_forget ∈ tb ∧ Cond.selects (yX0_forget).cls yX0_forget yX0_forget ∈ tb := ⟨tb_t 647 (by decide +kernel) (by decide +kernel), tb_t 648 (by decide +kernel) (by decide +kernel)⟩
abbrev mX0_remember : Mt := (yX0_remember, cX0_remember, 3, none)
set_option maxRecDepth 100000 in
theorem kX0_remember : Cond.initialized (yX0_remember).cls ∈ tb ∧ Cond.code yX0_remember cX0_remember 3 none ∈ tb ∧ ((yX0_remember).cls ≠ "java/lang/invoke/MethodHandle" ∧ (yX0_remember).cls ≠ "java/lang/invoke/VarHandle" ∧ (parseMethodDescriptor (yX0_remember).desc).map (fun d => d.parameters.length) = some 2) ∧ 3 ≤ 21 := ⟨tb_t 11 (by decide +kernel) (by decide +kernel), tb_t 733 rfl (by decide +kernel), ⟨by decide +kernel, by decide +kernel, by decide +kernel⟩, by decide⟩
theorem vX0_remember : Cond.instanceMethod yX0_remember ∈ tb ∧ Cond.selects (yX0_remember).cls yX0_remember yX0_remember ∈ tb := ⟨tb_t 731 (by decide +kernel) (by decide +kernel), tb_t 732 (by decide +kernel) (by decide +kernel)⟩
abbrev mX0_takeBack : Mt := (yX0_takeBack, cX0_takeBack, 3, (some (.boolean)))
set_option maxRecDepth 100000 in
theorem kX0_takeBack : Cond.initialized (yX0_takeBack).cls ∈ tb ∧ Cond.code yX0_takeBack cX0_takeBack 3 (some (.boolean)) ∈ tb ∧ ((yX0_takeBack).cls ≠ "java/lang/invoke/MethodHandle" ∧ (yX0_takeBack).cls ≠ "java/lang/invoke/VarHandle" ∧ (parseMethodDescriptor (yX0_takeBack).desc).map (fun d => d.parameters.length) = some 2) ∧ 3 ≤ 21 := ⟨tb_t 11 (by decide +kernel) (by decide +kernel), tb_t 811 rfl (by decide +kernel), ⟨by decide +kernel, by decide +kernel, by decide +kernel⟩, by decide⟩
theorem vX0_takeBack : Cond.instanceMethod yX0_takeBack ∈ tb ∧ Cond.selects (yX0_takeBack).cls yX0_takeBack yX0_takeBack ∈ tb := ⟨tb_t 809 (by decide +kernel) (by decide +kernel), tb_t 810 (by decide +kernel) (by decide +kernel)⟩
abbrev mX10_become : Mt := (yX10_become, cX10_become, 2, none)
set_option maxRecDepth 100000 in
theorem kX10_become : Cond.initialized (yX10_become).cls ∈ tb ∧ Cond.code yX10_become cX10_become 2 none ∈ tb ∧ ((yX10_become).cls ≠ "java/lang/invoke/MethodHandle" ∧ (yX10_become).cls ≠ "java/lang/invoke/VarHandle" ∧ (parseMethodDescriptor (yX10_become).desc).map (fun d => d.parameters.length) = some 1) ∧ 2 ≤ 21 := ⟨tb_t 9 (by decide +kernel) (by decide +kernel), tb_t 853 rfl (by decide +kernel), ⟨by decide +kernel, by decide +kernel, by decide +kernel⟩, by decide⟩
theorem vX10_become : Cond.instanceMethod yX10_become ∈ tb ∧ Cond.selects (yX10_become).cls yX10_become yX10_become ∈ tb := ⟨tb_t 851 (by decide +kernel) (by decide +kernel), tb_t 852 (by decide +kernel) (by decide +kernel)⟩
abbrev mX10_begin : Mt := (yX10_begin, cX10_begin, 4, none)
set_option maxRecDepth 100000 in
theorem kX10_begin : Cond.initialized (yX10_begin).cls ∈ tb ∧ Cond.code yX10_begin cX10_begin 4 none ∈ tb ∧ ((yX10_begin).cls ≠ "java/lang/invoke/MethodHandle" ∧ (yX10_begin).cls ≠ "java/lang/invoke/VarHandle" ∧ (parseMethodDescriptor (yX10_begin).desc).map (fun d => d.parameters.length) = some 1) ∧ 4 ≤ 21 := ⟨tb_t 9 (by decide +kernel) (by decide +kernel), tb_t 644 rfl (by decide +kernel), ⟨by decide +kernel, by decide +kernel, by decide +kernel⟩, by decide⟩
theorem vX10_begin : Cond.instanceMethod yX10_begin ∈ tb ∧ Cond.selects (yX10_begin).cls yX10_begin yX10_begin ∈ tb := ⟨tb_t 642 (by decide +kernel) (by decide +kernel), tb_t 643 (by decide +kernel) (by decide +kernel)⟩
abbrev mX10_isOpen : Mt := (yX10_isOpen, cX10_isOpen, 2, (some (.boolean)))
set_option maxRecDepth 100000 in
theorem kX10_isOpen : Cond.initialized (yX10_isOpen).cls ∈ tb ∧ Cond.code yX10_isOpen cX10_isOpen 2 (some (.boolean)) ∈ tb ∧ ((yX10_isOpen).cls ≠ "java/lang/invoke/MethodHandle" ∧ (yX10_isOpen).cls ≠ "java/lang/invoke/VarHandle" ∧ (parseMethodDescriptor (yX10_isOpen).desc).map (fun d => d.parameters.length) = some 1) ∧ 2 ≤ 21 := ⟨tb_t 9 (by decide +kernel) (by decide +kernel), tb_t 684 rfl (by decide +kernel), ⟨by decide +kernel, by decide +kernel, by decide +kernel⟩, by decide⟩
theorem vX10_isOpen : Cond.instanceMethod yX10_isOpen ∈ tb ∧ Cond.selects (yX10_isOpen).cls yX10_isOpen yX10_isOpen ∈ tb := ⟨tb_t 682 (by decide +kernel) (by decide +kernel), tb_t 683 (by decide +kernel) (by decide +kernel)⟩
abbrev mX10_readFrom : Mt := (yX10_readFrom, cX10_readFrom, 3, none)
set_option maxRecDepth 100000 in
theorem kX10_readFrom : Cond.initialized (yX10_readFrom).cls ∈ tb ∧ Cond.code yX10_readFrom cX10_readFrom 3 none ∈ tb ∧ ((yX10_readFrom).cls ≠ "java/lang/invoke/MethodHandle" ∧ (yX10_readFrom).cls ≠ "java/lang/invoke/VarHandle" ∧ (parseMethodDescriptor (yX10_readFrom).desc).map (fun d => d.parameters.length) = some 2) ∧ 3 ≤ 21 := ⟨tb_t 9 (by decide +kernel) (by decide +kernel), tb_t 815 rfl (by decide +kernel), ⟨by decide +kernel, by decide +kernel, by decide +kernel⟩, by decide⟩
theorem vX10_readFrom : Cond.instanceMethod yX10_readFrom ∈ tb ∧ Cond.selects (yX10_readFrom).cls yX10_readFrom yX10_readFrom ∈ tb := ⟨tb_t 813 (by decide +kernel) (by decide +kernel), tb_t 814 (by decide +kernel) (by decide +kernel)⟩
abbrev mX10_sumOf : Mt := (yX10_sumOf, cX10_sumOf, 3, (some (.int)))
set_option maxRecDepth 100000 in
theorem kX10_sumOf : Cond.initialized (yX10_sumOf).cls ∈ tb ∧ Cond.code yX10_sumOf cX10_sumOf 3 (some (.int)) ∈ tb ∧ ((yX10_sumOf).cls ≠ "java/lang/invoke/MethodHandle" ∧ (yX10_sumOf).cls ≠ "java/lang/invoke/VarHandle" ∧ (parseMethodDescriptor (yX10_sumOf).desc).map (fun d => d.parameters.length) = some 1) ∧ 3 ≤ 21 := ⟨tb_t 9 (by decide +kernel) (by decide +kernel), tb_t 768 rfl (by decide +kernel), ⟨by decide +kernel, by decide +kernel, by decide +kernel⟩, by decide⟩
theorem sX10_sumOf : Cond.static yX10_sumOf ∈ tb := tb_t 767 (by decide +kernel) (by decide +kernel)
abbrev mX10_take : Mt := (yX10_take, cX10_take, 4, none)
set_option maxRecDepth 100000 in
theorem kX10_take : Cond.initialized (yX10_take).cls ∈ tb ∧ Cond.code yX10_take cX10_take 4 none ∈ tb ∧ ((yX10_take).cls ≠ "java/lang/invoke/MethodHandle" ∧ (yX10_take).cls ≠ "java/lang/invoke/VarHandle" ∧ (parseMethodDescriptor (yX10_take).desc).map (fun d => d.parameters.length) = some 3) ∧ 4 ≤ 21 := ⟨tb_t 9 (by decide +kernel) (by decide +kernel), tb_t 743 rfl (by decide +kernel), ⟨by decide +kernel, by decide +kernel, by decide +kernel⟩, by decide⟩
theorem vX10_take : Cond.instanceMethod yX10_take ∈ tb ∧ Cond.selects (yX10_take).cls yX10_take yX10_take ∈ tb := ⟨tb_t 741 (by decide +kernel) (by decide +kernel), tb_t 742 (by decide +kernel) (by decide +kernel)⟩
abbrev mX10_writeTo : Mt := (yX10_writeTo, cX10_writeTo, 3, none)
set_option maxRecDepth 100000 in
theorem kX10_writeTo : Cond.initialized (yX10_writeTo).cls ∈ tb ∧ Cond.code yX10_writeTo cX10_writeTo 3 none ∈ tb ∧ ((yX10_writeTo).cls ≠ "java/lang/invoke/MethodHandle" ∧ (yX10_writeTo).cls ≠ "java/lang/invoke/VarHandle" ∧ (parseMethodDescriptor (yX10_writeTo).desc).map (fun d => d.parameters.length) = some 2) ∧ 3 ≤ 21 := ⟨tb_t 9 (by decide +kernel) (by decide +kernel), tb_t 737 rfl (by decide +kernel), ⟨by decide +kernel, by decide +kernel, by decide +kernel⟩, by decide⟩
theorem vX10_writeTo : Cond.instanceMethod yX10_writeTo ∈ tb ∧ Cond.selects (yX10_writeTo).cls yX10_writeTo yX10_writeTo ∈ tb := ⟨tb_t 735 (by decide +kernel) (by decide +kernel), tb_t 736 (by decide +kernel) (by decide +kernel)⟩
abbrev mX11_act : Mt := (yX11_act, cX11_act, 5, (some (.boolean)))
set_option maxRecDepth 100000 in
theorem kX11_act : Cond.initialized (yX11_act).cls ∈ tb ∧ Cond.code yX11_act cX11_act 5 (some (.boolean)) ∈ tb ∧ ((yX11_act).cls ≠ "java/lang/invoke/MethodHandle" ∧ (yX11_act).cls ≠ "java/lang/invoke/VarHandle" ∧ (parseMethodDescriptor (yX11_act).desc).map (fun d => d.parameters.length) = some 3) ∧ 5 ≤ 21 := ⟨tb_t 1 (by decide +kernel) (by decide +kernel), tb_t 721 rfl (by decide +kernel), ⟨by decide +kernel, by decide +kernel, by decide +kernel⟩, by decide⟩
theorem vX11_act : Cond.instanceMethod yX11_act ∈ tb ∧ Cond.selects (yX11_act).cls yX11_act yX11_act ∈ tb := ⟨tb_t 720 (by decide +kernel) (by decide +kernel), tb_p 17 (by decide +kernel) (by decide +kernel)⟩
abbrev mX11_ahead : Mt := (yX11_ahead, cX11_ahead, 3, (some (.int)))
set_option maxRecDepth 100000 in
theorem kX11_ahead : Cond.initialized (yX11_ahead).cls ∈ tb ∧ Cond.code yX11_ahead cX11_ahead 3 (some (.int)) ∈ tb ∧ ((yX11_ahead).cls ≠ "java/lang/invoke/MethodHandle" ∧ (yX11_ahead).cls ≠ "java/lang/invoke/VarHandle" ∧ (parseMethodDescriptor (yX11_ahead).desc).map (fun d => d.parameters.length) = some 2) ∧ 3 ≤ 21 := ⟨tb_t 1 (by decide +kernel) (by decide +kernel), tb_t 864 rfl (by decide +kernel), ⟨by decide +kernel, by decide +kernel, by decide +kernel⟩, by decide⟩
theorem vX11_ahead : Cond.instanceMethod yX11_ahead ∈ tb ∧ Cond.selects (yX11_ahead).cls yX11_ahead yX11_ahead ∈ tb := ⟨tb_t 862 (by decide +kernel) (by decide +kernel), tb_t 863 (by decide +kernel) (by decide +kernel)⟩
abbrev mX11_apart : Mt := (yX11_apart, cX11_apart, 1, (some (.int)))
set_option maxRecDepth 100000 in
theorem kX11_apart : Cond.initialized (yX11_apart).cls ∈ tb ∧ Cond.code yX11_apart cX11_apart 1 (some (.int)) ∈ tb ∧ ((yX11_apart).cls ≠ "java/lang/invoke/MethodHandle" ∧ (yX11_apart).cls ≠ "java/lang/invoke/VarHandle" ∧ (parseMethodDescriptor (yX11_apart).desc).map (fun d => d.parameters.length) = some 0) ∧ 1 ≤ 21 := ⟨tb_t 1 (by decide +kernel) (by decide +kernel), tb_t 951 rfl (by decide +kernel), ⟨by decide +kernel, by decide +kernel, by decide +kernel⟩, by decide⟩
theorem vX11_apart : Cond.instanceMethod yX11_apart ∈ tb ∧ Cond.selects (yX11_apart).cls yX11_apart yX11_apart ∈ tb := ⟨tb_t 949 (by decide +kernel) (by decide +kernel), tb_t 950 (by decide +kernel) (by decide +kernel)⟩
abbrev mX11_back : Mt := (yX11_back, cX11_back, 1, (some (.int)))
set_option maxRecDepth 100000 in
theorem kX11_back : Cond.initialized (yX11_back).cls ∈ tb ∧ Cond.code yX11_back cX11_back 1 (some (.int)) ∈ tb ∧ ((yX11_back).cls ≠ "java/lang/invoke/MethodHandle" ∧ (yX11_back).cls ≠ "java/lang/invoke/VarHandle" ∧ (parseMethodDescriptor (yX11_back).desc).map (fun d => d.parameters.length) = some 0) ∧ 1 ≤ 21 := ⟨tb_t 1 (by decide +kernel) (by decide +kernel), tb_t 1105 rfl (by decide +kernel), ⟨by decide +kernel, by decide +kernel, by decide +kernel⟩, by decide⟩
theorem vX11_back : Cond.instanceMethod yX11_back ∈ tb ∧ Cond.selects (yX11_back).cls yX11_back yX11_back ∈ tb := ⟨tb_t 1103 (by decide +kernel) (by decide +kernel), tb_t 1104 (by decide +kernel) (by decide +kernel)⟩
abbrev mX11_bare : Mt := (yX11_bare, cX11_bare, 1, (some (.int)))
set_option maxRecDepth 100000 in
theorem kX11_bare : Cond.initialized (yX11_bare).cls ∈ tb ∧ Cond.code yX11_bare cX11_bare 1 (some (.int)) ∈ tb ∧ ((yX11_bare).cls ≠ "java/lang/invoke/MethodHandle" ∧ (yX11_bare).cls ≠ "java/lang/invoke/VarHandle" ∧ (parseMethodDescriptor (yX11_bare).desc).map (fun d => d.parameters.length) = some 0) ∧ 1 ≤ 21 := ⟨tb_t 1 (by decide +kernel) (by decide +kernel), tb_t 880 rfl (by decide +kernel), ⟨by decide +kernel, by decide +kernel, by decide +kernel⟩, by decide⟩
theorem vX11_bare : Cond.instanceMethod yX11_bare ∈ tb ∧ Cond.selects (yX11_bare).cls yX11_bare yX11_bare ∈ tb := ⟨tb_t 878 (by decide +kernel) (by decide +kernel), tb_t 879 (by decide +kernel) (by decide +kernel)⟩
abbrev mX11_count : Mt := (yX11_count, cX11_count, 2, (some (.int)))
set_option maxRecDepth 100000 in
theorem kX11_count : Cond.initialized (yX11_count).cls ∈ tb ∧ Cond.code yX11_count cX11_count 2 (some (.int)) ∈ tb ∧ ((yX11_count).cls ≠ "java/lang/invoke/MethodHandle" ∧ (yX11_count).cls ≠ "java/lang/invoke/VarHandle" ∧ (parseMethodDescriptor (yX11_count).desc).map (fun d => d.parameters.length) = some 1) ∧ 2 ≤ 21 := ⟨tb_t 1 (by decide +kernel) (by decide +kernel), tb_t 1109 rfl (by decide +kernel), ⟨by decide +kernel, by decide +kernel, by decide +kernel⟩, by decide⟩
theorem vX11_count : Cond.instanceMethod yX11_count ∈ tb ∧ Cond.selects (yX11_count).cls yX11_count yX11_count ∈ tb := ⟨tb_t 1107 (by decide +kernel) (by decide +kernel), tb_t 1108 (by decide +kernel) (by decide +kernel)⟩
abbrev mX11_cut : Mt := (yX11_cut, cX11_cut, 2, (some (.int)))
set_option maxRecDepth 100000 in
theorem kX11_cut : Cond.initialized (yX11_cut).cls ∈ tb ∧ Cond.code yX11_cut cX11_cut 2 (some (.int)) ∈ tb ∧ ((yX11_cut).cls ≠ "java/lang/invoke/MethodHandle" ∧ (yX11_cut).cls ≠ "java/lang/invoke/VarHandle" ∧ (parseMethodDescriptor (yX11_cut).desc).map (fun d => d.parameters.length) = some 1) ∧ 2 ≤ 21 := ⟨tb_t 1 (by decide +kernel) (by decide +kernel), tb_t 917 rfl (by decide +kernel), ⟨by decide +kernel, by decide +kernel, by decide +kernel⟩, by decide⟩
theorem vX11_cut : Cond.instanceMethod yX11_cut ∈ tb ∧ Cond.selects (yX11_cut).cls yX11_cut yX11_cut ∈ tb := ⟨tb_t 915 (by decide +kernel) (by decide +kernel), tb_t 916 (by decide +kernel) (by decide +kernel)⟩
abbrev mX11_darkest : Mt := (yX11_darkest, cX11_darkest, 1, (some (.int)))
set_option maxRecDepth 100000 in
theorem kX11_darkest : Cond.initialized (yX11_darkest).cls ∈ tb ∧ Cond.code yX11_darkest cX11_darkest 1 (some (.int)) ∈ tb ∧ ((yX11_darkest).cls ≠ "java/lang/invoke/MethodHandle" ∧ (yX11_darkest).cls ≠ "java/lang/invoke/VarHandle" ∧ (parseMethodDescriptor (yX11_darkest).desc).map (fun d => d.parameters.length) = some 0) ∧ 1 ≤ 21 := ⟨tb_t 1 (by decide +kernel) (by decide +kernel), tb_t 1054 rfl (by decide +kernel), ⟨by decide +kernel, by decide +kernel, by decide +kernel⟩, by decide⟩
theorem vX11_darkest : Cond.instanceMethod yX11_darkest ∈ tb ∧ Cond.selects (yX11_darkest).cls yX11_darkest yX11_darkest ∈ tb := ⟨tb_t 1052 (by decide +kernel) (by decide +kernel), tb_t 1053 (by decide +kernel) (by decide +kernel)⟩
abbrev mX11_days : Mt := (yX11_days, cX11_days, 2, (some (.int)))
set_option maxRecDepth 100000 in
theorem kX11_days : Cond.initialized (yX11_days).cls ∈ tb ∧ Cond.code yX11_days cX11_days 2 (some (.int)) ∈ tb ∧ ((yX11_days).cls ≠ "java/lang/invoke/MethodHandle" ∧ (yX11_days).cls ≠ "java/lang/invoke/VarHandle" ∧ (parseMethodDescriptor (yX11_days).desc).map (fun d => d.parameters.length) = some 1) ∧ 2 ≤ 21 := ⟨tb_t 1 (by decide +kernel) (by decide +kernel), tb_t 789 rfl (by decide +kernel), ⟨by decide +kernel, by decide +kernel, by decide +kernel⟩, by decide⟩
theorem vX11_days : Cond.instanceMethod yX11_days ∈ tb ∧ Cond.selects (yX11_days).cls yX11_days yX11_days ∈ tb := ⟨tb_t 787 (by decide +kernel) (by decide +kernel), tb_t 788 (by decide +kernel) (by decide +kernel)⟩
abbrev mX11_draw : Mt := (yX11_draw, cX11_draw, 2, (some (.int)))
set_option maxRecDepth 100000 in
theorem kX11_draw : Cond.initialized (yX11_draw).cls ∈ tb ∧ Cond.code yX11_draw cX11_draw 2 (some (.int)) ∈ tb ∧ ((yX11_draw).cls ≠ "java/lang/invoke/MethodHandle" ∧ (yX11_draw).cls ≠ "java/lang/invoke/VarHandle" ∧ (parseMethodDescriptor (yX11_draw).desc).map (fun d => d.parameters.length) = some 1) ∧ 2 ≤ 21 := ⟨tb_t 1 (by decide +kernel) (by decide +kernel), tb_t 801 rfl (by decide +kernel), ⟨by decide +kernel, by decide +kernel, by decide +kernel⟩, by decide⟩
theorem vX11_draw : Cond.instanceMethod yX11_draw ∈ tb ∧ Cond.selects (yX11_draw).cls yX11_draw yX11_draw ∈ tb := ⟨tb_t 800 (by decide +kernel) (by decide +kernel), tb_p 23 (by decide +kernel) (by decide +kernel)⟩
abbrev mX11_dries : Mt := (yX11_dries, cX11_dries, 2, (some (.int)))
set_option maxRecDepth 100000 in
theorem kX11_dries : Cond.initialized (yX11_dries).cls ∈ tb ∧ Cond.code yX11_dries cX11_dries 2 (some (.int)) ∈ tb ∧ ((yX11_dries).cls ≠ "java/lang/invoke/MethodHandle" ∧ (yX11_dries).cls ≠ "java/lang/invoke/VarHandle" ∧ (parseMethodDescriptor (yX11_dries).desc).map (fun d => d.parameters.length) = some 1) ∧ 2 ≤ 21 := ⟨tb_t 1 (by decide +kernel) (by decide +kernel), tb_t 872 rfl (by decide +kernel), ⟨by decide +kernel, by decide +kernel, by decide +kernel⟩, by decide⟩
theorem vX11_dries : Cond.instanceMethod yX11_dries ∈ tb ∧ Cond.selects (yX11_dries).cls yX11_dries yX11_dries ∈ tb := ⟨tb_t 870 (by decide +kernel) (by decide +kernel), tb_t 871 (by decide +kernel) (by decide +kernel)⟩
abbrev mX11_eaten : Mt := (yX11_eaten, cX11_eaten, 2, (some (.int)))
set_option maxRecDepth 100000 in
theorem kX11_eaten : Cond.initialized (yX11_eaten).cls ∈ tb ∧ Cond.code yX11_eaten cX11_eaten 2 (some (.int)) ∈ tb ∧ ((yX11_eaten).cls ≠ "java/lang/invoke/MethodHandle" ∧ (yX11_eaten).cls ≠ "java/lang/invoke/VarHandle" ∧ (parseMethodDescriptor (yX11_eaten).desc).map (fun d => d.parameters.length) = some 1) ∧ 2 ≤ 21 := ⟨tb_t 1 (by decide +kernel) (by decide +kernel), tb_t 1091 rfl (by decide +kernel), ⟨by decide +kernel, by decide +kernel, by decide +kernel⟩, by decide⟩
theorem vX11_eaten : Cond.instanceMethod yX11_eaten ∈ tb ∧ Cond.selects (yX11_eaten).cls yX11_eaten yX11_eaten ∈ tb := ⟨tb_t 1089 (by decide +kernel) (by decide +kernel), tb_t 1090 (by decide +kernel) (by decide +kernel)⟩
abbrev mX11_end : Mt := (yX11_end, cX11_end, 2, (some (.boolean)))
set_option maxRecDepth 100000 in
theorem kX11_end : Cond.initialized (yX11_end).cls ∈ tb ∧ Cond.code yX11_end cX11_end 2 (some (.boolean)) ∈ tb ∧ ((yX11_end).cls ≠ "java/lang/invoke/MethodHandle" ∧ (yX11_end).cls ≠ "java/lang/invoke/VarHandle" ∧ (parseMethodDescriptor (yX11_end).desc).map (fun d => d.parameters.length) = some 1) ∧ 2 ≤ 21 := ⟨tb_t 1 (by decide +kernel) (by decide +kernel), tb_t 400 rfl (by decide +kernel), ⟨by decide +kernel, by decide +kernel, by decide +kernel⟩, by decide⟩
theorem vX11_end : Cond.instanceMethod yX11_end ∈ tb ∧ Cond.selects (yX11_end).cls yX11_end yX11_end ∈ tb := ⟨tb_t 398 (by decide +kernel) (by decide +kernel), tb_t 399 (by decide +kernel) (by decide +kernel)⟩
abbrev mX11_fault : Mt := (yX11_fault, cX11_fault, 3, (some (.int)))
set_option maxRecDepth 100000 in
theorem kX11_fault : Cond.initialized (yX11_fault).cls ∈ tb ∧ Cond.code yX11_fault cX11_fault 3 (some (.int)) ∈ tb ∧ ((yX11_fault).cls ≠ "java/lang/invoke/MethodHandle" ∧ (yX11_fault).cls ≠ "java/lang/invoke/VarHandle" ∧ (parseMethodDescriptor (yX11_fault).desc).map (fun d => d.parameters.length) = some 1) ∧ 3 ≤ 21 := ⟨tb_t 1 (by decide +kernel) (by decide +kernel), tb_t 404 rfl (by decide +kernel), ⟨by decide +kernel, by decide +kernel, by decide +kernel⟩, by decide⟩
theorem vX11_fault : Cond.instanceMethod yX11_fault ∈ tb ∧ Cond.selects (yX11_fault).cls yX11_fault yX11_fault ∈ tb := ⟨tb_t 402 (by decide +kernel) (by decide +kernel), tb_t 403 (by decide +kernel) (by decide +kernel)⟩
abbrev mX11_feed : Mt := (yX11_feed, cX11_feed, 7, (some (.int)))
set_option maxRecDepth 100000 in
theorem kX11_feed : Cond.initialized (yX11_feed).cls ∈ tb ∧ Cond.code yX11_feed cX11_feed 7 (some (.int)) ∈ tb ∧ ((yX11_feed).cls ≠ "java/lang/invoke/MethodHandle" ∧ (yX11_feed).cls ≠ "java/lang/invoke/VarHandle" ∧ (parseMethodDescriptor (yX11_feed).desc).map (fun d => d.parameters.length) = some 5) ∧ 7 ≤ 21 := ⟨tb_t 1 (by decide +kernel) (by decide +kernel), tb_t 389 rfl (by decide +kernel), ⟨by decide +kernel, by decide +kernel, by decide +kernel⟩, by decide⟩
theorem vX11_feed : Cond.instanceMethod yX11_feed ∈ tb ∧ Cond.selects (yX11_feed).cls yX11_feed yX11_feed ∈ tb := ⟨tb_t 387 (by decide +kernel) (by decide +kernel), tb_t 388 (by decide +kernel) (by decide +kernel)⟩
abbrev mX11_feud : Mt := (yX11_feud, cX11_feud, 8, (some (.int)))
set_option maxRecDepth 100000 in
theorem kX11_feud : Cond.initialized (yX11_feud).cls ∈ tb ∧ Cond.code yX11_feud cX11_feud 8 (some (.int)) ∈ tb ∧ ((yX11_feud).cls ≠ "java/lang/invoke/MethodHandle" ∧ (yX11_feud).cls ≠ "java/lang/invoke/VarHandle" ∧ (parseMethodDescriptor (yX11_feud).desc).map (fun d => d.parameters.length) = some 7) ∧ 8 ≤ 21 := ⟨tb_t 1 (by decide +kernel) (by decide +kernel), tb_t 1022 rfl (by decide +kernel), ⟨by decide +kernel, by decide +kernel, by decide +kernel⟩, by decide⟩
theorem vX11_feud : Cond.instanceMethod yX11_feud ∈ tb ∧ Cond.selects (yX11_feud).cls yX11_feud yX11_feud ∈ tb := ⟨tb_t 1020 (by decide +kernel) (by decide +kernel), tb_t 1021 (by decide +kernel) (by decide +kernel)⟩
abbrev mX11_hasPlan : Mt := (yX11_hasPlan, cX11_hasPlan, 2, (some (.boolean)))
set_option maxRecDepth 100000 in
theorem kX11_hasPlan : Cond.initialized (yX11_hasPlan).cls ∈ tb ∧ Cond.code yX11_hasPlan cX11_hasPlan 2 (some (.boolean)) ∈ tb ∧ ((yX11_hasPlan).cls ≠ "java/lang/invoke/MethodHandle" ∧ (yX11_hasPlan).cls ≠ "java/lang/invoke/VarHandle" ∧ (parseMethodDescriptor (yX11_hasPlan).desc).map (fun d => d.parameters.length) = some 1) ∧ 2 ≤ 21 := ⟨tb_t 1 (by decide +kernel) (by decide +kernel), tb_t 836 rfl (by decide +kernel), ⟨by decide +kernel, by decide +kernel, by decide +kernel⟩, by decide⟩
theorem vX11_hasPlan : Cond.instanceMethod yX11_hasPlan ∈ tb ∧ Cond.selects (yX11_hasPlan).cls yX11_hasPlan yX11_hasPlan ∈ tb := ⟨tb_t 835 (by decide +kernel) (by decide +kernel), tb_p 24 (by decide +kernel) (by decide +kernel)⟩
abbrev mX11_image : Mt := (yX11_image, cX11_image, 1, (some (.int)))
set_option maxRecDepth 100000 in
theorem kX11_image : Cond.initialized (yX11_image).cls ∈ tb ∧ Cond.code yX11_image cX11_image 1 (some (.int)) ∈ tb ∧ ((yX11_image).cls ≠ "java/lang/invoke/MethodHandle" ∧ (yX11_image).cls ≠ "java/lang/invoke/VarHandle" ∧ (parseMethodDescriptor (yX11_image).desc).map (fun d => d.parameters.length) = some 0) ∧ 1 ≤ 21 := ⟨tb_t 1 (by decide +kernel) (by decide +kernel), tb_t 1095 rfl (by decide +kernel), ⟨by decide +kernel, by decide +kernel, by decide +kernel⟩, by decide⟩
theorem vX11_image : Cond.instanceMethod yX11_image ∈ tb ∧ Cond.selects (yX11_image).cls yX11_image yX11_image ∈ tb := ⟨tb_t 1093 (by decide +kernel) (by decide +kernel), tb_t 1094 (by decide +kernel) (by decide +kernel)⟩
abbrev mX11_isFeud : Mt := (yX11_isFeud, cX11_isFeud, 6, (some (.boolean)))
set_option maxRecDepth 100000 in
theorem kX11_isFeud : Cond.initialized (yX11_isFeud).cls ∈ tb ∧ Cond.code yX11_isFeud cX11_isFeud 6 (some (.boolean)) ∈ tb ∧ ((yX11_isFeud).cls ≠ "java/lang/invoke/MethodHandle" ∧ (yX11_isFeud).cls ≠ "java/lang/invoke/VarHandle" ∧ (parseMethodDescriptor (yX11_isFeud).desc).map (fun d => d.parameters.length) = some 5) ∧ 6 ≤ 21 := ⟨tb_t 1 (by decide +kernel) (by decide +kernel), tb_t 1026 rfl (by decide +kernel), ⟨by decide +kernel, by decide +kernel, by decide +kernel⟩, by decide⟩
theorem vX11_isFeud : Cond.instanceMethod yX11_isFeud ∈ tb ∧ Cond.selects (yX11_isFeud).cls yX11_isFeud yX11_isFeud ∈ tb := ⟨tb_t 1025 (by decide +kernel) (by decide +kernel), tb_p 34 (by decide +kernel) (by decide +kernel)⟩
abbrev mX11_isPlannable : Mt := (yX11_isPlannable, cX11_isPlannable, 2, (some (.boolean)))
set_option maxRecDepth 100000 in
theorem kX11_isPlannable : Cond.initialized (yX11_isPlannable).cls ∈ tb ∧ Cond.code yX11_isPlannable cX11_isPlannable 2 (some (.boolean)) ∈ tb ∧ ((yX11_isPlannable).cls ≠ "java/lang/invoke/MethodHandle" ∧ (yX11_isPlannable).cls ≠ "java/lang/invoke/VarHandle" ∧ (parseMethodDescriptor (yX11_isPlannable).desc).map (fun d => d.parameters.length) = some 1) ∧ 2 ≤ 21 := ⟨tb_t 1 (by decide +kernel) (by decide +kernel), tb_t 888 rfl (by decide +kernel), ⟨by decide +kernel, by decide +kernel, by decide +kernel⟩, by decide⟩
theorem vX11_isPlannable : Cond.instanceMethod yX11_isPlannable ∈ tb ∧ Cond.selects (yX11_isPlannable).cls yX11_isPlannable yX11_isPlannable ∈ tb := ⟨tb_t 887 (by decide +kernel) (by decide +kernel), tb_p 25 (by decide +kernel) (by decide +kernel)⟩
abbrev mX11_joined : Mt := (yX11_joined, cX11_joined, 2, (some (.int)))
set_option maxRecDepth 100000 in
theorem kX11_joined : Cond.initialized (yX11_joined).cls ∈ tb ∧ Cond.code yX11_joined cX11_joined 2 (some (.int)) ∈ tb ∧ ((yX11_joined).cls ≠ "java/lang/invoke/MethodHandle" ∧ (yX11_joined).cls ≠ "java/lang/invoke/VarHandle" ∧ (parseMethodDescriptor (yX11_joined).desc).map (fun d => d.parameters.length) = some 1) ∧ 2 ≤ 21 := ⟨tb_t 1 (by decide +kernel) (by decide +kernel), tb_t 946 rfl (by decide +kernel), ⟨by decide +kernel, by decide +kernel, by decide +kernel⟩, by decide⟩
theorem vX11_joined : Cond.instanceMethod yX11_joined ∈ tb ∧ Cond.selects (yX11_joined).cls yX11_joined yX11_joined ∈ tb := ⟨tb_t 944 (by decide +kernel) (by decide +kernel), tb_t 945 (by decide +kernel) (by decide +kernel)⟩
abbrev mX11_keepLaw : Mt := (yX11_keepLaw, cX11_keepLaw, 1, (some (.int)))
set_option maxRecDepth 100000 in
theorem kX11_keepLaw : Cond.initialized (yX11_keepLaw).cls ∈ tb ∧ Cond.code yX11_keepLaw cX11_keepLaw 1 (some (.int)) ∈ tb ∧ ((yX11_keepLaw).cls ≠ "java/lang/invoke/MethodHandle" ∧ (yX11_keepLaw).cls ≠ "java/lang/invoke/VarHandle" ∧ (parseMethodDescriptor (yX11_keepLaw).desc).map (fun d => d.parameters.length) = some 0) ∧ 1 ≤ 21 := ⟨tb_t 1 (by decide +kernel) (by decide +kernel), tb_t 653 rfl (by decide +kernel), ⟨by decide +kernel, by decide +kernel, by decide +kernel⟩, by decide⟩
theorem vX11_keepLaw : Cond.instanceMethod yX11_keepLaw ∈ tb ∧ Cond.selects (yX11_keepLaw).cls yX11_keepLaw yX11_keepLaw ∈ tb := ⟨tb_t 652 (by decide +kernel) (by decide +kernel), tb_p 14 (by decide +kernel) (by decide +kernel)⟩
abbrev mX11_keepPlan : Mt := (yX11_keepPlan, cX11_keepPlan, 1, (some (.int)))
set_option maxRecDepth 100000 in
theorem kX11_keepPlan : Cond.initialized (yX11_keepPlan).cls ∈ tb ∧ Cond.code yX11_keepPlan cX11_keepPlan 1 (some (.int)) ∈ tb ∧ ((yX11_keepPlan).cls ≠ "java/lang/invoke/MethodHandle" ∧ (yX11_keepPlan).cls ≠ "java/lang/invoke/VarHandle" ∧ (parseMethodDescriptor (yX11_keepPlan).desc).map (fun d => d.parameters.length) = some 0) ∧ 1 ≤ 21 := ⟨tb_t 1 (by decide +kernel) (by decide +kernel), tb_t 662 rfl (by decide +kernel), ⟨by decide +kernel, by decide +kernel, by decide +kernel⟩, by decide⟩
theorem vX11_keepPlan : Cond.instanceMethod yX11_keepPlan ∈ tb ∧ Cond.selects (yX11_keepPlan).cls yX11_keepPlan yX11_keepPlan ∈ tb := ⟨tb_t 661 (by decide +kernel) (by decide +kernel), tb_p 15 (by decide +kernel) (by decide +kernel)⟩
abbrev mX11_kept : Mt := (yX11_kept, cX11_kept, 4, (some (.int)))
set_option maxRecDepth 100000 in
theorem kX11_kept : Cond.initialized (yX11_kept).cls ∈ tb ∧ Cond.code yX11_kept cX11_kept 4 (some (.int)) ∈ tb ∧ ((yX11_kept).cls ≠ "java/lang/invoke/MethodHandle" ∧ (yX11_kept).cls ≠ "java/lang/invoke/VarHandle" ∧ (parseMethodDescriptor (yX11_kept).desc).map (fun d => d.parameters.length) = some 2) ∧ 4 ≤ 21 := ⟨tb_t 1 (by decide +kernel) (by decide +kernel), tb_t 907 rfl (by decide +kernel), ⟨by decide +kernel, by decide +kernel, by decide +kernel⟩, by decide⟩
theorem vX11_kept : Cond.instanceMethod yX11_kept ∈ tb ∧ Cond.selects (yX11_kept).cls yX11_kept yX11_kept ∈ tb := ⟨tb_t 905 (by decide +kernel) (by decide +kernel), tb_t 906 (by decide +kernel) (by decide +kernel)⟩
abbrev mX11_key : Mt := (yX11_key, cX11_key, 3, (some (.boolean)))
set_option maxRecDepth 100000 in
theorem kX11_key : Cond.initialized (yX11_key).cls ∈ tb ∧ Cond.code yX11_key cX11_key 3 (some (.boolean)) ∈ tb ∧ ((yX11_key).cls ≠ "java/lang/invoke/MethodHandle" ∧ (yX11_key).cls ≠ "java/lang/invoke/VarHandle" ∧ (parseMethodDescriptor (yX11_key).desc).map (fun d => d.parameters.length) = some 2) ∧ 3 ≤ 21 := ⟨tb_t 1 (by decide +kernel) (by decide +kernel), tb_t 717 rfl (by decide +kernel), ⟨by decide +kernel, by decide +kernel, by decide +kernel⟩, by decide⟩
theorem vX11_key : Cond.instanceMethod yX11_key ∈ tb ∧ Cond.selects (yX11_key).cls yX11_key yX11_key ∈ tb := ⟨tb_t 715 (by decide +kernel) (by decide +kernel), tb_t 716 (by decide +kernel) (by decide +kernel)⟩
abbrev mX11_keys : Mt := (yX11_keys, cX11_keys, 2, (some (.int)))
set_option maxRecDepth 100000 in
theorem kX11_keys : Cond.initialized (yX11_keys).cls ∈ tb ∧ Cond.code yX11_keys cX11_keys 2 (some (.int)) ∈ tb ∧ ((yX11_keys).cls ≠ "java/lang/invoke/MethodHandle" ∧ (yX11_keys).cls ≠ "java/lang/invoke/VarHandle" ∧ (parseMethodDescriptor (yX11_keys).desc).map (fun d => d.parameters.length) = some 1) ∧ 2 ≤ 21 := ⟨tb_t 1 (by decide +kernel) (by decide +kernel), tb_t 884 rfl (by decide +kernel), ⟨by decide +kernel, by decide +kernel, by decide +kernel⟩, by decide⟩
theorem vX11_keys : Cond.instanceMethod yX11_keys ∈ tb ∧ Cond.selects (yX11_keys).cls yX11_keys yX11_keys ∈ tb := ⟨tb_t 882 (by decide +kernel) (by decide +kernel), tb_t 883 (by decide +kernel) (by decide +kernel)⟩
abbrev mX11_largest : Mt := (yX11_largest, cX11_largest, 1, (some (.int)))
set_option maxRecDepth 100000 in
theorem kX11_largest : Cond.initialized (yX11_largest).cls ∈ tb ∧ Cond.code yX11_largest cX11_largest 1 (some (.int)) ∈ tb ∧ ((yX11_largest).cls ≠ "java/lang/invoke/MethodHandle" ∧ (yX11_largest).cls ≠ "java/lang/invoke/VarHandle" ∧ (parseMethodDescriptor (yX11_largest).desc).map (fun d => d.parameters.length) = some 0) ∧ 1 ≤ 21 := ⟨tb_t 1 (by decide +kernel) (by decide +kernel), tb_t 1082 rfl (by decide +kernel), ⟨by decide +kernel, by decide +kernel, by decide +kernel⟩, by decide⟩
theorem vX11_largest : Cond.instanceMethod yX11_largest ∈ tb ∧ Cond.selects (yX11_largest).cls yX11_largest yX11_largest ∈ tb := ⟨tb_t 1080 (by decide +kernel) (by decide +kernel), tb_t 1081 (by decide +kernel) (by decide +kernel)⟩
abbrev mX11_law : Mt := (yX11_law, cX11_law, 2, (some (.boolean)))
set_option maxRecDepth 100000 in
theorem kX11_law : Cond.initialized (yX11_law).cls ∈ tb ∧ Cond.code yX11_law cX11_law 2 (some (.boolean)) ∈ tb ∧ ((yX11_law).cls ≠ "java/lang/invoke/MethodHandle" ∧ (yX11_law).cls ≠ "java/lang/invoke/VarHandle" ∧ (parseMethodDescriptor (yX11_law).desc).map (fun d => d.parameters.length) = some 1) ∧ 2 ≤ 21 := ⟨tb_t 1 (by decide +kernel) (by decide +kernel), tb_t 709 rfl (by decide +kernel), ⟨by decide +kernel, by decide +kernel, by decide +kernel⟩, by decide⟩
theorem vX11_law : Cond.instanceMethod yX11_law ∈ tb ∧ Cond.selects (yX11_law).cls yX11_law yX11_law ∈ tb := ⟨tb_t 707 (by decide +kernel) (by decide +kernel), tb_t 708 (by decide +kernel) (by decide +kernel)⟩
abbrev mX11_log : Mt := (yX11_log, cX11_log, 3, (some (.int)))
set_option maxRecDepth 100000 in
theorem kX11_log : Cond.initialized (yX11_log).cls ∈ tb ∧ Cond.code yX11_log cX11_log 3 (some (.int)) ∈ tb ∧ ((yX11_log).cls ≠ "java/lang/invoke/MethodHandle" ∧ (yX11_log).cls ≠ "java/lang/invoke/VarHandle" ∧ (parseMethodDescriptor (yX11_log).desc).map (fun d => d.parameters.length) = some 2) ∧ 3 ≤ 21 := ⟨tb_t 1 (by decide +kernel) (by decide +kernel), tb_t 819 rfl (by decide +kernel), ⟨by decide +kernel, by decide +kernel, by decide +kernel⟩, by decide⟩
theorem vX11_log : Cond.instanceMethod yX11_log ∈ tb ∧ Cond.selects (yX11_log).cls yX11_log yX11_log ∈ tb := ⟨tb_t 817 (by decide +kernel) (by decide +kernel), tb_t 818 (by decide +kernel) (by decide +kernel)⟩
abbrev mX11_measure : Mt := (yX11_measure, cX11_measure, 1, (some (.int)))
set_option maxRecDepth 100000 in
theorem kX11_measure : Cond.initialized (yX11_measure).cls ∈ tb ∧ Cond.code yX11_measure cX11_measure 1 (some (.int)) ∈ tb ∧ ((yX11_measure).cls ≠ "java/lang/invoke/MethodHandle" ∧ (yX11_measure).cls ≠ "java/lang/invoke/VarHandle" ∧ (parseMethodDescriptor (yX11_measure).desc).map (fun d => d.parameters.length) = some 0) ∧ 1 ≤ 21 := ⟨tb_t 1 (by decide +kernel) (by decide +kernel), tb_t 998 rfl (by decide +kernel), ⟨by decide +kernel, by decide +kernel, by decide +kernel⟩, by decide⟩
theorem vX11_measure : Cond.instanceMethod yX11_measure ∈ tb ∧ Cond.selects (yX11_measure).cls yX11_measure yX11_measure ∈ tb := ⟨tb_t 996 (by decide +kernel) (by decide +kernel), tb_t 997 (by decide +kernel) (by decide +kernel)⟩
abbrev mX11_measured : Mt := (yX11_measured, cX11_measured, 3, (some (.int)))
set_option maxRecDepth 100000 in
theorem kX11_measured : Cond.initialized (yX11_measured).cls ∈ tb ∧ Cond.code yX11_measured cX11_measured 3 (some (.int)) ∈ tb ∧ ((yX11_measured).cls ≠ "java/lang/invoke/MethodHandle" ∧ (yX11_measured).cls ≠ "java/lang/invoke/VarHandle" ∧ (parseMethodDescriptor (yX11_measured).desc).map (fun d => d.parameters.length) = some 2) ∧ 3 ≤ 21 := ⟨tb_t 1 (by decide +kernel) (by decide +kernel), tb_t 963 rfl (by decide +kernel), ⟨by decide +kernel, by decide +kernel, by decide +kernel⟩, by decide⟩
theorem vX11_measured : Cond.instanceMethod yX11_measured ∈ tb ∧ Cond.selects (yX11_measured).cls yX11_measured yX11_measured ∈ tb := ⟨tb_t 961 (by decide +kernel) (by decide +kernel), tb_t 962 (by decide +kernel) (by decide +kernel)⟩
abbrev mX11_odds : Mt := (yX11_odds, cX11_odds, 3, (some (.boolean)))
set_option maxRecDepth 100000 in
theorem kX11_odds : Cond.initialized (yX11_odds).cls ∈ tb ∧ Cond.code yX11_odds cX11_odds 3 (some (.boolean)) ∈ tb ∧ ((yX11_odds).cls ≠ "java/lang/invoke/MethodHandle" ∧ (yX11_odds).cls ≠ "java/lang/invoke/VarHandle" ∧ (parseMethodDescriptor (yX11_odds).desc).map (fun d => d.parameters.length) = some 2) ∧ 3 ≤ 21 := ⟨tb_t 1 (by decide +kernel) (by decide +kernel), tb_t 713 rfl (by decide +kernel), ⟨by decide +kernel, by decide +kernel, by decide +kernel⟩, by decide⟩
theorem vX11_odds : Cond.instanceMethod yX11_odds ∈ tb ∧ Cond.selects (yX11_odds).cls yX11_odds yX11_odds ∈ tb := ⟨tb_t 711 (by decide +kernel) (by decide +kernel), tb_t 712 (by decide +kernel) (by decide +kernel)⟩
abbrev mX11_passDay : Mt := (yX11_passDay, cX11_passDay, 2, none)
set_option maxRecDepth 100000 in
theorem kX11_passDay : Cond.initialized (yX11_passDay).cls ∈ tb ∧ Cond.code yX11_passDay cX11_passDay 2 none ∈ tb ∧ ((yX11_passDay).cls ≠ "java/lang/invoke/MethodHandle" ∧ (yX11_passDay).cls ≠ "java/lang/invoke/VarHandle" ∧ (parseMethodDescriptor (yX11_passDay).desc).map (fun d => d.parameters.length) = some 1) ∧ 2 ≤ 21 := ⟨tb_t 1 (by decide +kernel) (by decide +kernel), tb_t 747 rfl (by decide +kernel), ⟨by decide +kernel, by decide +kernel, by decide +kernel⟩, by decide⟩
theorem vX11_passDay : Cond.instanceMethod yX11_passDay ∈ tb ∧ Cond.selects (yX11_passDay).cls yX11_passDay yX11_passDay ∈ tb := ⟨tb_t 746 (by decide +kernel) (by decide +kernel), tb_p 18 (by decide +kernel) (by decide +kernel)⟩
abbrev mX11_perform : Mt := (yX11_perform, cX11_perform, 4, (some (.int)))
set_option maxRecDepth 100000 in
theorem kX11_perform : Cond.initialized (yX11_perform).cls ∈ tb ∧ Cond.code yX11_perform cX11_perform 4 (some (.int)) ∈ tb ∧ ((yX11_perform).cls ≠ "java/lang/invoke/MethodHandle" ∧ (yX11_perform).cls ≠ "java/lang/invoke/VarHandle" ∧ (parseMethodDescriptor (yX11_perform).desc).map (fun d => d.parameters.length) = some 1) ∧ 4 ≤ 21 := ⟨tb_t 1 (by decide +kernel) (by decide +kernel), tb_t 860 rfl (by decide +kernel), ⟨by decide +kernel, by decide +kernel, by decide +kernel⟩, by decide⟩
theorem vX11_perform : Cond.instanceMethod yX11_perform ∈ tb ∧ Cond.selects (yX11_perform).cls yX11_perform yX11_perform ∈ tb := ⟨tb_t 858 (by decide +kernel) (by decide +kernel), tb_t 859 (by decide +kernel) (by decide +kernel)⟩
abbrev mX11_pipe : Mt := (yX11_pipe, cX11_pipe, 3, (some (.int)))
set_option maxRecDepth 100000 in
theorem kX11_pipe : Cond.initialized (yX11_pipe).cls ∈ tb ∧ Cond.code yX11_pipe cX11_pipe 3 (some (.int)) ∈ tb ∧ ((yX11_pipe).cls ≠ "java/lang/invoke/MethodHandle" ∧ (yX11_pipe).cls ≠ "java/lang/invoke/VarHandle" ∧ (parseMethodDescriptor (yX11_pipe).desc).map (fun d => d.parameters.length) = some 2) ∧ 3 ≤ 21 := ⟨tb_t 1 (by decide +kernel) (by decide +kernel), tb_t 676 rfl (by decide +kernel), ⟨by decide +kernel, by decide +kernel, by decide +kernel⟩, by decide⟩
theorem vX11_pipe : Cond.instanceMethod yX11_pipe ∈ tb ∧ Cond.selects (yX11_pipe).cls yX11_pipe yX11_pipe ∈ tb := ⟨tb_t 674 (by decide +kernel) (by decide +kernel), tb_t 675 (by decide +kernel) (by decide +kernel)⟩
abbrev mX11_pond : Mt := (yX11_pond, cX11_pond, 3, (some (.int)))
set_option maxRecDepth 100000 in
theorem kX11_pond : Cond.initialized (yX11_pond).cls ∈ tb ∧ Cond.code yX11_pond cX11_pond 3 (some (.int)) ∈ tb ∧ ((yX11_pond).cls ≠ "java/lang/invoke/MethodHandle" ∧ (yX11_pond).cls ≠ "java/lang/invoke/VarHandle" ∧ (parseMethodDescriptor (yX11_pond).desc).map (fun d => d.parameters.length) = some 2) ∧ 3 ≤ 21 := ⟨tb_t 1 (by decide +kernel) (by decide +kernel), tb_t 1122 rfl (by decide +kernel), ⟨by decide +kernel, by decide +kernel, by decide +kernel⟩, by decide⟩
theorem vX11_pond : Cond.instanceMethod yX11_pond ∈ tb ∧ Cond.selects (yX11_pond).cls yX11_pond yX11_pond ∈ tb := ⟨tb_t 1120 (by decide +kernel) (by decide +kernel), tb_t 1121 (by decide +kernel) (by decide +kernel)⟩
abbrev mX11_pour : Mt := (yX11_pour, cX11_pour, 3, (some (.int)))
set_option maxRecDepth 100000 in
theorem kX11_pour : Cond.initialized (yX11_pour).cls ∈ tb ∧ Cond.code yX11_pour cX11_pour 3 (some (.int)) ∈ tb ∧ ((yX11_pour).cls ≠ "java/lang/invoke/MethodHandle" ∧ (yX11_pour).cls ≠ "java/lang/invoke/VarHandle" ∧ (parseMethodDescriptor (yX11_pour).desc).map (fun d => d.parameters.length) = some 2) ∧ 3 ≤ 21 := ⟨tb_t 1 (by decide +kernel) (by decide +kernel), tb_t 780 rfl (by decide +kernel), ⟨by decide +kernel, by decide +kernel, by decide +kernel⟩, by decide⟩
theorem vX11_pour : Cond.instanceMethod yX11_pour ∈ tb ∧ Cond.selects (yX11_pour).cls yX11_pour yX11_pour ∈ tb := ⟨tb_t 778 (by decide +kernel) (by decide +kernel), tb_t 779 (by decide +kernel) (by decide +kernel)⟩
abbrev mX11_rainOfDraws : Mt := (yX11_rainOfDraws, cX11_rainOfDraws, 2, (some (.int)))
set_option maxRecDepth 100000 in
theorem kX11_rainOfDraws : Cond.initialized (yX11_rainOfDraws).cls ∈ tb ∧ Cond.code yX11_rainOfDraws cX11_rainOfDraws 2 (some (.int)) ∈ tb ∧ ((yX11_rainOfDraws).cls ≠ "java/lang/invoke/MethodHandle" ∧ (yX11_rainOfDraws).cls ≠ "java/lang/invoke/VarHandle" ∧ (parseMethodDescriptor (yX11_rainOfDraws).desc).map (fun d => d.parameters.length) = some 0) ∧ 2 ≤ 21 := ⟨tb_t 1 (by decide +kernel) (by decide +kernel), tb_t 797 rfl (by decide +kernel), ⟨by decide +kernel, by decide +kernel, by decide +kernel⟩, by decide⟩
theorem vX11_rainOfDraws : Cond.instanceMethod yX11_rainOfDraws ∈ tb ∧ Cond.selects (yX11_rainOfDraws).cls yX11_rainOfDraws yX11_rainOfDraws ∈ tb := ⟨tb_t 796 (by decide +kernel) (by decide +kernel), tb_p 22 (by decide +kernel) (by decide +kernel)⟩
abbrev mX11_reads : Mt := (yX11_reads, cX11_reads, 2, (some (.int)))
set_option maxRecDepth 100000 in
theorem kX11_reads : Cond.initialized (yX11_reads).cls ∈ tb ∧ Cond.code yX11_reads cX11_reads 2 (some (.int)) ∈ tb ∧ ((yX11_reads).cls ≠ "java/lang/invoke/MethodHandle" ∧ (yX11_reads).cls ≠ "java/lang/invoke/VarHandle" ∧ (parseMethodDescriptor (yX11_reads).desc).map (fun d => d.parameters.length) = some 1) ∧ 2 ≤ 21 := ⟨tb_t 1 (by decide +kernel) (by decide +kernel), tb_t 1046 rfl (by decide +kernel), ⟨by decide +kernel, by decide +kernel, by decide +kernel⟩, by decide⟩
theorem vX11_reads : Cond.instanceMethod yX11_reads ∈ tb ∧ Cond.selects (yX11_reads).cls yX11_reads yX11_reads ∈ tb := ⟨tb_t 1044 (by decide +kernel) (by decide +kernel), tb_t 1045 (by decide +kernel) (by decide +kernel)⟩
abbrev mX11_rent : Mt := (yX11_rent, cX11_rent, 2, (some (.int)))
set_option maxRecDepth 100000 in
theorem kX11_rent : Cond.initialized (yX11_rent).cls ∈ tb ∧ Cond.code yX11_rent cX11_rent 2 (some (.int)) ∈ tb ∧ ((yX11_rent).cls ≠ "java/lang/invoke/MethodHandle" ∧ (yX11_rent).cls ≠ "java/lang/invoke/VarHandle" ∧ (parseMethodDescriptor (yX11_rent).desc).map (fun d => d.parameters.length) = some 1) ∧ 2 ≤ 21 := ⟨tb_t 1 (by decide +kernel) (by decide +kernel), tb_t 1062 rfl (by decide +kernel), ⟨by decide +kernel, by decide +kernel, by decide +kernel⟩, by decide⟩
theorem vX11_rent : Cond.instanceMethod yX11_rent ∈ tb ∧ Cond.selects (yX11_rent).cls yX11_rent yX11_rent ∈ tb := ⟨tb_t 1060 (by decide +kernel) (by decide +kernel), tb_t 1061 (by decide +kernel) (by decide +kernel)⟩
abbrev mX11_rest : Mt := (yX11_rest, cX11_rest, 2, (some (.int)))
set_option maxRecDepth 100000 in
theorem kX11_rest : Cond.initialized (yX11_rest).cls ∈ tb ∧ Cond.code yX11_rest cX11_rest 2 (some (.int)) ∈ tb ∧ ((yX11_rest).cls ≠ "java/lang/invoke/MethodHandle" ∧ (yX11_rest).cls ≠ "java/lang/invoke/VarHandle" ∧ (parseMethodDescriptor (yX11_rest).desc).map (fun d => d.parameters.length) = some 1) ∧ 2 ≤ 21 := ⟨tb_t 1 (by decide +kernel) (by decide +kernel), tb_t 929 rfl (by decide +kernel), ⟨by decide +kernel, by decide +kernel, by decide +kernel⟩, by decide⟩
theorem vX11_rest : Cond.instanceMethod yX11_rest ∈ tb ∧ Cond.selects (yX11_rest).cls yX11_rest yX11_rest ∈ tb := ⟨tb_t 927 (by decide +kernel) (by decide +kernel), tb_t 928 (by decide +kernel) (by decide +kernel)⟩
abbrev mX11_rests : Mt := (yX11_rests, cX11_rests, 9, (some (.int)))
set_option maxRecDepth 100000 in
theorem kX11_rests : Cond.initialized (yX11_rests).cls ∈ tb ∧ Cond.code yX11_rests cX11_rests 9 (some (.int)) ∈ tb ∧ ((yX11_rests).cls ≠ "java/lang/invoke/MethodHandle" ∧ (yX11_rests).cls ≠ "java/lang/invoke/VarHandle" ∧ (parseMethodDescriptor (yX11_rests).desc).map (fun d => d.parameters.length) = some 6) ∧ 9 ≤ 21 := ⟨tb_t 1 (by decide +kernel) (by decide +kernel), tb_t 1038 rfl (by decide +kernel), ⟨by decide +kernel, by decide +kernel, by decide +kernel⟩, by decide⟩
theorem vX11_rests : Cond.instanceMethod yX11_rests ∈ tb ∧ Cond.selects (yX11_rests).cls yX11_rests yX11_rests ∈ tb := ⟨tb_t 1036 (by decide +kernel) (by decide +kernel), tb_t 1037 (by decide +kernel) (by decide +kernel)⟩
abbrev mX11_run : Mt := (yX11_run, cX11_run, 4, (some (.int)))
set_option maxRecDepth 100000 in
theorem kX11_run : Cond.initialized (yX11_run).cls ∈ tb ∧ Cond.code yX11_run cX11_run 4 (some (.int)) ∈ tb ∧ ((yX11_run).cls ≠ "java/lang/invoke/MethodHandle" ∧ (yX11_run).cls ≠ "java/lang/invoke/VarHandle" ∧ (parseMethodDescriptor (yX11_run).desc).map (fun d => d.parameters.length) = some 2) ∧ 4 ≤ 21 := ⟨tb_t 1 (by decide +kernel) (by decide +kernel), tb_t 845 rfl (by decide +kernel), ⟨by decide +kernel, by decide +kernel, by decide +kernel⟩, by decide⟩
theorem vX11_run : Cond.instanceMethod yX11_run ∈ tb ∧ Cond.selects (yX11_run).cls yX11_run yX11_run ∈ tb := ⟨tb_t 843 (by decide +kernel) (by decide +kernel), tb_t 844 (by decide +kernel) (by decide +kernel)⟩
abbrev mX11_secret : Mt := (yX11_secret, cX11_secret, 2, (some (.int)))
set_option maxRecDepth 100000 in
theorem kX11_secret : Cond.initialized (yX11_secret).cls ∈ tb ∧ Cond.code yX11_secret cX11_secret 2 (some (.int)) ∈ tb ∧ ((yX11_secret).cls ≠ "java/lang/invoke/MethodHandle" ∧ (yX11_secret).cls ≠ "java/lang/invoke/VarHandle" ∧ (parseMethodDescriptor (yX11_secret).desc).map (fun d => d.parameters.length) = some 1) ∧ 2 ≤ 21 := ⟨tb_t 1 (by decide +kernel) (by decide +kernel), tb_t 971 rfl (by decide +kernel), ⟨by decide +kernel, by decide +kernel, by decide +kernel⟩, by decide⟩
theorem vX11_secret : Cond.instanceMethod yX11_secret ∈ tb ∧ Cond.selects (yX11_secret).cls yX11_secret yX11_secret ∈ tb := ⟨tb_t 969 (by decide +kernel) (by decide +kernel), tb_t 970 (by decide +kernel) (by decide +kernel)⟩
abbrev mX11_settleTown : Mt := (yX11_settleTown, cX11_settleTown, 1, (some (.int)))
set_option maxRecDepth 100000 in
theorem kX11_settleTown : Cond.initialized (yX11_settleTown).cls ∈ tb ∧ Cond.code yX11_settleTown cX11_settleTown 1 (some (.int)) ∈ tb ∧ ((yX11_settleTown).cls ≠ "java/lang/invoke/MethodHandle" ∧ (yX11_settleTown).cls ≠ "java/lang/invoke/VarHandle" ∧ (parseMethodDescriptor (yX11_settleTown).desc).map (fun d => d.parameters.length) = some 0) ∧ 1 ≤ 21 := ⟨tb_t 1 (by decide +kernel) (by decide +kernel), tb_t 636 rfl (by decide +kernel), ⟨by decide +kernel, by decide +kernel, by decide +kernel⟩, by decide⟩
theorem vX11_settleTown : Cond.instanceMethod yX11_settleTown ∈ tb ∧ Cond.selects (yX11_settleTown).cls yX11_settleTown yX11_settleTown ∈ tb := ⟨tb_t 635 (by decide +kernel) (by decide +kernel), tb_p 13 (by decide +kernel) (by decide +kernel)⟩
abbrev mX11_shares : Mt := (yX11_shares, cX11_shares, 1, (some (.int)))
set_option maxRecDepth 100000 in
theorem kX11_shares : Cond.initialized (yX11_shares).cls ∈ tb ∧ Cond.code yX11_shares cX11_shares 1 (some (.int)) ∈ tb ∧ ((yX11_shares).cls ≠ "java/lang/invoke/MethodHandle" ∧ (yX11_shares).cls ≠ "java/lang/invoke/VarHandle" ∧ (parseMethodDescriptor (yX11_shares).desc).map (fun d => d.parameters.length) = some 0) ∧ 1 ≤ 21 := ⟨tb_t 1 (by decide +kernel) (by decide +kernel), tb_t 1074 rfl (by decide +kernel), ⟨by decide +kernel, by decide +kernel, by decide +kernel⟩, by decide⟩
theorem vX11_shares : Cond.instanceMethod yX11_shares ∈ tb ∧ Cond.selects (yX11_shares).cls yX11_shares yX11_shares ∈ tb := ⟨tb_t 1072 (by decide +kernel) (by decide +kernel), tb_t 1073 (by decide +kernel) (by decide +kernel)⟩
abbrev mX11_sky : Mt := (yX11_sky, cX11_sky, 2, (some (.int)))
set_option maxRecDepth 100000 in
theorem kX11_sky : Cond.initialized (yX11_sky).cls ∈ tb ∧ Cond.code yX11_sky cX11_sky 2 (some (.int)) ∈ tb ∧ ((yX11_sky).cls ≠ "java/lang/invoke/MethodHandle" ∧ (yX11_sky).cls ≠ "java/lang/invoke/VarHandle" ∧ (parseMethodDescriptor (yX11_sky).desc).map (fun d => d.parameters.length) = some 1) ∧ 2 ≤ 21 := ⟨tb_t 1 (by decide +kernel) (by decide +kernel), tb_t 671 rfl (by decide +kernel), ⟨by decide +kernel, by decide +kernel, by decide +kernel⟩, by decide⟩
theorem vX11_sky : Cond.instanceMethod yX11_sky ∈ tb ∧ Cond.selects (yX11_sky).cls yX11_sky yX11_sky ∈ tb := ⟨tb_t 669 (by decide +kernel) (by decide +kernel), tb_t 670 (by decide +kernel) (by decide +kernel)⟩
abbrev mX11_step : Mt := (yX11_step, cX11_step, 4, (some (.int)))
set_option maxRecDepth 100000 in
theorem kX11_step : Cond.initialized (yX11_step).cls ∈ tb ∧ Cond.code yX11_step cX11_step 4 (some (.int)) ∈ tb ∧ ((yX11_step).cls ≠ "java/lang/invoke/MethodHandle" ∧ (yX11_step).cls ≠ "java/lang/invoke/VarHandle" ∧ (parseMethodDescriptor (yX11_step).desc).map (fun d => d.parameters.length) = some 3) ∧ 4 ≤ 21 := ⟨tb_t 1 (by decide +kernel) (by decide +kernel), tb_t 832 rfl (by decide +kernel), ⟨by decide +kernel, by decide +kernel, by decide +kernel⟩, by decide⟩
theorem vX11_step : Cond.instanceMethod yX11_step ∈ tb ∧ Cond.selects (yX11_step).cls yX11_step yX11_step ∈ tb := ⟨tb_t 830 (by decide +kernel) (by decide +kernel), tb_t 831 (by decide +kernel) (by decide +kernel)⟩
abbrev mX11_stock : Mt := (yX11_stock, cX11_stock, 6, (some (.int)))
set_option maxRecDepth 100000 in
theorem kX11_stock : Cond.initialized (yX11_stock).cls ∈ tb ∧ Cond.code yX11_stock cX11_stock 6 (some (.int)) ∈ tb ∧ ((yX11_stock).cls ≠ "java/lang/invoke/MethodHandle" ∧ (yX11_stock).cls ≠ "java/lang/invoke/VarHandle" ∧ (parseMethodDescriptor (yX11_stock).desc).map (fun d => d.parameters.length) = some 2) ∧ 6 ≤ 21 := ⟨tb_t 1 (by decide +kernel) (by decide +kernel), tb_t 784 rfl (by decide +kernel), ⟨by decide +kernel, by decide +kernel, by decide +kernel⟩, by decide⟩
theorem vX11_stock : Cond.instanceMethod yX11_stock ∈ tb ∧ Cond.selects (yX11_stock).cls yX11_stock yX11_stock ∈ tb := ⟨tb_t 782 (by decide +kernel) (by decide +kernel), tb_t 783 (by decide +kernel) (by decide +kernel)⟩
abbrev mX11_text : Mt := (yX11_text, cX11_text, 2, (some (.int)))
set_option maxRecDepth 100000 in
theorem kX11_text : Cond.initialized (yX11_text).cls ∈ tb ∧ Cond.code yX11_text cX11_text 2 (some (.int)) ∈ tb ∧ ((yX11_text).cls ≠ "java/lang/invoke/MethodHandle" ∧ (yX11_text).cls ≠ "java/lang/invoke/VarHandle" ∧ (parseMethodDescriptor (yX11_text).desc).map (fun d => d.parameters.length) = some 1) ∧ 2 ≤ 21 := ⟨tb_t 1 (by decide +kernel) (by decide +kernel), tb_t 632 rfl (by decide +kernel), ⟨by decide +kernel, by decide +kernel, by decide +kernel⟩, by decide⟩
theorem vX11_text : Cond.instanceMethod yX11_text ∈ tb ∧ Cond.selects (yX11_text).cls yX11_text yX11_text ∈ tb := ⟨tb_t 630 (by decide +kernel) (by decide +kernel), tb_t 631 (by decide +kernel) (by decide +kernel)⟩
abbrev mX11_trend : Mt := (yX11_trend, cX11_trend, 2, (some (.int)))
set_option maxRecDepth 100000 in
theorem kX11_trend : Cond.initialized (yX11_trend).cls ∈ tb ∧ Cond.code yX11_trend cX11_trend 2 (some (.int)) ∈ tb ∧ ((yX11_trend).cls ≠ "java/lang/invoke/MethodHandle" ∧ (yX11_trend).cls ≠ "java/lang/invoke/VarHandle" ∧ (parseMethodDescriptor (yX11_trend).desc).map (fun d => d.parameters.length) = some 1) ∧ 2 ≤ 21 := ⟨tb_t 1 (by decide +kernel) (by decide +kernel), tb_t 1070 rfl (by decide +kernel), ⟨by decide +kernel, by decide +kernel, by decide +kernel⟩, by decide⟩
theorem vX11_trend : Cond.instanceMethod yX11_trend ∈ tb ∧ Cond.selects (yX11_trend).cls yX11_trend yX11_trend ∈ tb := ⟨tb_t 1068 (by decide +kernel) (by decide +kernel), tb_t 1069 (by decide +kernel) (by decide +kernel)⟩
abbrev mX11_undo : Mt := (yX11_undo, cX11_undo, 1, (some (.int)))
set_option maxRecDepth 100000 in
theorem kX11_undo : Cond.initialized (yX11_undo).cls ∈ tb ∧ Cond.code yX11_undo cX11_undo 1 (some (.int)) ∈ tb ∧ ((yX11_undo).cls ≠ "java/lang/invoke/MethodHandle" ∧ (yX11_undo).cls ≠ "java/lang/invoke/VarHandle" ∧ (parseMethodDescriptor (yX11_undo).desc).map (fun d => d.parameters.length) = some 0) ∧ 1 ≤ 21 := ⟨tb_t 1 (by decide +kernel) (by decide +kernel), tb_t 807 rfl (by decide +kernel), ⟨by decide +kernel, by decide +kernel, by decide +kernel⟩, by decide⟩
theorem vX11_undo : Cond.instanceMethod yX11_undo ∈ tb ∧ Cond.selects (yX11_undo).cls yX11_undo yX11_undo ∈ tb := ⟨tb_t 805 (by decide +kernel) (by decide +kernel), tb_t 806 (by decide +kernel) (by decide +kernel)⟩
abbrev mX11_walls : Mt := (yX11_walls, cX11_walls, 1, (some (.int)))
set_option maxRecDepth 100000 in
theorem kX11_walls : Cond.initialized (yX11_walls).cls ∈ tb ∧ Cond.code yX11_walls cX11_walls 1 (some (.int)) ∈ tb ∧ ((yX11_walls).cls ≠ "java/lang/invoke/MethodHandle" ∧ (yX11_walls).cls ≠ "java/lang/invoke/VarHandle" ∧ (parseMethodDescriptor (yX11_walls).desc).map (fun d => d.parameters.length) = some 0) ∧ 1 ≤ 21 := ⟨tb_t 1 (by decide +kernel) (by decide +kernel), tb_t 1011 rfl (by decide +kernel), ⟨by decide +kernel, by decide +kernel, by decide +kernel⟩, by decide⟩
theorem vX11_walls : Cond.instanceMethod yX11_walls ∈ tb ∧ Cond.selects (yX11_walls).cls yX11_walls yX11_walls ∈ tb := ⟨tb_t 1009 (by decide +kernel) (by decide +kernel), tb_t 1010 (by decide +kernel) (by decide +kernel)⟩
abbrev mX11_years : Mt := (yX11_years, cX11_years, 5, (some (.int)))
set_option maxRecDepth 100000 in
theorem kX11_years : Cond.initialized (yX11_years).cls ∈ tb ∧ Cond.code yX11_years cX11_years 5 (some (.int)) ∈ tb ∧ ((yX11_years).cls ≠ "java/lang/invoke/MethodHandle" ∧ (yX11_years).cls ≠ "java/lang/invoke/VarHandle" ∧ (parseMethodDescriptor (yX11_years).desc).map (fun d => d.parameters.length) = some 2) ∧ 5 ≤ 21 := ⟨tb_t 1 (by decide +kernel) (by decide +kernel), tb_t 793 rfl (by decide +kernel), ⟨by decide +kernel, by decide +kernel, by decide +kernel⟩, by decide⟩
theorem vX11_years : Cond.instanceMethod yX11_years ∈ tb ∧ Cond.selects (yX11_years).cls yX11_years yX11_years ∈ tb := ⟨tb_t 791 (by decide +kernel) (by decide +kernel), tb_t 792 (by decide +kernel) (by decide +kernel)⟩
abbrev mX12_ahead : Mt := (yX12_ahead, cX12_ahead, 3, (some (.int)))
set_option maxRecDepth 100000 in
theorem kX12_ahead : Cond.initialized (yX12_ahead).cls ∈ tb ∧ Cond.code yX12_ahead cX12_ahead 3 (some (.int)) ∈ tb ∧ ((yX12_ahead).cls ≠ "java/lang/invoke/MethodHandle" ∧ (yX12_ahead).cls ≠ "java/lang/invoke/VarHandle" ∧ (parseMethodDescriptor (yX12_ahead).desc).map (fun d => d.parameters.length) = some 2) ∧ 3 ≤ 21 := ⟨tb_t 14 (by decide +kernel) (by decide +kernel), tb_t 1695 rfl (by decide +kernel), ⟨by decide +kernel, by decide +kernel, by decide +kernel⟩, by decide⟩
theorem vX12_ahead : Cond.instanceMethod yX12_ahead ∈ tb ∧ Cond.selects (yX12_ahead).cls yX12_ahead yX12_ahead ∈ tb := ⟨tb_t 1693 (by decide +kernel) (by decide +kernel), tb_t 1694 (by decide +kernel) (by decide +kernel)⟩
abbrev mX12_apart : Mt := (yX12_apart, cX12_apart, 3, (some (.int)))
set_option maxRecDepth 100000 in
theorem kX12_apart : Cond.initialized (yX12_apart).cls ∈ tb ∧ Cond.code yX12_apart cX12_apart 3 (some (.int)) ∈ tb ∧ ((yX12_apart).cls ≠ "java/lang/invoke/MethodHandle" ∧ (yX12_apart).cls ≠ "java/lang/invoke/VarHandle" ∧ (parseMethodDescriptor (yX12_apart).desc).map (fun d => d.parameters.length) = some 0) ∧ 3 ≤ 21 := ⟨tb_t 14 (by decide +kernel) (by decide +kernel), tb_t 1741 rfl (by decide +kernel), ⟨by decide +kernel, by decide +kernel, by decide +kernel⟩, by decide⟩
theorem vX12_apart : Cond.instanceMethod yX12_apart ∈ tb ∧ Cond.selects (yX12_apart).cls yX12_apart yX12_apart ∈ tb := ⟨tb_t 1739 (by decide +kernel) (by decide +kernel), tb_t 1740 (by decide +kernel) (by decide +kernel)⟩
abbrev mX12_areApart : Mt := (yX12_areApart, cX12_areApart, 5, (some (.boolean)))
set_option maxRecDepth 100000 in
theorem kX12_areApart : Cond.initialized (yX12_areApart).cls ∈ tb ∧ Cond.code yX12_areApart cX12_areApart 5 (some (.boolean)) ∈ tb ∧ ((yX12_areApart).cls ≠ "java/lang/invoke/MethodHandle" ∧ (yX12_areApart).cls ≠ "java/lang/invoke/VarHandle" ∧ (parseMethodDescriptor (yX12_areApart).desc).map (fun d => d.parameters.length) = some 1) ∧ 5 ≤ 21 := ⟨tb_t 14 (by decide +kernel) (by decide +kernel), tb_t 1745 rfl (by decide +kernel), ⟨by decide +kernel, by decide +kernel, by decide +kernel⟩, by decide⟩
theorem vX12_areApart : Cond.instanceMethod yX12_areApart ∈ tb ∧ Cond.selects (yX12_areApart).cls yX12_areApart yX12_areApart ∈ tb := ⟨tb_t 1744 (by decide +kernel) (by decide +kernel), tb_p 86 (by decide +kernel) (by decide +kernel)⟩
abbrev mX12_atom : Mt := (yX12_atom, cX12_atom, 4, (some (.int)))
set_option maxRecDepth 100000 in
theorem kX12_atom : Cond.initialized (yX12_atom).cls ∈ tb ∧ Cond.code yX12_atom cX12_atom 4 (some (.int)) ∈ tb ∧ ((yX12_atom).cls ≠ "java/lang/invoke/MethodHandle" ∧ (yX12_atom).cls ≠ "java/lang/invoke/VarHandle" ∧ (parseMethodDescriptor (yX12_atom).desc).map (fun d => d.parameters.length) = some 0) ∧ 4 ≤ 21 := ⟨tb_t 14 (by decide +kernel) (by decide +kernel), tb_t 1482 rfl (by decide +kernel), ⟨by decide +kernel, by decide +kernel, by decide +kernel⟩, by decide⟩
theorem vX12_atom : Cond.instanceMethod yX12_atom ∈ tb ∧ Cond.selects (yX12_atom).cls yX12_atom yX12_atom ∈ tb := ⟨tb_t 1481 (by decide +kernel) (by decide +kernel), tb_p 55 (by decide +kernel) (by decide +kernel)⟩
abbrev mX12_back : Mt := (yX12_back, cX12_back, 1, (some (.int)))
set_option maxRecDepth 100000 in
theorem kX12_back : Cond.initialized (yX12_back).cls ∈ tb ∧ Cond.code yX12_back cX12_back 1 (some (.int)) ∈ tb ∧ ((yX12_back).cls ≠ "java/lang/invoke/MethodHandle" ∧ (yX12_back).cls ≠ "java/lang/invoke/VarHandle" ∧ (parseMethodDescriptor (yX12_back).desc).map (fun d => d.parameters.length) = some 0) ∧ 1 ≤ 21 := ⟨tb_t 14 (by decide +kernel) (by decide +kernel), tb_t 1827 rfl (by decide +kernel), ⟨by decide +kernel, by decide +kernel, by decide +kernel⟩, by decide⟩
theorem vX12_back : Cond.instanceMethod yX12_back ∈ tb ∧ Cond.selects (yX12_back).cls yX12_back yX12_back ∈ tb := ⟨tb_t 1825 (by decide +kernel) (by decide +kernel), tb_t 1826 (by decide +kernel) (by decide +kernel)⟩
abbrev mX12_bare : Mt := (yX12_bare, cX12_bare, 1, (some (.int)))
set_option maxRecDepth 100000 in
theorem kX12_bare : Cond.initialized (yX12_bare).cls ∈ tb ∧ Cond.code yX12_bare cX12_bare 1 (some (.int)) ∈ tb ∧ ((yX12_bare).cls ≠ "java/lang/invoke/MethodHandle" ∧ (yX12_bare).cls ≠ "java/lang/invoke/VarHandle" ∧ (parseMethodDescriptor (yX12_bare).desc).map (fun d => d.parameters.length) = some 0) ∧ 1 ≤ 21 := ⟨tb_t 14 (by decide +kernel) (by decide +kernel), tb_t 1708 rfl (by decide +kernel), ⟨by decide +kernel, by decide +kernel, by decide +kernel⟩, by decide⟩
theorem vX12_bare : Cond.instanceMethod yX12_bare ∈ tb ∧ Cond.selects (yX12_bare).cls yX12_bare yX12_bare ∈ tb := ⟨tb_t 1706 (by decide +kernel) (by decide +kernel), tb_t 1707 (by decide +kernel) (by decide +kernel)⟩
abbrev mX12_bareIn : Mt := (yX12_bareIn, cX12_bareIn, 4, (some (.int)))
set_option maxRecDepth 100000 in
theorem kX12_bareIn : Cond.initialized (yX12_bareIn).cls ∈ tb ∧ Cond.code yX12_bareIn cX12_bareIn 4 (some (.int)) ∈ tb ∧ ((yX12_bareIn).cls ≠ "java/lang/invoke/MethodHandle" ∧ (yX12_bareIn).cls ≠ "java/lang/invoke/VarHandle" ∧ (parseMethodDescriptor (yX12_bareIn).desc).map (fun d => d.parameters.length) = some 1) ∧ 4 ≤ 21 := ⟨tb_t 14 (by decide +kernel) (by decide +kernel), tb_t 1641 rfl (by decide +kernel), ⟨by decide +kernel, by decide +kernel, by decide +kernel⟩, by decide⟩
theorem vX12_bareIn : Cond.instanceMethod yX12_bareIn ∈ tb ∧ Cond.selects (yX12_bareIn).cls yX12_bareIn yX12_bareIn ∈ tb := ⟨tb_t 1640 (by decide +kernel) (by decide +kernel), tb_p 77 (by decide +kernel) (by decide +kernel)⟩
abbrev mX12_breeds : Mt := (yX12_breeds, cX12_breeds, 5, none)
set_option maxRecDepth 100000 in
theorem kX12_breeds : Cond.initialized (yX12_breeds).cls ∈ tb ∧ Cond.code yX12_breeds cX12_breeds 5 none ∈ tb ∧ ((yX12_breeds).cls ≠ "java/lang/invoke/MethodHandle" ∧ (yX12_breeds).cls ≠ "java/lang/invoke/VarHandle" ∧ (parseMethodDescriptor (yX12_breeds).desc).map (fun d => d.parameters.length) = some 2) ∧ 5 ≤ 21 := ⟨tb_t 14 (by decide +kernel) (by decide +kernel), tb_t 1633 rfl (by decide +kernel), ⟨by decide +kernel, by decide +kernel, by decide +kernel⟩, by decide⟩
theorem vX12_breeds : Cond.instanceMethod yX12_breeds ∈ tb ∧ Cond.selects (yX12_breeds).cls yX12_breeds yX12_breeds ∈ tb := ⟨tb_t 1632 (by decide +kernel) (by decide +kernel), tb_p 75 (by decide +kernel) (by decide +kernel)⟩
abbrev mX12_bytesIn : Mt := (yX12_bytesIn, cX12_bytesIn, 3, (some (.int)))
set_option maxRecDepth 100000 in
theorem kX12_bytesIn : Cond.initialized (yX12_bytesIn).cls ∈ tb ∧ Cond.code yX12_bytesIn cX12_bytesIn 3 (some (.int)) ∈ tb ∧ ((yX12_bytesIn).cls ≠ "java/lang/invoke/MethodHandle" ∧ (yX12_bytesIn).cls ≠ "java/lang/invoke/VarHandle" ∧ (parseMethodDescriptor (yX12_bytesIn).desc).map (fun d => d.parameters.length) = some 1) ∧ 3 ≤ 21 := ⟨tb_t 14 (by decide +kernel) (by decide +kernel), tb_t 1348 rfl (by decide +kernel), ⟨by decide +kernel, by decide +kernel, by decide +kernel⟩, by decide⟩
theorem sX12_bytesIn : Cond.static yX12_bytesIn ∈ tb := tb_t 1347 (by decide +kernel) (by decide +kernel)
abbrev mX12_canPour : Mt := (yX12_canPour, cX12_canPour, 4, (some (.boolean)))
set_option maxRecDepth 100000 in
theorem kX12_canPour : Cond.initialized (yX12_canPour).cls ∈ tb ∧ Cond.code yX12_canPour cX12_canPour 4 (some (.boolean)) ∈ tb ∧ ((yX12_canPour).cls ≠ "java/lang/invoke/MethodHandle" ∧ (yX12_canPour).cls ≠ "java/lang/invoke/VarHandle" ∧ (parseMethodDescriptor (yX12_canPour).desc).map (fun d => d.parameters.length) = some 3) ∧ 4 ≤ 21 := ⟨tb_t 14 (by decide +kernel) (by decide +kernel), tb_t 1606 rfl (by decide +kernel), ⟨by decide +kernel, by decide +kernel, by decide +kernel⟩, by decide⟩
theorem vX12_canPour : Cond.instanceMethod yX12_canPour ∈ tb ∧ Cond.selects (yX12_canPour).cls yX12_canPour yX12_canPour ∈ tb := ⟨tb_t 1605 (by decide +kernel) (by decide +kernel), tb_p 71 (by decide +kernel) (by decide +kernel)⟩
abbrev mX12_canStep : Mt := (yX12_canStep, cX12_canStep, 4, (some (.boolean)))
set_option maxRecDepth 100000 in
theorem kX12_canStep : Cond.initialized (yX12_canStep).cls ∈ tb ∧ Cond.code yX12_canStep cX12_canStep 4 (some (.boolean)) ∈ tb ∧ ((yX12_canStep).cls ≠ "java/lang/invoke/MethodHandle" ∧ (yX12_canStep).cls ≠ "java/lang/invoke/VarHandle" ∧ (parseMethodDescriptor (yX12_canStep).desc).map (fun d => d.parameters.length) = some 2) ∧ 4 ≤ 21 := ⟨tb_t 14 (by decide +kernel) (by decide +kernel), tb_t 1679 rfl (by decide +kernel), ⟨by decide +kernel, by decide +kernel, by decide +kernel⟩, by decide⟩
theorem vX12_canStep : Cond.instanceMethod yX12_canStep ∈ tb ∧ Cond.selects (yX12_canStep).cls yX12_canStep yX12_canStep ∈ tb := ⟨tb_t 1678 (by decide +kernel) (by decide +kernel), tb_p 80 (by decide +kernel) (by decide +kernel)⟩
abbrev mX12_canTurn : Mt := (yX12_canTurn, cX12_canTurn, 4, (some (.boolean)))
set_option maxRecDepth 100000 in
theorem kX12_canTurn : Cond.initialized (yX12_canTurn).cls ∈ tb ∧ Cond.code yX12_canTurn cX12_canTurn 4 (some (.boolean)) ∈ tb ∧ ((yX12_canTurn).cls ≠ "java/lang/invoke/MethodHandle" ∧ (yX12_canTurn).cls ≠ "java/lang/invoke/VarHandle" ∧ (parseMethodDescriptor (yX12_canTurn).desc).map (fun d => d.parameters.length) = some 3) ∧ 4 ≤ 21 := ⟨tb_t 14 (by decide +kernel) (by decide +kernel), tb_t 1594 rfl (by decide +kernel), ⟨by decide +kernel, by decide +kernel, by decide +kernel⟩, by decide⟩
theorem vX12_canTurn : Cond.instanceMethod yX12_canTurn ∈ tb ∧ Cond.selects (yX12_canTurn).cls yX12_canTurn yX12_canTurn ∈ tb := ⟨tb_t 1593 (by decide +kernel) (by decide +kernel), tb_p 69 (by decide +kernel) (by decide +kernel)⟩
abbrev mX12_clause : Mt := (yX12_clause, cX12_clause, 5, none)
set_option maxRecDepth 100000 in
theorem kX12_clause : Cond.initialized (yX12_clause).cls ∈ tb ∧ Cond.code yX12_clause cX12_clause 5 none ∈ tb ∧ ((yX12_clause).cls ≠ "java/lang/invoke/MethodHandle" ∧ (yX12_clause).cls ≠ "java/lang/invoke/VarHandle" ∧ (parseMethodDescriptor (yX12_clause).desc).map (fun d => d.parameters.length) = some 0) ∧ 5 ≤ 21 := ⟨tb_t 14 (by decide +kernel) (by decide +kernel), tb_t 1451 rfl (by decide +kernel), ⟨by decide +kernel, by decide +kernel, by decide +kernel⟩, by decide⟩
theorem vX12_clause : Cond.instanceMethod yX12_clause ∈ tb ∧ Cond.selects (yX12_clause).cls yX12_clause yX12_clause ∈ tb := ⟨tb_t 1450 (by decide +kernel) (by decide +kernel), tb_p 48 (by decide +kernel) (by decide +kernel)⟩
abbrev mX12_compares : Mt := (yX12_compares, cX12_compares, 6, (some (.boolean)))
set_option maxRecDepth 100000 in
theorem kX12_compares : Cond.initialized (yX12_compares).cls ∈ tb ∧ Cond.code yX12_compares cX12_compares 6 (some (.boolean)) ∈ tb ∧ ((yX12_compares).cls ≠ "java/lang/invoke/MethodHandle" ∧ (yX12_compares).cls ≠ "java/lang/invoke/VarHandle" ∧ (parseMethodDescriptor (yX12_compares).desc).map (fun d => d.parameters.length) = some 2) ∧ 6 ≤ 21 := ⟨tb_t 14 (by decide +kernel) (by decide +kernel), tb_t 1470 rfl (by decide +kernel), ⟨by decide +kernel, by decide +kernel, by decide +kernel⟩, by decide⟩
theorem vX12_compares : Cond.instanceMethod yX12_compares ∈ tb ∧ Cond.selects (yX12_compares).cls yX12_compares yX12_compares ∈ tb := ⟨tb_t 1469 (by decide +kernel) (by decide +kernel), tb_p 52 (by decide +kernel) (by decide +kernel)⟩
abbrev mX12_condition : Mt := (yX12_condition, cX12_condition, 5, (some (.boolean)))
set_option maxRecDepth 100000 in
theorem kX12_condition : Cond.initialized (yX12_condition).cls ∈ tb ∧ Cond.code yX12_condition cX12_condition 5 (some (.boolean)) ∈ tb ∧ ((yX12_condition).cls ≠ "java/lang/invoke/MethodHandle" ∧ (yX12_condition).cls ≠ "java/lang/invoke/VarHandle" ∧ (parseMethodDescriptor (yX12_condition).desc).map (fun d => d.parameters.length) = some 2) ∧ 5 ≤ 21 := ⟨tb_t 14 (by decide +kernel) (by decide +kernel), tb_t 1462 rfl (by decide +kernel), ⟨by decide +kernel, by decide +kernel, by decide +kernel⟩, by decide⟩
theorem vX12_condition : Cond.instanceMethod yX12_condition ∈ tb ∧ Cond.selects (yX12_condition).cls yX12_condition yX12_condition ∈ tb := ⟨tb_t 1461 (by decide +kernel) (by decide +kernel), tb_p 50 (by decide +kernel) (by decide +kernel)⟩
abbrev mX12_copy : Mt := (yX12_copy, cX12_copy, 4, none)
set_option maxRecDepth 100000 in
theorem kX12_copy : Cond.initialized (yX12_copy).cls ∈ tb ∧ Cond.code yX12_copy cX12_copy 4 none ∈ tb ∧ ((yX12_copy).cls ≠ "java/lang/invoke/MethodHandle" ∧ (yX12_copy).cls ≠ "java/lang/invoke/VarHandle" ∧ (parseMethodDescriptor (yX12_copy).desc).map (fun d => d.parameters.length) = some 2) ∧ 4 ≤ 21 := ⟨tb_t 14 (by decide +kernel) (by decide +kernel), tb_t 1675 rfl (by decide +kernel), ⟨by decide +kernel, by decide +kernel, by decide +kernel⟩, by decide⟩
theorem sX12_copy : Cond.static yX12_copy ∈ tb := tb_t 1674 (by decide +kernel) (by decide +kernel)
abbrev mX12_count : Mt := (yX12_count, cX12_count, 2, (some (.int)))
set_option maxRecDepth 100000 in
theorem kX12_count : Cond.initialized (yX12_count).cls ∈ tb ∧ Cond.code yX12_count cX12_count 2 (some (.int)) ∈ tb ∧ ((yX12_count).cls ≠ "java/lang/invoke/MethodHandle" ∧ (yX12_count).cls ≠ "java/lang/invoke/VarHandle" ∧ (parseMethodDescriptor (yX12_count).desc).map (fun d => d.parameters.length) = some 1) ∧ 2 ≤ 21 := ⟨tb_t 14 (by decide +kernel) (by decide +kernel), tb_t 1831 rfl (by decide +kernel), ⟨by decide +kernel, by decide +kernel, by decide +kernel⟩, by decide⟩
theorem vX12_count : Cond.instanceMethod yX12_count ∈ tb ∧ Cond.selects (yX12_count).cls yX12_count yX12_count ∈ tb := ⟨tb_t 1829 (by decide +kernel) (by decide +kernel), tb_t 1830 (by decide +kernel) (by decide +kernel)⟩
abbrev mX12_cut : Mt := (yX12_cut, cX12_cut, 7, (some (.int)))
set_option maxRecDepth 100000 in
theorem kX12_cut : Cond.initialized (yX12_cut).cls ∈ tb ∧ Cond.code yX12_cut cX12_cut 7 (some (.int)) ∈ tb ∧ ((yX12_cut).cls ≠ "java/lang/invoke/MethodHandle" ∧ (yX12_cut).cls ≠ "java/lang/invoke/VarHandle" ∧ (parseMethodDescriptor (yX12_cut).desc).map (fun d => d.parameters.length) = some 1) ∧ 7 ≤ 21 := ⟨tb_t 14 (by decide +kernel) (by decide +kernel), tb_t 1725 rfl (by decide +kernel), ⟨by decide +kernel, by decide +kernel, by decide +kernel⟩, by decide⟩
theorem vX12_cut : Cond.instanceMethod yX12_cut ∈ tb ∧ Cond.selects (yX12_cut).cls yX12_cut yX12_cut ∈ tb := ⟨tb_t 1723 (by decide +kernel) (by decide +kernel), tb_t 1724 (by decide +kernel) (by decide +kernel)⟩
abbrev mX12_darkest : Mt := (yX12_darkest, cX12_darkest, 5, (some (.int)))
set_option maxRecDepth 100000 in
theorem kX12_darkest : Cond.initialized (yX12_darkest).cls ∈ tb ∧ Cond.code yX12_darkest cX12_darkest 5 (some (.int)) ∈ tb ∧ ((yX12_darkest).cls ≠ "java/lang/invoke/MethodHandle" ∧ (yX12_darkest).cls ≠ "java/lang/invoke/VarHandle" ∧ (parseMethodDescriptor (yX12_darkest).desc).map (fun d => d.parameters.length) = some 0) ∧ 5 ≤ 21 := ⟨tb_t 14 (by decide +kernel) (by decide +kernel), tb_t 1795 rfl (by decide +kernel), ⟨by decide +kernel, by decide +kernel, by decide +kernel⟩, by decide⟩
theorem vX12_darkest : Cond.instanceMethod yX12_darkest ∈ tb ∧ Cond.selects (yX12_darkest).cls yX12_darkest yX12_darkest ∈ tb := ⟨tb_t 1793 (by decide +kernel) (by decide +kernel), tb_t 1794 (by decide +kernel) (by decide +kernel)⟩
abbrev mX12_days : Mt := (yX12_days, cX12_days, 3, (some (.int)))
set_option maxRecDepth 100000 in
theorem kX12_days : Cond.initialized (yX12_days).cls ∈ tb ∧ Cond.code yX12_days cX12_days 3 (some (.int)) ∈ tb ∧ ((yX12_days).cls ≠ "java/lang/invoke/MethodHandle" ∧ (yX12_days).cls ≠ "java/lang/invoke/VarHandle" ∧ (parseMethodDescriptor (yX12_days).desc).map (fun d => d.parameters.length) = some 1) ∧ 3 ≤ 21 := ⟨tb_t 14 (by decide +kernel) (by decide +kernel), tb_t 1614 rfl (by decide +kernel), ⟨by decide +kernel, by decide +kernel, by decide +kernel⟩, by decide⟩
theorem vX12_days : Cond.instanceMethod yX12_days ∈ tb ∧ Cond.selects (yX12_days).cls yX12_days yX12_days ∈ tb := ⟨tb_t 1612 (by decide +kernel) (by decide +kernel), tb_t 1613 (by decide +kernel) (by decide +kernel)⟩
abbrev mX12_digit : Mt := (yX12_digit, cX12_digit, 2, (some (.int)))
set_option maxRecDepth 100000 in
theorem kX12_digit : Cond.initialized (yX12_digit).cls ∈ tb ∧ Cond.code yX12_digit cX12_digit 2 (some (.int)) ∈ tb ∧ ((yX12_digit).cls ≠ "java/lang/invoke/MethodHandle" ∧ (yX12_digit).cls ≠ "java/lang/invoke/VarHandle" ∧ (parseMethodDescriptor (yX12_digit).desc).map (fun d => d.parameters.length) = some 0) ∧ 2 ≤ 21 := ⟨tb_t 14 (by decide +kernel) (by decide +kernel), tb_t 1517 rfl (by decide +kernel), ⟨by decide +kernel, by decide +kernel, by decide +kernel⟩, by decide⟩
theorem vX12_digit : Cond.instanceMethod yX12_digit ∈ tb ∧ Cond.selects (yX12_digit).cls yX12_digit yX12_digit ∈ tb := ⟨tb_t 1516 (by decide +kernel) (by decide +kernel), tb_p 60 (by decide +kernel) (by decide +kernel)⟩
abbrev mX12_draw : Mt := (yX12_draw, cX12_draw, 2, (some (.int)))
set_option maxRecDepth 100000 in
theorem kX12_draw : Cond.initialized (yX12_draw).cls ∈ tb ∧ Cond.code yX12_draw cX12_draw 2 (some (.int)) ∈ tb ∧ ((yX12_draw).cls ≠ "java/lang/invoke/MethodHandle" ∧ (yX12_draw).cls ≠ "java/lang/invoke/VarHandle" ∧ (parseMethodDescriptor (yX12_draw).desc).map (fun d => d.parameters.length) = some 1) ∧ 2 ≤ 21 := ⟨tb_t 14 (by decide +kernel) (by decide +kernel), tb_t 1649 rfl (by decide +kernel), ⟨by decide +kernel, by decide +kernel, by decide +kernel⟩, by decide⟩
theorem vX12_draw : Cond.instanceMethod yX12_draw ∈ tb ∧ Cond.selects (yX12_draw).cls yX12_draw yX12_draw ∈ tb := ⟨tb_t 1648 (by decide +kernel) (by decide +kernel), tb_p 78 (by decide +kernel) (by decide +kernel)⟩
abbrev mX12_dries : Mt := (yX12_dries, cX12_dries, 3, (some (.int)))
set_option maxRecDepth 100000 in
theorem kX12_dries : Cond.initialized (yX12_dries).cls ∈ tb ∧ Cond.code yX12_dries cX12_dries 3 (some (.int)) ∈ tb ∧ ((yX12_dries).cls ≠ "java/lang/invoke/MethodHandle" ∧ (yX12_dries).cls ≠ "java/lang/invoke/VarHandle" ∧ (parseMethodDescriptor (yX12_dries).desc).map (fun d => d.parameters.length) = some 1) ∧ 3 ≤ 21 := ⟨tb_t 14 (by decide +kernel) (by decide +kernel), tb_t 1704 rfl (by decide +kernel), ⟨by decide +kernel, by decide +kernel, by decide +kernel⟩, by decide⟩
theorem vX12_dries : Cond.instanceMethod yX12_dries ∈ tb ∧ Cond.selects (yX12_dries).cls yX12_dries yX12_dries ∈ tb := ⟨tb_t 1702 (by decide +kernel) (by decide +kernel), tb_t 1703 (by decide +kernel) (by decide +kernel)⟩
abbrev mX12_eaten : Mt := (yX12_eaten, cX12_eaten, 2, (some (.int)))
set_option maxRecDepth 100000 in
theorem kX12_eaten : Cond.initialized (yX12_eaten).cls ∈ tb ∧ Cond.code yX12_eaten cX12_eaten 2 (some (.int)) ∈ tb ∧ ((yX12_eaten).cls ≠ "java/lang/invoke/MethodHandle" ∧ (yX12_eaten).cls ≠ "java/lang/invoke/VarHandle" ∧ (parseMethodDescriptor (yX12_eaten).desc).map (fun d => d.parameters.length) = some 1) ∧ 2 ≤ 21 := ⟨tb_t 14 (by decide +kernel) (by decide +kernel), tb_t 1819 rfl (by decide +kernel), ⟨by decide +kernel, by decide +kernel, by decide +kernel⟩, by decide⟩
theorem vX12_eaten : Cond.instanceMethod yX12_eaten ∈ tb ∧ Cond.selects (yX12_eaten).cls yX12_eaten yX12_eaten ∈ tb := ⟨tb_t 1817 (by decide +kernel) (by decide +kernel), tb_t 1818 (by decide +kernel) (by decide +kernel)⟩
abbrev mX12_end : Mt := (yX12_end, cX12_end, 2, (some (.boolean)))
set_option maxRecDepth 100000 in
theorem kX12_end : Cond.initialized (yX12_end).cls ∈ tb ∧ Cond.code yX12_end cX12_end 2 (some (.boolean)) ∈ tb ∧ ((yX12_end).cls ≠ "java/lang/invoke/MethodHandle" ∧ (yX12_end).cls ≠ "java/lang/invoke/VarHandle" ∧ (parseMethodDescriptor (yX12_end).desc).map (fun d => d.parameters.length) = some 1) ∧ 2 ≤ 21 := ⟨tb_t 14 (by decide +kernel) (by decide +kernel), tb_t 1356 rfl (by decide +kernel), ⟨by decide +kernel, by decide +kernel, by decide +kernel⟩, by decide⟩
theorem vX12_end : Cond.instanceMethod yX12_end ∈ tb ∧ Cond.selects (yX12_end).cls yX12_end yX12_end ∈ tb := ⟨tb_t 1354 (by decide +kernel) (by decide +kernel), tb_t 1355 (by decide +kernel) (by decide +kernel)⟩
abbrev mX12_fails : Mt := (yX12_fails, cX12_fails, 1, (some (.boolean)))
set_option maxRecDepth 100000 in
theorem kX12_fails : Cond.initialized (yX12_fails).cls ∈ tb ∧ Cond.code yX12_fails cX12_fails 1 (some (.boolean)) ∈ tb ∧ ((yX12_fails).cls ≠ "java/lang/invoke/MethodHandle" ∧ (yX12_fails).cls ≠ "java/lang/invoke/VarHandle" ∧ (parseMethodDescriptor (yX12_fails).desc).map (fun d => d.parameters.length) = some 0) ∧ 1 ≤ 21 := ⟨tb_t 14 (by decide +kernel) (by decide +kernel), tb_t 1387 rfl (by decide +kernel), ⟨by decide +kernel, by decide +kernel, by decide +kernel⟩, by decide⟩
theorem vX12_fails : Cond.instanceMethod yX12_fails ∈ tb ∧ Cond.selects (yX12_fails).cls yX12_fails yX12_fails ∈ tb := ⟨tb_t 1386 (by decide +kernel) (by decide +kernel), tb_p 41 (by decide +kernel) (by decide +kernel)⟩
abbrev mX12_fault : Mt := (yX12_fault, cX12_fault, 2, (some (.int)))
set_option maxRecDepth 100000 in
theorem kX12_fault : Cond.initialized (yX12_fault).cls ∈ tb ∧ Cond.code yX12_fault cX12_fault 2 (some (.int)) ∈ tb ∧ ((yX12_fault).cls ≠ "java/lang/invoke/MethodHandle" ∧ (yX12_fault).cls ≠ "java/lang/invoke/VarHandle" ∧ (parseMethodDescriptor (yX12_fault).desc).map (fun d => d.parameters.length) = some 1) ∧ 2 ≤ 21 := ⟨tb_t 14 (by decide +kernel) (by decide +kernel), tb_t 1360 rfl (by decide +kernel), ⟨by decide +kernel, by decide +kernel, by decide +kernel⟩, by decide⟩
theorem vX12_fault : Cond.instanceMethod yX12_fault ∈ tb ∧ Cond.selects (yX12_fault).cls yX12_fault yX12_fault ∈ tb := ⟨tb_t 1358 (by decide +kernel) (by decide +kernel), tb_t 1359 (by decide +kernel) (by decide +kernel)⟩
abbrev mX12_feed : Mt := (yX12_feed, cX12_feed, 6, (some (.int)))
set_option maxRecDepth 100000 in
theorem kX12_feed : Cond.initialized (yX12_feed).cls ∈ tb ∧ Cond.code yX12_feed cX12_feed 6 (some (.int)) ∈ tb ∧ ((yX12_feed).cls ≠ "java/lang/invoke/MethodHandle" ∧ (yX12_feed).cls ≠ "java/lang/invoke/VarHandle" ∧ (parseMethodDescriptor (yX12_feed).desc).map (fun d => d.parameters.length) = some 5) ∧ 6 ≤ 21 := ⟨tb_t 14 (by decide +kernel) (by decide +kernel), tb_t 1345 rfl (by decide +kernel), ⟨by decide +kernel, by decide +kernel, by decide +kernel⟩, by decide⟩
theorem vX12_feed : Cond.instanceMethod yX12_feed ∈ tb ∧ Cond.selects (yX12_feed).cls yX12_feed yX12_feed ∈ tb := ⟨tb_t 1343 (by decide +kernel) (by decide +kernel), tb_t 1344 (by decide +kernel) (by decide +kernel)⟩
abbrev mX12_feud : Mt := (yX12_feud, cX12_feud, 8, (some (.int)))
set_option maxRecDepth 100000 in
theorem kX12_feud : Cond.initialized (yX12_feud).cls ∈ tb ∧ Cond.code yX12_feud cX12_feud 8 (some (.int)) ∈ tb ∧ ((yX12_feud).cls ≠ "java/lang/invoke/MethodHandle" ∧ (yX12_feud).cls ≠ "java/lang/invoke/VarHandle" ∧ (parseMethodDescriptor (yX12_feud).desc).map (fun d => d.parameters.length) = some 7) ∧ 8 ≤ 21 := ⟨tb_t 14 (by decide +kernel) (by decide +kernel), tb_t 1775 rfl (by decide +kernel), ⟨by decide +kernel, by decide +kernel, by decide +kernel⟩, by decide⟩
theorem vX12_feud : Cond.instanceMethod yX12_feud ∈ tb ∧ Cond.selects (yX12_feud).cls yX12_feud yX12_feud ∈ tb := ⟨tb_t 1773 (by decide +kernel) (by decide +kernel), tb_t 1774 (by decide +kernel) (by decide +kernel)⟩
abbrev mX12_feudOf : Mt := (yX12_feudOf, cX12_feudOf, 9, (some (.int)))
set_option maxRecDepth 100000 in
theorem kX12_feudOf : Cond.initialized (yX12_feudOf).cls ∈ tb ∧ Cond.code yX12_feudOf cX12_feudOf 9 (some (.int)) ∈ tb ∧ ((yX12_feudOf).cls ≠ "java/lang/invoke/MethodHandle" ∧ (yX12_feudOf).cls ≠ "java/lang/invoke/VarHandle" ∧ (parseMethodDescriptor (yX12_feudOf).desc).map (fun d => d.parameters.length) = some 7) ∧ 9 ≤ 21 := ⟨tb_t 14 (by decide +kernel) (by decide +kernel), tb_t 1783 rfl (by decide +kernel), ⟨by decide +kernel, by decide +kernel, by decide +kernel⟩, by decide⟩
theorem vX12_feudOf : Cond.instanceMethod yX12_feudOf ∈ tb ∧ Cond.selects (yX12_feudOf).cls yX12_feudOf yX12_feudOf ∈ tb := ⟨tb_t 1782 (by decide +kernel) (by decide +kernel), tb_p 89 (by decide +kernel) (by decide +kernel)⟩
abbrev mX12_flowOf : Mt := (yX12_flowOf, cX12_flowOf, 8, (some (.int)))
set_option maxRecDepth 100000 in
theorem kX12_flowOf : Cond.initialized (yX12_flowOf).cls ∈ tb ∧ Cond.code yX12_flowOf cX12_flowOf 8 (some (.int)) ∈ tb ∧ ((yX12_flowOf).cls ≠ "java/lang/invoke/MethodHandle" ∧ (yX12_flowOf).cls ≠ "java/lang/invoke/VarHandle" ∧ (parseMethodDescriptor (yX12_flowOf).desc).map (fun d => d.parameters.length) = some 2) ∧ 8 ≤ 21 := ⟨tb_t 14 (by decide +kernel) (by decide +kernel), tb_t 1559 rfl (by decide +kernel), ⟨by decide +kernel, by decide +kernel, by decide +kernel⟩, by decide⟩
theorem vX12_flowOf : Cond.instanceMethod yX12_flowOf ∈ tb ∧ Cond.selects (yX12_flowOf).cls yX12_flowOf yX12_flowOf ∈ tb := ⟨tb_t 1558 (by decide +kernel) (by decide +kernel), tb_p 65 (by decide +kernel) (by decide +kernel)⟩
abbrev mX12_flows : Mt := (yX12_flows, cX12_flows, 6, none)
set_option maxRecDepth 100000 in
theorem kX12_flows : Cond.initialized (yX12_flows).cls ∈ tb ∧ Cond.code yX12_flows cX12_flows 6 none ∈ tb ∧ ((yX12_flows).cls ≠ "java/lang/invoke/MethodHandle" ∧ (yX12_flows).cls ≠ "java/lang/invoke/VarHandle" ∧ (parseMethodDescriptor (yX12_flows).desc).map (fun d => d.parameters.length) = some 1) ∧ 6 ≤ 21 := ⟨tb_t 14 (by decide +kernel) (by decide +kernel), tb_t 1626 rfl (by decide +kernel), ⟨by decide +kernel, by decide +kernel, by decide +kernel⟩, by decide⟩
theorem vX12_flows : Cond.instanceMethod yX12_flows ∈ tb ∧ Cond.selects (yX12_flows).cls yX12_flows yX12_flows ∈ tb := ⟨tb_t 1625 (by decide +kernel) (by decide +kernel), tb_p 74 (by decide +kernel) (by decide +kernel)⟩
abbrev mX12_goDay : Mt := (yX12_goDay, cX12_goDay, 5, none)
set_option maxRecDepth 100000 in
theorem kX12_goDay : Cond.initialized (yX12_goDay).cls ∈ tb ∧ Cond.code yX12_goDay cX12_goDay 5 none ∈ tb ∧ ((yX12_goDay).cls ≠ "java/lang/invoke/MethodHandle" ∧ (yX12_goDay).cls ≠ "java/lang/invoke/VarHandle" ∧ (parseMethodDescriptor (yX12_goDay).desc).map (fun d => d.parameters.length) = some 2) ∧ 5 ≤ 21 := ⟨tb_t 14 (by decide +kernel) (by decide +kernel), tb_t 1622 rfl (by decide +kernel), ⟨by decide +kernel, by decide +kernel, by decide +kernel⟩, by decide⟩
theorem vX12_goDay : Cond.instanceMethod yX12_goDay ∈ tb ∧ Cond.selects (yX12_goDay).cls yX12_goDay yX12_goDay ∈ tb := ⟨tb_t 1621 (by decide +kernel) (by decide +kernel), tb_p 73 (by decide +kernel) (by decide +kernel)⟩
abbrev mX12_goThrough : Mt := (yX12_goThrough, cX12_goThrough, 4, none)
set_option maxRecDepth 100000 in
theorem kX12_goThrough : Cond.initialized (yX12_goThrough).cls ∈ tb ∧ Cond.code yX12_goThrough cX12_goThrough 4 none ∈ tb ∧ ((yX12_goThrough).cls ≠ "java/lang/invoke/MethodHandle" ∧ (yX12_goThrough).cls ≠ "java/lang/invoke/VarHandle" ∧ (parseMethodDescriptor (yX12_goThrough).desc).map (fun d => d.parameters.length) = some 3) ∧ 4 ≤ 21 := ⟨tb_t 14 (by decide +kernel) (by decide +kernel), tb_t 1447 rfl (by decide +kernel), ⟨by decide +kernel, by decide +kernel, by decide +kernel⟩, by decide⟩
theorem vX12_goThrough : Cond.instanceMethod yX12_goThrough ∈ tb ∧ Cond.selects (yX12_goThrough).cls yX12_goThrough yX12_goThrough ∈ tb := ⟨tb_t 1446 (by decide +kernel) (by decide +kernel), tb_p 47 (by decide +kernel) (by decide +kernel)⟩
abbrev mX12_goesIn : Mt := (yX12_goesIn, cX12_goesIn, 1, (some (.boolean)))
set_option maxRecDepth 100000 in
theorem kX12_goesIn : Cond.initialized (yX12_goesIn).cls ∈ tb ∧ Cond.code yX12_goesIn cX12_goesIn 1 (some (.boolean)) ∈ tb ∧ ((yX12_goesIn).cls ≠ "java/lang/invoke/MethodHandle" ∧ (yX12_goesIn).cls ≠ "java/lang/invoke/VarHandle" ∧ (parseMethodDescriptor (yX12_goesIn).desc).map (fun d => d.parameters.length) = some 0) ∧ 1 ≤ 21 := ⟨tb_t 14 (by decide +kernel) (by decide +kernel), tb_t 1486 rfl (by decide +kernel), ⟨by decide +kernel, by decide +kernel, by decide +kernel⟩, by decide⟩
theorem vX12_goesIn : Cond.instanceMethod yX12_goesIn ∈ tb ∧ Cond.selects (yX12_goesIn).cls yX12_goesIn yX12_goesIn ∈ tb := ⟨tb_t 1485 (by decide +kernel) (by decide +kernel), tb_p 56 (by decide +kernel) (by decide +kernel)⟩
abbrev mX12_has : Mt := (yX12_has, cX12_has, 2, (some (.boolean)))
set_option maxRecDepth 100000 in
theorem kX12_has : Cond.initialized (yX12_has).cls ∈ tb ∧ Cond.code yX12_has cX12_has 2 (some (.boolean)) ∈ tb ∧ ((yX12_has).cls ≠ "java/lang/invoke/MethodHandle" ∧ (yX12_has).cls ≠ "java/lang/invoke/VarHandle" ∧ (parseMethodDescriptor (yX12_has).desc).map (fun d => d.parameters.length) = some 2) ∧ 2 ≤ 21 := ⟨tb_t 14 (by decide +kernel) (by decide +kernel), tb_t 1419 rfl (by decide +kernel), ⟨by decide +kernel, by decide +kernel, by decide +kernel⟩, by decide⟩
theorem sX12_has : Cond.static yX12_has ∈ tb := tb_t 1418 (by decide +kernel) (by decide +kernel)
abbrev mX12_here : Mt := (yX12_here, cX12_here, 1, (some (.int)))
set_option maxRecDepth 100000 in
theorem kX12_here : Cond.initialized (yX12_here).cls ∈ tb ∧ Cond.code yX12_here cX12_here 1 (some (.int)) ∈ tb ∧ ((yX12_here).cls ≠ "java/lang/invoke/MethodHandle" ∧ (yX12_here).cls ≠ "java/lang/invoke/VarHandle" ∧ (parseMethodDescriptor (yX12_here).desc).map (fun d => d.parameters.length) = some 0) ∧ 1 ≤ 21 := ⟨tb_t 14 (by decide +kernel) (by decide +kernel), tb_t 1437 rfl (by decide +kernel), ⟨by decide +kernel, by decide +kernel, by decide +kernel⟩, by decide⟩
theorem vX12_here : Cond.instanceMethod yX12_here ∈ tb ∧ Cond.selects (yX12_here).cls yX12_here yX12_here ∈ tb := ⟨tb_t 1436 (by decide +kernel) (by decide +kernel), tb_p 45 (by decide +kernel) (by decide +kernel)⟩
abbrev mX12_highOf : Mt := (yX12_highOf, cX12_highOf, 5, (some (.int)))
set_option maxRecDepth 100000 in
theorem kX12_highOf : Cond.initialized (yX12_highOf).cls ∈ tb ∧ Cond.code yX12_highOf cX12_highOf 5 (some (.int)) ∈ tb ∧ ((yX12_highOf).cls ≠ "java/lang/invoke/MethodHandle" ∧ (yX12_highOf).cls ≠ "java/lang/invoke/VarHandle" ∧ (parseMethodDescriptor (yX12_highOf).desc).map (fun d => d.parameters.length) = some 2) ∧ 5 ≤ 21 := ⟨tb_t 14 (by decide +kernel) (by decide +kernel), tb_t 1563 rfl (by decide +kernel), ⟨by decide +kernel, by decide +kernel, by decide +kernel⟩, by decide⟩
theorem vX12_highOf : Cond.instanceMethod yX12_highOf ∈ tb ∧ Cond.selects (yX12_highOf).cls yX12_highOf yX12_highOf ∈ tb := ⟨tb_t 1562 (by decide +kernel) (by decide +kernel), tb_p 66 (by decide +kernel) (by decide +kernel)⟩
abbrev mX12_image : Mt := (yX12_image, cX12_image, 1, (some (.int)))
set_option maxRecDepth 100000 in
theorem kX12_image : Cond.initialized (yX12_image).cls ∈ tb ∧ Cond.code yX12_image cX12_image 1 (some (.int)) ∈ tb ∧ ((yX12_image).cls ≠ "java/lang/invoke/MethodHandle" ∧ (yX12_image).cls ≠ "java/lang/invoke/VarHandle" ∧ (parseMethodDescriptor (yX12_image).desc).map (fun d => d.parameters.length) = some 0) ∧ 1 ≤ 21 := ⟨tb_t 14 (by decide +kernel) (by decide +kernel), tb_t 1823 rfl (by decide +kernel), ⟨by decide +kernel, by decide +kernel, by decide +kernel⟩, by decide⟩
theorem vX12_image : Cond.instanceMethod yX12_image ∈ tb ∧ Cond.selects (yX12_image).cls yX12_image yX12_image ∈ tb := ⟨tb_t 1821 (by decide +kernel) (by decide +kernel), tb_t 1822 (by decide +kernel) (by decide +kernel)⟩
abbrev mX12_isAmong : Mt := (yX12_isAmong, cX12_isAmong, 3, (some (.boolean)))
set_option maxRecDepth 100000 in
theorem kX12_isAmong : Cond.initialized (yX12_isAmong).cls ∈ tb ∧ Cond.code yX12_isAmong cX12_isAmong 3 (some (.boolean)) ∈ tb ∧ ((yX12_isAmong).cls ≠ "java/lang/invoke/MethodHandle" ∧ (yX12_isAmong).cls ≠ "java/lang/invoke/VarHandle" ∧ (parseMethodDescriptor (yX12_isAmong).desc).map (fun d => d.parameters.length) = some 2) ∧ 3 ≤ 21 := ⟨tb_t 14 (by decide +kernel) (by decide +kernel), tb_t 1454 rfl (by decide +kernel), ⟨by decide +kernel, by decide +kernel, by decide +kernel⟩, by decide⟩
theorem sX12_isAmong : Cond.static yX12_isAmong ∈ tb := tb_t 1453 (by decide +kernel) (by decide +kernel)
abbrev mX12_isDigit : Mt := (yX12_isDigit, cX12_isDigit, 1, (some (.boolean)))
set_option maxRecDepth 100000 in
theorem kX12_isDigit : Cond.initialized (yX12_isDigit).cls ∈ tb ∧ Cond.code yX12_isDigit cX12_isDigit 1 (some (.boolean)) ∈ tb ∧ ((yX12_isDigit).cls ≠ "java/lang/invoke/MethodHandle" ∧ (yX12_isDigit).cls ≠ "java/lang/invoke/VarHandle" ∧ (parseMethodDescriptor (yX12_isDigit).desc).map (fun d => d.parameters.length) = some 0) ∧ 1 ≤ 21 := ⟨tb_t 14 (by decide +kernel) (by decide +kernel), tb_t 1433 rfl (by decide +kernel), ⟨by decide +kernel, by decide +kernel, by decide +kernel⟩, by decide⟩
theorem vX12_isDigit : Cond.instanceMethod yX12_isDigit ∈ tb ∧ Cond.selects (yX12_isDigit).cls yX12_isDigit yX12_isDigit ∈ tb := ⟨tb_t 1432 (by decide +kernel) (by decide +kernel), tb_p 44 (by decide +kernel) (by decide +kernel)⟩
abbrev mX12_isFeud : Mt := (yX12_isFeud, cX12_isFeud, 6, (some (.boolean)))
set_option maxRecDepth 100000 in
theorem kX12_isFeud : Cond.initialized (yX12_isFeud).cls ∈ tb ∧ Cond.code yX12_isFeud cX12_isFeud 6 (some (.boolean)) ∈ tb ∧ ((yX12_isFeud).cls ≠ "java/lang/invoke/MethodHandle" ∧ (yX12_isFeud).cls ≠ "java/lang/invoke/VarHandle" ∧ (parseMethodDescriptor (yX12_isFeud).desc).map (fun d => d.parameters.length) = some 5) ∧ 6 ≤ 21 := ⟨tb_t 14 (by decide +kernel) (by decide +kernel), tb_t 1779 rfl (by decide +kernel), ⟨by decide +kernel, by decide +kernel, by decide +kernel⟩, by decide⟩
theorem vX12_isFeud : Cond.instanceMethod yX12_isFeud ∈ tb ∧ Cond.selects (yX12_isFeud).cls yX12_isFeud yX12_isFeud ∈ tb := ⟨tb_t 1778 (by decide +kernel) (by decide +kernel), tb_p 88 (by decide +kernel) (by decide +kernel)⟩
abbrev mX12_isIn : Mt := (yX12_isIn, cX12_isIn, 6, (some (.boolean)))
set_option maxRecDepth 100000 in
theorem kX12_isIn : Cond.initialized (yX12_isIn).cls ∈ tb ∧ Cond.code yX12_isIn cX12_isIn 6 (some (.boolean)) ∈ tb ∧ ((yX12_isIn).cls ≠ "java/lang/invoke/MethodHandle" ∧ (yX12_isIn).cls ≠ "java/lang/invoke/VarHandle" ∧ (parseMethodDescriptor (yX12_isIn).desc).map (fun d => d.parameters.length) = some 3) ∧ 6 ≤ 21 := ⟨tb_t 14 (by decide +kernel) (by decide +kernel), tb_t 1364 rfl (by decide +kernel), ⟨by decide +kernel, by decide +kernel, by decide +kernel⟩, by decide⟩
theorem sX12_isIn : Cond.static yX12_isIn ∈ tb := tb_t 1363 (by decide +kernel) (by decide +kernel)
abbrev mX12_isPipe : Mt := (yX12_isPipe, cX12_isPipe, 2, (some (.boolean)))
set_option maxRecDepth 100000 in
theorem kX12_isPipe : Cond.initialized (yX12_isPipe).cls ∈ tb ∧ Cond.code yX12_isPipe cX12_isPipe 2 (some (.boolean)) ∈ tb ∧ ((yX12_isPipe).cls ≠ "java/lang/invoke/MethodHandle" ∧ (yX12_isPipe).cls ≠ "java/lang/invoke/VarHandle" ∧ (parseMethodDescriptor (yX12_isPipe).desc).map (fun d => d.parameters.length) = some 1) ∧ 2 ≤ 21 := ⟨tb_t 14 (by decide +kernel) (by decide +kernel), tb_t 1554 rfl (by decide +kernel), ⟨by decide +kernel, by decide +kernel, by decide +kernel⟩, by decide⟩
theorem vX12_isPipe : Cond.instanceMethod yX12_isPipe ∈ tb ∧ Cond.selects (yX12_isPipe).cls yX12_isPipe yX12_isPipe ∈ tb := ⟨tb_t 1553 (by decide +kernel) (by decide +kernel), tb_p 64 (by decide +kernel) (by decide +kernel)⟩
abbrev mX12_isPlan : Mt := (yX12_isPlan, cX12_isPlan, 2, (some (.boolean)))
set_option maxRecDepth 100000 in
theorem kX12_isPlan : Cond.initialized (yX12_isPlan).cls ∈ tb ∧ Cond.code yX12_isPlan cX12_isPlan 2 (some (.boolean)) ∈ tb ∧ ((yX12_isPlan).cls ≠ "java/lang/invoke/MethodHandle" ∧ (yX12_isPlan).cls ≠ "java/lang/invoke/VarHandle" ∧ (parseMethodDescriptor (yX12_isPlan).desc).map (fun d => d.parameters.length) = some 1) ∧ 2 ≤ 21 := ⟨tb_t 14 (by decide +kernel) (by decide +kernel), tb_t 1667 rfl (by decide +kernel), ⟨by decide +kernel, by decide +kernel, by decide +kernel⟩, by decide⟩
theorem vX12_isPlan : Cond.instanceMethod yX12_isPlan ∈ tb ∧ Cond.selects (yX12_isPlan).cls yX12_isPlan yX12_isPlan ∈ tb := ⟨tb_t 1666 (by decide +kernel) (by decide +kernel), tb_p 79 (by decide +kernel) (by decide +kernel)⟩
abbrev mX12_isPond : Mt := (yX12_isPond, cX12_isPond, 2, (some (.boolean)))
set_option maxRecDepth 100000 in
theorem kX12_isPond : Cond.initialized (yX12_isPond).cls ∈ tb ∧ Cond.code yX12_isPond cX12_isPond 2 (some (.boolean)) ∈ tb ∧ ((yX12_isPond).cls ≠ "java/lang/invoke/MethodHandle" ∧ (yX12_isPond).cls ≠ "java/lang/invoke/VarHandle" ∧ (parseMethodDescriptor (yX12_isPond).desc).map (fun d => d.parameters.length) = some 1) ∧ 2 ≤ 21 := ⟨tb_t 14 (by decide +kernel) (by decide +kernel), tb_t 1538 rfl (by decide +kernel), ⟨by decide +kernel, by decide +kernel, by decide +kernel⟩, by decide⟩
theorem vX12_isPond : Cond.instanceMethod yX12_isPond ∈ tb ∧ Cond.selects (yX12_isPond).cls yX12_isPond yX12_isPond ∈ tb := ⟨tb_t 1537 (by decide +kernel) (by decide +kernel), tb_p 62 (by decide +kernel) (by decide +kernel)⟩
abbrev mX12_isSign : Mt := (yX12_isSign, cX12_isSign, 1, (some (.boolean)))
set_option maxRecDepth 100000 in
theorem kX12_isSign : Cond.initialized (yX12_isSign).cls ∈ tb ∧ Cond.code yX12_isSign cX12_isSign 1 (some (.boolean)) ∈ tb ∧ ((yX12_isSign).cls ≠ "java/lang/invoke/MethodHandle" ∧ (yX12_isSign).cls ≠ "java/lang/invoke/VarHandle" ∧ (parseMethodDescriptor (yX12_isSign).desc).map (fun d => d.parameters.length) = some 1) ∧ 1 ≤ 21 := ⟨tb_t 14 (by decide +kernel) (by decide +kernel), tb_t 1500 rfl (by decide +kernel), ⟨by decide +kernel, by decide +kernel, by decide +kernel⟩, by decide⟩
theorem sX12_isSign : Cond.static yX12_isSign ∈ tb := tb_t 1499 (by decide +kernel) (by decide +kernel)
abbrev mX12_isWay : Mt := (yX12_isWay, cX12_isWay, 6, (some (.boolean)))
set_option maxRecDepth 100000 in
theorem kX12_isWay : Cond.initialized (yX12_isWay).cls ∈ tb ∧ Cond.code yX12_isWay cX12_isWay 6 (some (.boolean)) ∈ tb ∧ ((yX12_isWay).cls ≠ "java/lang/invoke/MethodHandle" ∧ (yX12_isWay).cls ≠ "java/lang/invoke/VarHandle" ∧ (parseMethodDescriptor (yX12_isWay).desc).map (fun d => d.parameters.length) = some 1) ∧ 6 ≤ 21 := ⟨tb_t 14 (by decide +kernel) (by decide +kernel), tb_t 1758 rfl (by decide +kernel), ⟨by decide +kernel, by decide +kernel, by decide +kernel⟩, by decide⟩
theorem vX12_isWay : Cond.instanceMethod yX12_isWay ∈ tb ∧ Cond.selects (yX12_isWay).cls yX12_isWay yX12_isWay ∈ tb := ⟨tb_t 1757 (by decide +kernel) (by decide +kernel), tb_p 87 (by decide +kernel) (by decide +kernel)⟩
abbrev mX12_isWhole : Mt := (yX12_isWhole, cX12_isWhole, 3, (some (.boolean)))
set_option maxRecDepth 100000 in
theorem kX12_isWhole : Cond.initialized (yX12_isWhole).cls ∈ tb ∧ Cond.code yX12_isWhole cX12_isWhole 3 (some (.boolean)) ∈ tb ∧ ((yX12_isWhole).cls ≠ "java/lang/invoke/MethodHandle" ∧ (yX12_isWhole).cls ≠ "java/lang/invoke/VarHandle" ∧ (parseMethodDescriptor (yX12_isWhole).desc).map (fun d => d.parameters.length) = some 0) ∧ 3 ≤ 21 := ⟨tb_t 14 (by decide +kernel) (by decide +kernel), tb_t 1443 rfl (by decide +kernel), ⟨by decide +kernel, by decide +kernel, by decide +kernel⟩, by decide⟩
theorem vX12_isWhole : Cond.instanceMethod yX12_isWhole ∈ tb ∧ Cond.selects (yX12_isWhole).cls yX12_isWhole yX12_isWhole ∈ tb := ⟨tb_t 1442 (by decide +kernel) (by decide +kernel), tb_p 46 (by decide +kernel) (by decide +kernel)⟩
abbrev mX12_joined : Mt := (yX12_joined, cX12_joined, 2, (some (.int)))
set_option maxRecDepth 100000 in
theorem kX12_joined : Cond.initialized (yX12_joined).cls ∈ tb ∧ Cond.code yX12_joined cX12_joined 2 (some (.int)) ∈ tb ∧ ((yX12_joined).cls ≠ "java/lang/invoke/MethodHandle" ∧ (yX12_joined).cls ≠ "java/lang/invoke/VarHandle" ∧ (parseMethodDescriptor (yX12_joined).desc).map (fun d => d.parameters.length) = some 1) ∧ 2 ≤ 21 := ⟨tb_t 14 (by decide +kernel) (by decide +kernel), tb_t 1737 rfl (by decide +kernel), ⟨by decide +kernel, by decide +kernel, by decide +kernel⟩, by decide⟩
theorem vX12_joined : Cond.instanceMethod yX12_joined ∈ tb ∧ Cond.selects (yX12_joined).cls yX12_joined yX12_joined ∈ tb := ⟨tb_t 1735 (by decide +kernel) (by decide +kernel), tb_t 1736 (by decide +kernel) (by decide +kernel)⟩
abbrev mX12_joinedBy : Mt := (yX12_joinedBy, cX12_joinedBy, 7, (some (.int)))
set_option maxRecDepth 100000 in
theorem kX12_joinedBy : Cond.initialized (yX12_joinedBy).cls ∈ tb ∧ Cond.code yX12_joinedBy cX12_joinedBy 7 (some (.int)) ∈ tb ∧ ((yX12_joinedBy).cls ≠ "java/lang/invoke/MethodHandle" ∧ (yX12_joinedBy).cls ≠ "java/lang/invoke/VarHandle" ∧ (parseMethodDescriptor (yX12_joinedBy).desc).map (fun d => d.parameters.length) = some 2) ∧ 7 ≤ 21 := ⟨tb_t 14 (by decide +kernel) (by decide +kernel), tb_t 1733 rfl (by decide +kernel), ⟨by decide +kernel, by decide +kernel, by decide +kernel⟩, by decide⟩
theorem vX12_joinedBy : Cond.instanceMethod yX12_joinedBy ∈ tb ∧ Cond.selects (yX12_joinedBy).cls yX12_joinedBy yX12_joinedBy ∈ tb := ⟨tb_t 1732 (by decide +kernel) (by decide +kernel), tb_p 85 (by decide +kernel) (by decide +kernel)⟩
abbrev mX12_keepsAll : Mt := (yX12_keepsAll, cX12_keepsAll, 4, (some (.boolean)))
set_option maxRecDepth 100000 in
theorem kX12_keepsAll : Cond.initialized (yX12_keepsAll).cls ∈ tb ∧ Cond.code yX12_keepsAll cX12_keepsAll 4 (some (.boolean)) ∈ tb ∧ ((yX12_keepsAll).cls ≠ "java/lang/invoke/MethodHandle" ∧ (yX12_keepsAll).cls ≠ "java/lang/invoke/VarHandle" ∧ (parseMethodDescriptor (yX12_keepsAll).desc).map (fun d => d.parameters.length) = some 2) ∧ 4 ≤ 21 := ⟨tb_t 14 (by decide +kernel) (by decide +kernel), tb_t 1717 rfl (by decide +kernel), ⟨by decide +kernel, by decide +kernel, by decide +kernel⟩, by decide⟩
theorem vX12_keepsAll : Cond.instanceMethod yX12_keepsAll ∈ tb ∧ Cond.selects (yX12_keepsAll).cls yX12_keepsAll yX12_keepsAll ∈ tb := ⟨tb_t 1716 (by decide +kernel) (by decide +kernel), tb_p 84 (by decide +kernel) (by decide +kernel)⟩
abbrev mX12_kept : Mt := (yX12_kept, cX12_kept, 7, (some (.int)))
set_option maxRecDepth 100000 in
theorem kX12_kept : Cond.initialized (yX12_kept).cls ∈ tb ∧ Cond.code yX12_kept cX12_kept 7 (some (.int)) ∈ tb ∧ ((yX12_kept).cls ≠ "java/lang/invoke/MethodHandle" ∧ (yX12_kept).cls ≠ "java/lang/invoke/VarHandle" ∧ (parseMethodDescriptor (yX12_kept).desc).map (fun d => d.parameters.length) = some 2) ∧ 7 ≤ 21 := ⟨tb_t 14 (by decide +kernel) (by decide +kernel), tb_t 1721 rfl (by decide +kernel), ⟨by decide +kernel, by decide +kernel, by decide +kernel⟩, by decide⟩
theorem vX12_kept : Cond.instanceMethod yX12_kept ∈ tb ∧ Cond.selects (yX12_kept).cls yX12_kept yX12_kept ∈ tb := ⟨tb_t 1719 (by decide +kernel) (by decide +kernel), tb_t 1720 (by decide +kernel) (by decide +kernel)⟩
abbrev mX12_key : Mt := (yX12_key, cX12_key, 3, (some (.boolean)))
set_option maxRecDepth 100000 in
theorem kX12_key : Cond.initialized (yX12_key).cls ∈ tb ∧ Cond.code yX12_key cX12_key 3 (some (.boolean)) ∈ tb ∧ ((yX12_key).cls ≠ "java/lang/invoke/MethodHandle" ∧ (yX12_key).cls ≠ "java/lang/invoke/VarHandle" ∧ (parseMethodDescriptor (yX12_key).desc).map (fun d => d.parameters.length) = some 2) ∧ 3 ≤ 21 := ⟨tb_t 14 (by decide +kernel) (by decide +kernel), tb_t 1590 rfl (by decide +kernel), ⟨by decide +kernel, by decide +kernel, by decide +kernel⟩, by decide⟩
theorem vX12_key : Cond.instanceMethod yX12_key ∈ tb ∧ Cond.selects (yX12_key).cls yX12_key yX12_key ∈ tb := ⟨tb_t 1588 (by decide +kernel) (by decide +kernel), tb_t 1589 (by decide +kernel) (by decide +kernel)⟩
abbrev mX12_keys : Mt := (yX12_keys, cX12_keys, 4, (some (.int)))
set_option maxRecDepth 100000 in
theorem kX12_keys : Cond.initialized (yX12_keys).cls ∈ tb ∧ Cond.code yX12_keys cX12_keys 4 (some (.int)) ∈ tb ∧ ((yX12_keys).cls ≠ "java/lang/invoke/MethodHandle" ∧ (yX12_keys).cls ≠ "java/lang/invoke/VarHandle" ∧ (parseMethodDescriptor (yX12_keys).desc).map (fun d => d.parameters.length) = some 1) ∧ 4 ≤ 21 := ⟨tb_t 14 (by decide +kernel) (by decide +kernel), tb_t 1712 rfl (by decide +kernel), ⟨by decide +kernel, by decide +kernel, by decide +kernel⟩, by decide⟩
theorem vX12_keys : Cond.instanceMethod yX12_keys ∈ tb ∧ Cond.selects (yX12_keys).cls yX12_keys yX12_keys ∈ tb := ⟨tb_t 1710 (by decide +kernel) (by decide +kernel), tb_t 1711 (by decide +kernel) (by decide +kernel)⟩
abbrev mX12_largest : Mt := (yX12_largest, cX12_largest, 5, (some (.int)))
set_option maxRecDepth 100000 in
theorem kX12_largest : Cond.initialized (yX12_largest).cls ∈ tb ∧ Cond.code yX12_largest cX12_largest 5 (some (.int)) ∈ tb ∧ ((yX12_largest).cls ≠ "java/lang/invoke/MethodHandle" ∧ (yX12_largest).cls ≠ "java/lang/invoke/VarHandle" ∧ (parseMethodDescriptor (yX12_largest).desc).map (fun d => d.parameters.length) = some 0) ∧ 5 ≤ 21 := ⟨tb_t 14 (by decide +kernel) (by decide +kernel), tb_t 1815 rfl (by decide +kernel), ⟨by decide +kernel, by decide +kernel, by decide +kernel⟩, by decide⟩
theorem vX12_largest : Cond.instanceMethod yX12_largest ∈ tb ∧ Cond.selects (yX12_largest).cls yX12_largest yX12_largest ∈ tb := ⟨tb_t 1813 (by decide +kernel) (by decide +kernel), tb_t 1814 (by decide +kernel) (by decide +kernel)⟩
abbrev mX12_law : Mt := (yX12_law, cX12_law, 2, (some (.boolean)))
set_option maxRecDepth 100000 in
theorem kX12_law : Cond.initialized (yX12_law).cls ∈ tb ∧ Cond.code yX12_law cX12_law 2 (some (.boolean)) ∈ tb ∧ ((yX12_law).cls ≠ "java/lang/invoke/MethodHandle" ∧ (yX12_law).cls ≠ "java/lang/invoke/VarHandle" ∧ (parseMethodDescriptor (yX12_law).desc).map (fun d => d.parameters.length) = some 1) ∧ 2 ≤ 21 := ⟨tb_t 14 (by decide +kernel) (by decide +kernel), tb_t 1581 rfl (by decide +kernel), ⟨by decide +kernel, by decide +kernel, by decide +kernel⟩, by decide⟩
theorem vX12_law : Cond.instanceMethod yX12_law ∈ tb ∧ Cond.selects (yX12_law).cls yX12_law yX12_law ∈ tb := ⟨tb_t 1579 (by decide +kernel) (by decide +kernel), tb_t 1580 (by decide +kernel) (by decide +kernel)⟩
abbrev mX12_lay : Mt := (yX12_lay, cX12_lay, 4, none)
set_option maxRecDepth 100000 in
theorem kX12_lay : Cond.initialized (yX12_lay).cls ∈ tb ∧ Cond.code yX12_lay cX12_lay 4 none ∈ tb ∧ ((yX12_lay).cls ≠ "java/lang/invoke/MethodHandle" ∧ (yX12_lay).cls ≠ "java/lang/invoke/VarHandle" ∧ (parseMethodDescriptor (yX12_lay).desc).map (fun d => d.parameters.length) = some 2) ∧ 4 ≤ 21 := ⟨tb_t 14 (by decide +kernel) (by decide +kernel), tb_t 1700 rfl (by decide +kernel), ⟨by decide +kernel, by decide +kernel, by decide +kernel⟩, by decide⟩
theorem vX12_lay : Cond.instanceMethod yX12_lay ∈ tb ∧ Cond.selects (yX12_lay).cls yX12_lay yX12_lay ∈ tb := ⟨tb_t 1699 (by decide +kernel) (by decide +kernel), tb_p 83 (by decide +kernel) (by decide +kernel)⟩
abbrev mX12_leastOf : Mt := (yX12_leastOf, cX12_leastOf, 2, (some (.int)))
set_option maxRecDepth 100000 in
theorem kX12_leastOf : Cond.initialized (yX12_leastOf).cls ∈ tb ∧ Cond.code yX12_leastOf cX12_leastOf 2 (some (.int)) ∈ tb ∧ ((yX12_leastOf).cls ≠ "java/lang/invoke/MethodHandle" ∧ (yX12_leastOf).cls ≠ "java/lang/invoke/VarHandle" ∧ (parseMethodDescriptor (yX12_leastOf).desc).map (fun d => d.parameters.length) = some 2) ∧ 2 ≤ 21 := ⟨tb_t 14 (by decide +kernel) (by decide +kernel), tb_t 1422 rfl (by decide +kernel), ⟨by decide +kernel, by decide +kernel, by decide +kernel⟩, by decide⟩
theorem sX12_leastOf : Cond.static yX12_leastOf ∈ tb := tb_t 1421 (by decide +kernel) (by decide +kernel)
abbrev mX12_level : Mt := (yX12_level, cX12_level, 3, (some (.int)))
set_option maxRecDepth 100000 in
theorem kX12_level : Cond.initialized (yX12_level).cls ∈ tb ∧ Cond.code yX12_level cX12_level 3 (some (.int)) ∈ tb ∧ ((yX12_level).cls ≠ "java/lang/invoke/MethodHandle" ∧ (yX12_level).cls ≠ "java/lang/invoke/VarHandle" ∧ (parseMethodDescriptor (yX12_level).desc).map (fun d => d.parameters.length) = some 2) ∧ 3 ≤ 21 := ⟨tb_t 14 (by decide +kernel) (by decide +kernel), tb_t 1546 rfl (by decide +kernel), ⟨by decide +kernel, by decide +kernel, by decide +kernel⟩, by decide⟩
theorem vX12_level : Cond.instanceMethod yX12_level ∈ tb ∧ Cond.selects (yX12_level).cls yX12_level yX12_level ∈ tb := ⟨tb_t 1545 (by decide +kernel) (by decide +kernel), tb_p 63 (by decide +kernel) (by decide +kernel)⟩
abbrev mX12_log : Mt := (yX12_log, cX12_log, 3, (some (.int)))
set_option maxRecDepth 100000 in
theorem kX12_log : Cond.initialized (yX12_log).cls ∈ tb ∧ Cond.code yX12_log cX12_log 3 (some (.int)) ∈ tb ∧ ((yX12_log).cls ≠ "java/lang/invoke/MethodHandle" ∧ (yX12_log).cls ≠ "java/lang/invoke/VarHandle" ∧ (parseMethodDescriptor (yX12_log).desc).map (fun d => d.parameters.length) = some 2) ∧ 3 ≤ 21 := ⟨tb_t 14 (by decide +kernel) (by decide +kernel), tb_t 1659 rfl (by decide +kernel), ⟨by decide +kernel, by decide +kernel, by decide +kernel⟩, by decide⟩
theorem vX12_log : Cond.instanceMethod yX12_log ∈ tb ∧ Cond.selects (yX12_log).cls yX12_log yX12_log ∈ tb := ⟨tb_t 1657 (by decide +kernel) (by decide +kernel), tb_t 1658 (by decide +kernel) (by decide +kernel)⟩
abbrev mX12_look : Mt := (yX12_look, cX12_look, 1, (some (.int)))
set_option maxRecDepth 100000 in
theorem kX12_look : Cond.initialized (yX12_look).cls ∈ tb ∧ Cond.code yX12_look cX12_look 1 (some (.int)) ∈ tb ∧ ((yX12_look).cls ≠ "java/lang/invoke/MethodHandle" ∧ (yX12_look).cls ≠ "java/lang/invoke/VarHandle" ∧ (parseMethodDescriptor (yX12_look).desc).map (fun d => d.parameters.length) = some 0) ∧ 1 ≤ 21 := ⟨tb_t 14 (by decide +kernel) (by decide +kernel), tb_t 1383 rfl (by decide +kernel), ⟨by decide +kernel, by decide +kernel, by decide +kernel⟩, by decide⟩
theorem vX12_look : Cond.instanceMethod yX12_look ∈ tb ∧ Cond.selects (yX12_look).cls yX12_look yX12_look ∈ tb := ⟨tb_t 1382 (by decide +kernel) (by decide +kernel), tb_p 40 (by decide +kernel) (by decide +kernel)⟩
abbrev mX12_mayPass : Mt := (yX12_mayPass, cX12_mayPass, 4, (some (.boolean)))
set_option maxRecDepth 100000 in
theorem kX12_mayPass : Cond.initialized (yX12_mayPass).cls ∈ tb ∧ Cond.code yX12_mayPass cX12_mayPass 4 (some (.boolean)) ∈ tb ∧ ((yX12_mayPass).cls ≠ "java/lang/invoke/MethodHandle" ∧ (yX12_mayPass).cls ≠ "java/lang/invoke/VarHandle" ∧ (parseMethodDescriptor (yX12_mayPass).desc).map (fun d => d.parameters.length) = some 3) ∧ 4 ≤ 21 := ⟨tb_t 14 (by decide +kernel) (by decide +kernel), tb_t 1618 rfl (by decide +kernel), ⟨by decide +kernel, by decide +kernel, by decide +kernel⟩, by decide⟩
theorem vX12_mayPass : Cond.instanceMethod yX12_mayPass ∈ tb ∧ Cond.selects (yX12_mayPass).cls yX12_mayPass yX12_mayPass ∈ tb := ⟨tb_t 1617 (by decide +kernel) (by decide +kernel), tb_p 72 (by decide +kernel) (by decide +kernel)⟩
abbrev mX12_measure : Mt := (yX12_measure, cX12_measure, 6, (some (.int)))
set_option maxRecDepth 100000 in
theorem kX12_measure : Cond.initialized (yX12_measure).cls ∈ tb ∧ Cond.code yX12_measure cX12_measure 6 (some (.int)) ∈ tb ∧ ((yX12_measure).cls ≠ "java/lang/invoke/MethodHandle" ∧ (yX12_measure).cls ≠ "java/lang/invoke/VarHandle" ∧ (parseMethodDescriptor (yX12_measure).desc).map (fun d => d.parameters.length) = some 0) ∧ 6 ≤ 21 := ⟨tb_t 14 (by decide +kernel) (by decide +kernel), tb_t 1765 rfl (by decide +kernel), ⟨by decide +kernel, by decide +kernel, by decide +kernel⟩, by decide⟩
theorem vX12_measure : Cond.instanceMethod yX12_measure ∈ tb ∧ Cond.selects (yX12_measure).cls yX12_measure yX12_measure ∈ tb := ⟨tb_t 1763 (by decide +kernel) (by decide +kernel), tb_t 1764 (by decide +kernel) (by decide +kernel)⟩
abbrev mX12_measured : Mt := (yX12_measured, cX12_measured, 3, (some (.int)))
set_option maxRecDepth 100000 in
theorem kX12_measured : Cond.initialized (yX12_measured).cls ∈ tb ∧ Cond.code yX12_measured cX12_measured 3 (some (.int)) ∈ tb ∧ ((yX12_measured).cls ≠ "java/lang/invoke/MethodHandle" ∧ (yX12_measured).cls ≠ "java/lang/invoke/VarHandle" ∧ (parseMethodDescriptor (yX12_measured).desc).map (fun d => d.parameters.length) = some 2) ∧ 3 ≤ 21 := ⟨tb_t 14 (by decide +kernel) (by decide +kernel), tb_t 1749 rfl (by decide +kernel), ⟨by decide +kernel, by decide +kernel, by decide +kernel⟩, by decide⟩
theorem vX12_measured : Cond.instanceMethod yX12_measured ∈ tb ∧ Cond.selects (yX12_measured).cls yX12_measured yX12_measured ∈ tb := ⟨tb_t 1747 (by decide +kernel) (by decide +kernel), tb_t 1748 (by decide +kernel) (by decide +kernel)⟩
abbrev mX12_moreBy : Mt := (yX12_moreBy, cX12_moreBy, 3, (some (.int)))
set_option maxRecDepth 100000 in
theorem kX12_moreBy : Cond.initialized (yX12_moreBy).cls ∈ tb ∧ Cond.code yX12_moreBy cX12_moreBy 3 (some (.int)) ∈ tb ∧ ((yX12_moreBy).cls ≠ "java/lang/invoke/MethodHandle" ∧ (yX12_moreBy).cls ≠ "java/lang/invoke/VarHandle" ∧ (parseMethodDescriptor (yX12_moreBy).desc).map (fun d => d.parameters.length) = some 2) ∧ 3 ≤ 21 := ⟨tb_t 14 (by decide +kernel) (by decide +kernel), tb_t 1761 rfl (by decide +kernel), ⟨by decide +kernel, by decide +kernel, by decide +kernel⟩, by decide⟩
theorem sX12_moreBy : Cond.static yX12_moreBy ∈ tb := tb_t 1760 (by decide +kernel) (by decide +kernel)
abbrev mX12_mostOf : Mt := (yX12_mostOf, cX12_mostOf, 2, (some (.int)))
set_option maxRecDepth 100000 in
theorem kX12_mostOf : Cond.initialized (yX12_mostOf).cls ∈ tb ∧ Cond.code yX12_mostOf cX12_mostOf 2 (some (.int)) ∈ tb ∧ ((yX12_mostOf).cls ≠ "java/lang/invoke/MethodHandle" ∧ (yX12_mostOf).cls ≠ "java/lang/invoke/VarHandle" ∧ (parseMethodDescriptor (yX12_mostOf).desc).map (fun d => d.parameters.length) = some 2) ∧ 2 ≤ 21 := ⟨tb_t 14 (by decide +kernel) (by decide +kernel), tb_t 1425 rfl (by decide +kernel), ⟨by decide +kernel, by decide +kernel, by decide +kernel⟩, by decide⟩
theorem sX12_mostOf : Cond.static yX12_mostOf ∈ tb := tb_t 1424 (by decide +kernel) (by decide +kernel)
abbrev mX12_number : Mt := (yX12_number, cX12_number, 5, (some (.int)))
set_option maxRecDepth 100000 in
theorem kX12_number : Cond.initialized (yX12_number).cls ∈ tb ∧ Cond.code yX12_number cX12_number 5 (some (.int)) ∈ tb ∧ ((yX12_number).cls ≠ "java/lang/invoke/MethodHandle" ∧ (yX12_number).cls ≠ "java/lang/invoke/VarHandle" ∧ (parseMethodDescriptor (yX12_number).desc).map (fun d => d.parameters.length) = some 2) ∧ 5 ≤ 21 := ⟨tb_t 14 (by decide +kernel) (by decide +kernel), tb_t 1429 rfl (by decide +kernel), ⟨by decide +kernel, by decide +kernel, by decide +kernel⟩, by decide⟩
theorem vX12_number : Cond.instanceMethod yX12_number ∈ tb ∧ Cond.selects (yX12_number).cls yX12_number yX12_number ∈ tb := ⟨tb_t 1428 (by decide +kernel) (by decide +kernel), tb_p 43 (by decide +kernel) (by decide +kernel)⟩
abbrev mX12_odds : Mt := (yX12_odds, cX12_odds, 3, (some (.boolean)))
set_option maxRecDepth 100000 in
theorem kX12_odds : Cond.initialized (yX12_odds).cls ∈ tb ∧ Cond.code yX12_odds cX12_odds 3 (some (.boolean)) ∈ tb ∧ ((yX12_odds).cls ≠ "java/lang/invoke/MethodHandle" ∧ (yX12_odds).cls ≠ "java/lang/invoke/VarHandle" ∧ (parseMethodDescriptor (yX12_odds).desc).map (fun d => d.parameters.length) = some 2) ∧ 3 ≤ 21 := ⟨tb_t 14 (by decide +kernel) (by decide +kernel), tb_t 1585 rfl (by decide +kernel), ⟨by decide +kernel, by decide +kernel, by decide +kernel⟩, by decide⟩
theorem vX12_odds : Cond.instanceMethod yX12_odds ∈ tb ∧ Cond.selects (yX12_odds).cls yX12_odds yX12_odds ∈ tb := ⟨tb_t 1583 (by decide +kernel) (by decide +kernel), tb_t 1584 (by decide +kernel) (by decide +kernel)⟩
abbrev mX12_otherOf : Mt := (yX12_otherOf, cX12_otherOf, 3, (some (.int)))
set_option maxRecDepth 100000 in
theorem kX12_otherOf : Cond.initialized (yX12_otherOf).cls ∈ tb ∧ Cond.code yX12_otherOf cX12_otherOf 3 (some (.int)) ∈ tb ∧ ((yX12_otherOf).cls ≠ "java/lang/invoke/MethodHandle" ∧ (yX12_otherOf).cls ≠ "java/lang/invoke/VarHandle" ∧ (parseMethodDescriptor (yX12_otherOf).desc).map (fun d => d.parameters.length) = some 2) ∧ 3 ≤ 21 := ⟨tb_t 14 (by decide +kernel) (by decide +kernel), tb_t 1567 rfl (by decide +kernel), ⟨by decide +kernel, by decide +kernel, by decide +kernel⟩, by decide⟩
theorem vX12_otherOf : Cond.instanceMethod yX12_otherOf ∈ tb ∧ Cond.selects (yX12_otherOf).cls yX12_otherOf yX12_otherOf ∈ tb := ⟨tb_t 1566 (by decide +kernel) (by decide +kernel), tb_p 67 (by decide +kernel) (by decide +kernel)⟩
abbrev mX12_part : Mt := (yX12_part, cX12_part, 5, (some (.boolean)))
set_option maxRecDepth 100000 in
theorem kX12_part : Cond.initialized (yX12_part).cls ∈ tb ∧ Cond.code yX12_part cX12_part 5 (some (.boolean)) ∈ tb ∧ ((yX12_part).cls ≠ "java/lang/invoke/MethodHandle" ∧ (yX12_part).cls ≠ "java/lang/invoke/VarHandle" ∧ (parseMethodDescriptor (yX12_part).desc).map (fun d => d.parameters.length) = some 2) ∧ 5 ≤ 21 := ⟨tb_t 14 (by decide +kernel) (by decide +kernel), tb_t 1466 rfl (by decide +kernel), ⟨by decide +kernel, by decide +kernel, by decide +kernel⟩, by decide⟩
theorem vX12_part : Cond.instanceMethod yX12_part ∈ tb ∧ Cond.selects (yX12_part).cls yX12_part yX12_part ∈ tb := ⟨tb_t 1465 (by decide +kernel) (by decide +kernel), tb_p 51 (by decide +kernel) (by decide +kernel)⟩
abbrev mX12_perform : Mt := (yX12_perform, cX12_perform, 3, (some (.int)))
set_option maxRecDepth 100000 in
theorem kX12_perform : Cond.initialized (yX12_perform).cls ∈ tb ∧ Cond.code yX12_perform cX12_perform 3 (some (.int)) ∈ tb ∧ ((yX12_perform).cls ≠ "java/lang/invoke/MethodHandle" ∧ (yX12_perform).cls ≠ "java/lang/invoke/VarHandle" ∧ (parseMethodDescriptor (yX12_perform).desc).map (fun d => d.parameters.length) = some 1) ∧ 3 ≤ 21 := ⟨tb_t 14 (by decide +kernel) (by decide +kernel), tb_t 1687 rfl (by decide +kernel), ⟨by decide +kernel, by decide +kernel, by decide +kernel⟩, by decide⟩
theorem vX12_perform : Cond.instanceMethod yX12_perform ∈ tb ∧ Cond.selects (yX12_perform).cls yX12_perform yX12_perform ∈ tb := ⟨tb_t 1685 (by decide +kernel) (by decide +kernel), tb_t 1686 (by decide +kernel) (by decide +kernel)⟩
abbrev mX12_performs : Mt := (yX12_performs, cX12_performs, 3, none)
set_option maxRecDepth 100000 in
theorem kX12_performs : Cond.initialized (yX12_performs).cls ∈ tb ∧ Cond.code yX12_performs cX12_performs 3 none ∈ tb ∧ ((yX12_performs).cls ≠ "java/lang/invoke/MethodHandle" ∧ (yX12_performs).cls ≠ "java/lang/invoke/VarHandle" ∧ (parseMethodDescriptor (yX12_performs).desc).map (fun d => d.parameters.length) = some 1) ∧ 3 ≤ 21 := ⟨tb_t 14 (by decide +kernel) (by decide +kernel), tb_t 1691 rfl (by decide +kernel), ⟨by decide +kernel, by decide +kernel, by decide +kernel⟩, by decide⟩
theorem vX12_performs : Cond.instanceMethod yX12_performs ∈ tb ∧ Cond.selects (yX12_performs).cls yX12_performs yX12_performs ∈ tb := ⟨tb_t 1690 (by decide +kernel) (by decide +kernel), tb_p 82 (by decide +kernel) (by decide +kernel)⟩
abbrev mX12_pipe : Mt := (yX12_pipe, cX12_pipe, 3, (some (.int)))
set_option maxRecDepth 100000 in
theorem kX12_pipe : Cond.initialized (yX12_pipe).cls ∈ tb ∧ Cond.code yX12_pipe cX12_pipe 3 (some (.int)) ∈ tb ∧ ((yX12_pipe).cls ≠ "java/lang/invoke/MethodHandle" ∧ (yX12_pipe).cls ≠ "java/lang/invoke/VarHandle" ∧ (parseMethodDescriptor (yX12_pipe).desc).map (fun d => d.parameters.length) = some 2) ∧ 3 ≤ 21 := ⟨tb_t 14 (by decide +kernel) (by decide +kernel), tb_t 1550 rfl (by decide +kernel), ⟨by decide +kernel, by decide +kernel, by decide +kernel⟩, by decide⟩
theorem vX12_pipe : Cond.instanceMethod yX12_pipe ∈ tb ∧ Cond.selects (yX12_pipe).cls yX12_pipe yX12_pipe ∈ tb := ⟨tb_t 1548 (by decide +kernel) (by decide +kernel), tb_t 1549 (by decide +kernel) (by decide +kernel)⟩
abbrev mX12_pond : Mt := (yX12_pond, cX12_pond, 3, (some (.int)))
set_option maxRecDepth 100000 in
theorem kX12_pond : Cond.initialized (yX12_pond).cls ∈ tb ∧ Cond.code yX12_pond cX12_pond 3 (some (.int)) ∈ tb ∧ ((yX12_pond).cls ≠ "java/lang/invoke/MethodHandle" ∧ (yX12_pond).cls ≠ "java/lang/invoke/VarHandle" ∧ (parseMethodDescriptor (yX12_pond).desc).map (fun d => d.parameters.length) = some 2) ∧ 3 ≤ 21 := ⟨tb_t 14 (by decide +kernel) (by decide +kernel), tb_t 1534 rfl (by decide +kernel), ⟨by decide +kernel, by decide +kernel, by decide +kernel⟩, by decide⟩
theorem vX12_pond : Cond.instanceMethod yX12_pond ∈ tb ∧ Cond.selects (yX12_pond).cls yX12_pond yX12_pond ∈ tb := ⟨tb_t 1532 (by decide +kernel) (by decide +kernel), tb_t 1533 (by decide +kernel) (by decide +kernel)⟩
abbrev mX12_pour : Mt := (yX12_pour, cX12_pour, 3, (some (.int)))
set_option maxRecDepth 100000 in
theorem kX12_pour : Cond.initialized (yX12_pour).cls ∈ tb ∧ Cond.code yX12_pour cX12_pour 3 (some (.int)) ∈ tb ∧ ((yX12_pour).cls ≠ "java/lang/invoke/MethodHandle" ∧ (yX12_pour).cls ≠ "java/lang/invoke/VarHandle" ∧ (parseMethodDescriptor (yX12_pour).desc).map (fun d => d.parameters.length) = some 2) ∧ 3 ≤ 21 := ⟨tb_t 14 (by decide +kernel) (by decide +kernel), tb_t 1602 rfl (by decide +kernel), ⟨by decide +kernel, by decide +kernel, by decide +kernel⟩, by decide⟩
theorem vX12_pour : Cond.instanceMethod yX12_pour ∈ tb ∧ Cond.selects (yX12_pour).cls yX12_pour yX12_pour ∈ tb := ⟨tb_t 1600 (by decide +kernel) (by decide +kernel), tb_t 1601 (by decide +kernel) (by decide +kernel)⟩
abbrev mX12_put : Mt := (yX12_put, cX12_put, 3, none)
set_option maxRecDepth 100000 in
theorem kX12_put : Cond.initialized (yX12_put).cls ∈ tb ∧ Cond.code yX12_put cX12_put 3 none ∈ tb ∧ ((yX12_put).cls ≠ "java/lang/invoke/MethodHandle" ∧ (yX12_put).cls ≠ "java/lang/invoke/VarHandle" ∧ (parseMethodDescriptor (yX12_put).desc).map (fun d => d.parameters.length) = some 1) ∧ 3 ≤ 21 := ⟨tb_t 14 (by decide +kernel) (by decide +kernel), tb_t 1352 rfl (by decide +kernel), ⟨by decide +kernel, by decide +kernel, by decide +kernel⟩, by decide⟩
theorem vX12_put : Cond.instanceMethod yX12_put ∈ tb ∧ Cond.selects (yX12_put).cls yX12_put yX12_put ∈ tb := ⟨tb_t 1351 (by decide +kernel) (by decide +kernel), tb_p 36 (by decide +kernel) (by decide +kernel)⟩
abbrev mX12_readClause : Mt := (yX12_readClause, cX12_readClause, 3, none)
set_option maxRecDepth 100000 in
theorem kX12_readClause : Cond.initialized (yX12_readClause).cls ∈ tb ∧ Cond.code yX12_readClause cX12_readClause 3 none ∈ tb ∧ ((yX12_readClause).cls ≠ "java/lang/invoke/MethodHandle" ∧ (yX12_readClause).cls ≠ "java/lang/invoke/VarHandle" ∧ (parseMethodDescriptor (yX12_readClause).desc).map (fun d => d.parameters.length) = some 0) ∧ 3 ≤ 21 := ⟨tb_t 14 (by decide +kernel) (by decide +kernel), tb_t 1379 rfl (by decide +kernel), ⟨by decide +kernel, by decide +kernel, by decide +kernel⟩, by decide⟩
theorem vX12_readClause : Cond.instanceMethod yX12_readClause ∈ tb ∧ Cond.selects (yX12_readClause).cls yX12_readClause yX12_readClause ∈ tb := ⟨tb_t 1378 (by decide +kernel) (by decide +kernel), tb_p 39 (by decide +kernel) (by decide +kernel)⟩
abbrev mX12_readItems : Mt := (yX12_readItems, cX12_readItems, 7, none)
set_option maxRecDepth 100000 in
theorem kX12_readItems : Cond.initialized (yX12_readItems).cls ∈ tb ∧ Cond.code yX12_readItems cX12_readItems 7 none ∈ tb ∧ ((yX12_readItems).cls ≠ "java/lang/invoke/MethodHandle" ∧ (yX12_readItems).cls ≠ "java/lang/invoke/VarHandle" ∧ (parseMethodDescriptor (yX12_readItems).desc).map (fun d => d.parameters.length) = some 4) ∧ 7 ≤ 21 := ⟨tb_t 14 (by decide +kernel) (by decide +kernel), tb_t 1392 rfl (by decide +kernel), ⟨by decide +kernel, by decide +kernel, by decide +kernel⟩, by decide⟩
theorem vX12_readItems : Cond.instanceMethod yX12_readItems ∈ tb ∧ Cond.selects (yX12_readItems).cls yX12_readItems yX12_readItems ∈ tb := ⟨tb_t 1391 (by decide +kernel) (by decide +kernel), tb_p 42 (by decide +kernel) (by decide +kernel)⟩
abbrev mX12_readPlan : Mt := (yX12_readPlan, cX12_readPlan, 3, none)
set_option maxRecDepth 100000 in
theorem kX12_readPlan : Cond.initialized (yX12_readPlan).cls ∈ tb ∧ Cond.code yX12_readPlan cX12_readPlan 3 none ∈ tb ∧ ((yX12_readPlan).cls ≠ "java/lang/invoke/MethodHandle" ∧ (yX12_readPlan).cls ≠ "java/lang/invoke/VarHandle" ∧ (parseMethodDescriptor (yX12_readPlan).desc).map (fun d => d.parameters.length) = some 0) ∧ 3 ≤ 21 := ⟨tb_t 14 (by decide +kernel) (by decide +kernel), tb_t 1508 rfl (by decide +kernel), ⟨by decide +kernel, by decide +kernel, by decide +kernel⟩, by decide⟩
theorem vX12_readPlan : Cond.instanceMethod yX12_readPlan ∈ tb ∧ Cond.selects (yX12_readPlan).cls yX12_readPlan yX12_readPlan ∈ tb := ⟨tb_t 1507 (by decide +kernel) (by decide +kernel), tb_p 58 (by decide +kernel) (by decide +kernel)⟩
abbrev mX12_readStep : Mt := (yX12_readStep, cX12_readStep, 3, none)
set_option maxRecDepth 100000 in
theorem kX12_readStep : Cond.initialized (yX12_readStep).cls ∈ tb ∧ Cond.code yX12_readStep cX12_readStep 3 none ∈ tb ∧ ((yX12_readStep).cls ≠ "java/lang/invoke/MethodHandle" ∧ (yX12_readStep).cls ≠ "java/lang/invoke/VarHandle" ∧ (parseMethodDescriptor (yX12_readStep).desc).map (fun d => d.parameters.length) = some 1) ∧ 3 ≤ 21 := ⟨tb_t 14 (by decide +kernel) (by decide +kernel), tb_t 1512 rfl (by decide +kernel), ⟨by decide +kernel, by decide +kernel, by decide +kernel⟩, by decide⟩
theorem vX12_readStep : Cond.instanceMethod yX12_readStep ∈ tb ∧ Cond.selects (yX12_readStep).cls yX12_readStep yX12_readStep ∈ tb := ⟨tb_t 1511 (by decide +kernel) (by decide +kernel), tb_p 59 (by decide +kernel) (by decide +kernel)⟩
abbrev mX12_readTown : Mt := (yX12_readTown, cX12_readTown, 2, none)
set_option maxRecDepth 100000 in
theorem kX12_readTown : Cond.initialized (yX12_readTown).cls ∈ tb ∧ Cond.code yX12_readTown cX12_readTown 2 none ∈ tb ∧ ((yX12_readTown).cls ≠ "java/lang/invoke/MethodHandle" ∧ (yX12_readTown).cls ≠ "java/lang/invoke/VarHandle" ∧ (parseMethodDescriptor (yX12_readTown).desc).map (fun d => d.parameters.length) = some 0) ∧ 2 ≤ 21 := ⟨tb_t 14 (by decide +kernel) (by decide +kernel), tb_t 1368 rfl (by decide +kernel), ⟨by decide +kernel, by decide +kernel, by decide +kernel⟩, by decide⟩
theorem vX12_readTown : Cond.instanceMethod yX12_readTown ∈ tb ∧ Cond.selects (yX12_readTown).cls yX12_readTown yX12_readTown ∈ tb := ⟨tb_t 1367 (by decide +kernel) (by decide +kernel), tb_p 37 (by decide +kernel) (by decide +kernel)⟩
abbrev mX12_reads : Mt := (yX12_reads, cX12_reads, 4, (some (.int)))
set_option maxRecDepth 100000 in
theorem kX12_reads : Cond.initialized (yX12_reads).cls ∈ tb ∧ Cond.code yX12_reads cX12_reads 4 (some (.int)) ∈ tb ∧ ((yX12_reads).cls ≠ "java/lang/invoke/MethodHandle" ∧ (yX12_reads).cls ≠ "java/lang/invoke/VarHandle" ∧ (parseMethodDescriptor (yX12_reads).desc).map (fun d => d.parameters.length) = some 1) ∧ 4 ≤ 21 := ⟨tb_t 14 (by decide +kernel) (by decide +kernel), tb_t 1791 rfl (by decide +kernel), ⟨by decide +kernel, by decide +kernel, by decide +kernel⟩, by decide⟩
theorem vX12_reads : Cond.instanceMethod yX12_reads ∈ tb ∧ Cond.selects (yX12_reads).cls yX12_reads yX12_reads ∈ tb := ⟨tb_t 1789 (by decide +kernel) (by decide +kernel), tb_t 1790 (by decide +kernel) (by decide +kernel)⟩
abbrev mX12_remember : Mt := (yX12_remember, cX12_remember, 2, none)
set_option maxRecDepth 100000 in
theorem kX12_remember : Cond.initialized (yX12_remember).cls ∈ tb ∧ Cond.code yX12_remember cX12_remember 2 none ∈ tb ∧ ((yX12_remember).cls ≠ "java/lang/invoke/MethodHandle" ∧ (yX12_remember).cls ≠ "java/lang/invoke/VarHandle" ∧ (parseMethodDescriptor (yX12_remember).desc).map (fun d => d.parameters.length) = some 0) ∧ 2 ≤ 21 := ⟨tb_t 14 (by decide +kernel) (by decide +kernel), tb_t 1598 rfl (by decide +kernel), ⟨by decide +kernel, by decide +kernel, by decide +kernel⟩, by decide⟩
theorem vX12_remember : Cond.instanceMethod yX12_remember ∈ tb ∧ Cond.selects (yX12_remember).cls yX12_remember yX12_remember ∈ tb := ⟨tb_t 1597 (by decide +kernel) (by decide +kernel), tb_p 70 (by decide +kernel) (by decide +kernel)⟩
abbrev mX12_rent : Mt := (yX12_rent, cX12_rent, 4, (some (.int)))
set_option maxRecDepth 100000 in
theorem kX12_rent : Cond.initialized (yX12_rent).cls ∈ tb ∧ Cond.code yX12_rent cX12_rent 4 (some (.int)) ∈ tb ∧ ((yX12_rent).cls ≠ "java/lang/invoke/MethodHandle" ∧ (yX12_rent).cls ≠ "java/lang/invoke/VarHandle" ∧ (parseMethodDescriptor (yX12_rent).desc).map (fun d => d.parameters.length) = some 1) ∧ 4 ≤ 21 := ⟨tb_t 14 (by decide +kernel) (by decide +kernel), tb_t 1799 rfl (by decide +kernel), ⟨by decide +kernel, by decide +kernel, by decide +kernel⟩, by decide⟩
theorem vX12_rent : Cond.instanceMethod yX12_rent ∈ tb ∧ Cond.selects (yX12_rent).cls yX12_rent yX12_rent ∈ tb := ⟨tb_t 1797 (by decide +kernel) (by decide +kernel), tb_t 1798 (by decide +kernel) (by decide +kernel)⟩
abbrev mX12_rest : Mt := (yX12_rest, cX12_rest, 7, (some (.int)))
set_option maxRecDepth 100000 in
theorem kX12_rest : Cond.initialized (yX12_rest).cls ∈ tb ∧ Cond.code yX12_rest cX12_rest 7 (some (.int)) ∈ tb ∧ ((yX12_rest).cls ≠ "java/lang/invoke/MethodHandle" ∧ (yX12_rest).cls ≠ "java/lang/invoke/VarHandle" ∧ (parseMethodDescriptor (yX12_rest).desc).map (fun d => d.parameters.length) = some 1) ∧ 7 ≤ 21 := ⟨tb_t 14 (by decide +kernel) (by decide +kernel), tb_t 1729 rfl (by decide +kernel), ⟨by decide +kernel, by decide +kernel, by decide +kernel⟩, by decide⟩
theorem vX12_rest : Cond.instanceMethod yX12_rest ∈ tb ∧ Cond.selects (yX12_rest).cls yX12_rest yX12_rest ∈ tb := ⟨tb_t 1727 (by decide +kernel) (by decide +kernel), tb_t 1728 (by decide +kernel) (by decide +kernel)⟩
abbrev mX12_rests : Mt := (yX12_rests, cX12_rests, 12, (some (.int)))
set_option maxRecDepth 100000 in
theorem kX12_rests : Cond.initialized (yX12_rests).cls ∈ tb ∧ Cond.code yX12_rests cX12_rests 12 (some (.int)) ∈ tb ∧ ((yX12_rests).cls ≠ "java/lang/invoke/MethodHandle" ∧ (yX12_rests).cls ≠ "java/lang/invoke/VarHandle" ∧ (parseMethodDescriptor (yX12_rests).desc).map (fun d => d.parameters.length) = some 6) ∧ 12 ≤ 21 := ⟨tb_t 14 (by decide +kernel) (by decide +kernel), tb_t 1787 rfl (by decide +kernel), ⟨by decide +kernel, by decide +kernel, by decide +kernel⟩, by decide⟩
theorem vX12_rests : Cond.instanceMethod yX12_rests ∈ tb ∧ Cond.selects (yX12_rests).cls yX12_rests yX12_rests ∈ tb := ⟨tb_t 1785 (by decide +kernel) (by decide +kernel), tb_t 1786 (by decide +kernel) (by decide +kernel)⟩
abbrev mX12_run : Mt := (yX12_run, cX12_run, 4, (some (.int)))
set_option maxRecDepth 100000 in
theorem kX12_run : Cond.initialized (yX12_run).cls ∈ tb ∧ Cond.code yX12_run cX12_run 4 (some (.int)) ∈ tb ∧ ((yX12_run).cls ≠ "java/lang/invoke/MethodHandle" ∧ (yX12_run).cls ≠ "java/lang/invoke/VarHandle" ∧ (parseMethodDescriptor (yX12_run).desc).map (fun d => d.parameters.length) = some 2) ∧ 4 ≤ 21 := ⟨tb_t 14 (by decide +kernel) (by decide +kernel), tb_t 1672 rfl (by decide +kernel), ⟨by decide +kernel, by decide +kernel, by decide +kernel⟩, by decide⟩
theorem vX12_run : Cond.instanceMethod yX12_run ∈ tb ∧ Cond.selects (yX12_run).cls yX12_run yX12_run ∈ tb := ⟨tb_t 1670 (by decide +kernel) (by decide +kernel), tb_t 1671 (by decide +kernel) (by decide +kernel)⟩
abbrev mX12_secret : Mt := (yX12_secret, cX12_secret, 4, (some (.int)))
set_option maxRecDepth 100000 in
theorem kX12_secret : Cond.initialized (yX12_secret).cls ∈ tb ∧ Cond.code yX12_secret cX12_secret 4 (some (.int)) ∈ tb ∧ ((yX12_secret).cls ≠ "java/lang/invoke/MethodHandle" ∧ (yX12_secret).cls ≠ "java/lang/invoke/VarHandle" ∧ (parseMethodDescriptor (yX12_secret).desc).map (fun d => d.parameters.length) = some 1) ∧ 4 ≤ 21 := ⟨tb_t 14 (by decide +kernel) (by decide +kernel), tb_t 1754 rfl (by decide +kernel), ⟨by decide +kernel, by decide +kernel, by decide +kernel⟩, by decide⟩
theorem vX12_secret : Cond.instanceMethod yX12_secret ∈ tb ∧ Cond.selects (yX12_secret).cls yX12_secret yX12_secret ∈ tb := ⟨tb_t 1752 (by decide +kernel) (by decide +kernel), tb_t 1753 (by decide +kernel) (by decide +kernel)⟩
abbrev mX12_shares : Mt := (yX12_shares, cX12_shares, 3, (some (.int)))
set_option maxRecDepth 100000 in
theorem kX12_shares : Cond.initialized (yX12_shares).cls ∈ tb ∧ Cond.code yX12_shares cX12_shares 3 (some (.int)) ∈ tb ∧ ((yX12_shares).cls ≠ "java/lang/invoke/MethodHandle" ∧ (yX12_shares).cls ≠ "java/lang/invoke/VarHandle" ∧ (parseMethodDescriptor (yX12_shares).desc).map (fun d => d.parameters.length) = some 0) ∧ 3 ≤ 21 := ⟨tb_t 14 (by decide +kernel) (by decide +kernel), tb_t 1807 rfl (by decide +kernel), ⟨by decide +kernel, by decide +kernel, by decide +kernel⟩, by decide⟩
theorem vX12_shares : Cond.instanceMethod yX12_shares ∈ tb ∧ Cond.selects (yX12_shares).cls yX12_shares yX12_shares ∈ tb := ⟨tb_t 1805 (by decide +kernel) (by decide +kernel), tb_t 1806 (by decide +kernel) (by decide +kernel)⟩
abbrev mX12_sky : Mt := (yX12_sky, cX12_sky, 2, (some (.int)))
set_option maxRecDepth 100000 in
theorem kX12_sky : Cond.initialized (yX12_sky).cls ∈ tb ∧ Cond.code yX12_sky cX12_sky 2 (some (.int)) ∈ tb ∧ ((yX12_sky).cls ≠ "java/lang/invoke/MethodHandle" ∧ (yX12_sky).cls ≠ "java/lang/invoke/VarHandle" ∧ (parseMethodDescriptor (yX12_sky).desc).map (fun d => d.parameters.length) = some 1) ∧ 2 ≤ 21 := ⟨tb_t 14 (by decide +kernel) (by decide +kernel), tb_t 1530 rfl (by decide +kernel), ⟨by decide +kernel, by decide +kernel, by decide +kernel⟩, by decide⟩
theorem vX12_sky : Cond.instanceMethod yX12_sky ∈ tb ∧ Cond.selects (yX12_sky).cls yX12_sky yX12_sky ∈ tb := ⟨tb_t 1528 (by decide +kernel) (by decide +kernel), tb_t 1529 (by decide +kernel) (by decide +kernel)⟩
abbrev mX12_spotOf : Mt := (yX12_spotOf, cX12_spotOf, 3, (some (.int)))
set_option maxRecDepth 100000 in
theorem kX12_spotOf : Cond.initialized (yX12_spotOf).cls ∈ tb ∧ Cond.code yX12_spotOf cX12_spotOf 3 (some (.int)) ∈ tb ∧ ((yX12_spotOf).cls ≠ "java/lang/invoke/MethodHandle" ∧ (yX12_spotOf).cls ≠ "java/lang/invoke/VarHandle" ∧ (parseMethodDescriptor (yX12_spotOf).desc).map (fun d => d.parameters.length) = some 2) ∧ 3 ≤ 21 := ⟨tb_t 14 (by decide +kernel) (by decide +kernel), tb_t 1396 rfl (by decide +kernel), ⟨by decide +kernel, by decide +kernel, by decide +kernel⟩, by decide⟩
theorem sX12_spotOf : Cond.static yX12_spotOf ∈ tb := tb_t 1395 (by decide +kernel) (by decide +kernel)
abbrev mX12_starts : Mt := (yX12_starts, cX12_starts, 4, none)
set_option maxRecDepth 100000 in
theorem kX12_starts : Cond.initialized (yX12_starts).cls ∈ tb ∧ Cond.code yX12_starts cX12_starts 4 none ∈ tb ∧ ((yX12_starts).cls ≠ "java/lang/invoke/MethodHandle" ∧ (yX12_starts).cls ≠ "java/lang/invoke/VarHandle" ∧ (parseMethodDescriptor (yX12_starts).desc).map (fun d => d.parameters.length) = some 3) ∧ 4 ≤ 21 := ⟨tb_t 14 (by decide +kernel) (by decide +kernel), tb_t 1372 rfl (by decide +kernel), ⟨by decide +kernel, by decide +kernel, by decide +kernel⟩, by decide⟩
theorem vX12_starts : Cond.instanceMethod yX12_starts ∈ tb ∧ Cond.selects (yX12_starts).cls yX12_starts yX12_starts ∈ tb := ⟨tb_t 1371 (by decide +kernel) (by decide +kernel), tb_p 38 (by decide +kernel) (by decide +kernel)⟩
abbrev mX12_step : Mt := (yX12_step, cX12_step, 4, (some (.int)))
set_option maxRecDepth 100000 in
theorem kX12_step : Cond.initialized (yX12_step).cls ∈ tb ∧ Cond.code yX12_step cX12_step 4 (some (.int)) ∈ tb ∧ ((yX12_step).cls ≠ "java/lang/invoke/MethodHandle" ∧ (yX12_step).cls ≠ "java/lang/invoke/VarHandle" ∧ (parseMethodDescriptor (yX12_step).desc).map (fun d => d.parameters.length) = some 3) ∧ 4 ≤ 21 := ⟨tb_t 14 (by decide +kernel) (by decide +kernel), tb_t 1663 rfl (by decide +kernel), ⟨by decide +kernel, by decide +kernel, by decide +kernel⟩, by decide⟩
theorem vX12_step : Cond.instanceMethod yX12_step ∈ tb ∧ Cond.selects (yX12_step).cls yX12_step yX12_step ∈ tb := ⟨tb_t 1661 (by decide +kernel) (by decide +kernel), tb_t 1662 (by decide +kernel) (by decide +kernel)⟩
abbrev mX12_steps : Mt := (yX12_steps, cX12_steps, 5, none)
set_option maxRecDepth 100000 in
theorem kX12_steps : Cond.initialized (yX12_steps).cls ∈ tb ∧ Cond.code yX12_steps cX12_steps 5 none ∈ tb ∧ ((yX12_steps).cls ≠ "java/lang/invoke/MethodHandle" ∧ (yX12_steps).cls ≠ "java/lang/invoke/VarHandle" ∧ (parseMethodDescriptor (yX12_steps).desc).map (fun d => d.parameters.length) = some 2) ∧ 5 ≤ 21 := ⟨tb_t 14 (by decide +kernel) (by decide +kernel), tb_t 1683 rfl (by decide +kernel), ⟨by decide +kernel, by decide +kernel, by decide +kernel⟩, by decide⟩
theorem vX12_steps : Cond.instanceMethod yX12_steps ∈ tb ∧ Cond.selects (yX12_steps).cls yX12_steps yX12_steps ∈ tb := ⟨tb_t 1682 (by decide +kernel) (by decide +kernel), tb_p 81 (by decide +kernel) (by decide +kernel)⟩
abbrev mX12_stock : Mt := (yX12_stock, cX12_stock, 5, (some (.int)))
set_option maxRecDepth 100000 in
theorem kX12_stock : Cond.initialized (yX12_stock).cls ∈ tb ∧ Cond.code yX12_stock cX12_stock 5 (some (.int)) ∈ tb ∧ ((yX12_stock).cls ≠ "java/lang/invoke/MethodHandle" ∧ (yX12_stock).cls ≠ "java/lang/invoke/VarHandle" ∧ (parseMethodDescriptor (yX12_stock).desc).map (fun d => d.parameters.length) = some 2) ∧ 5 ≤ 21 := ⟨tb_t 14 (by decide +kernel) (by decide +kernel), tb_t 1610 rfl (by decide +kernel), ⟨by decide +kernel, by decide +kernel, by decide +kernel⟩, by decide⟩
theorem vX12_stock : Cond.instanceMethod yX12_stock ∈ tb ∧ Cond.selects (yX12_stock).cls yX12_stock yX12_stock ∈ tb := ⟨tb_t 1608 (by decide +kernel) (by decide +kernel), tb_t 1609 (by decide +kernel) (by decide +kernel)⟩
abbrev mX12_sum : Mt := (yX12_sum, cX12_sum, 5, (some (.int)))
set_option maxRecDepth 100000 in
theorem kX12_sum : Cond.initialized (yX12_sum).cls ∈ tb ∧ Cond.code yX12_sum cX12_sum 5 (some (.int)) ∈ tb ∧ ((yX12_sum).cls ≠ "java/lang/invoke/MethodHandle" ∧ (yX12_sum).cls ≠ "java/lang/invoke/VarHandle" ∧ (parseMethodDescriptor (yX12_sum).desc).map (fun d => d.parameters.length) = some 0) ∧ 5 ≤ 21 := ⟨tb_t 14 (by decide +kernel) (by decide +kernel), tb_t 1474 rfl (by decide +kernel), ⟨by decide +kernel, by decide +kernel, by decide +kernel⟩, by decide⟩
theorem vX12_sum : Cond.instanceMethod yX12_sum ∈ tb ∧ Cond.selects (yX12_sum).cls yX12_sum yX12_sum ∈ tb := ⟨tb_t 1473 (by decide +kernel) (by decide +kernel), tb_p 53 (by decide +kernel) (by decide +kernel)⟩
abbrev mX12_sumIn : Mt := (yX12_sumIn, cX12_sumIn, 5, (some (.int)))
set_option maxRecDepth 100000 in
theorem kX12_sumIn : Cond.initialized (yX12_sumIn).cls ∈ tb ∧ Cond.code yX12_sumIn cX12_sumIn 5 (some (.int)) ∈ tb ∧ ((yX12_sumIn).cls ≠ "java/lang/invoke/MethodHandle" ∧ (yX12_sumIn).cls ≠ "java/lang/invoke/VarHandle" ∧ (parseMethodDescriptor (yX12_sumIn).desc).map (fun d => d.parameters.length) = some 2) ∧ 5 ≤ 21 := ⟨tb_t 14 (by decide +kernel) (by decide +kernel), tb_t 1637 rfl (by decide +kernel), ⟨by decide +kernel, by decide +kernel, by decide +kernel⟩, by decide⟩
theorem vX12_sumIn : Cond.instanceMethod yX12_sumIn ∈ tb ∧ Cond.selects (yX12_sumIn).cls yX12_sumIn yX12_sumIn ∈ tb := ⟨tb_t 1636 (by decide +kernel) (by decide +kernel), tb_p 76 (by decide +kernel) (by decide +kernel)⟩
abbrev mX12_sumTold : Mt := (yX12_sumTold, cX12_sumTold, 4, (some (.int)))
set_option maxRecDepth 100000 in
theorem kX12_sumTold : Cond.initialized (yX12_sumTold).cls ∈ tb ∧ Cond.code yX12_sumTold cX12_sumTold 4 (some (.int)) ∈ tb ∧ ((yX12_sumTold).cls ≠ "java/lang/invoke/MethodHandle" ∧ (yX12_sumTold).cls ≠ "java/lang/invoke/VarHandle" ∧ (parseMethodDescriptor (yX12_sumTold).desc).map (fun d => d.parameters.length) = some 1) ∧ 4 ≤ 21 := ⟨tb_t 14 (by decide +kernel) (by decide +kernel), tb_t 1835 rfl (by decide +kernel), ⟨by decide +kernel, by decide +kernel, by decide +kernel⟩, by decide⟩
theorem vX12_sumTold : Cond.instanceMethod yX12_sumTold ∈ tb ∧ Cond.selects (yX12_sumTold).cls yX12_sumTold yX12_sumTold ∈ tb := ⟨tb_t 1834 (by decide +kernel) (by decide +kernel), tb_p 90 (by decide +kernel) (by decide +kernel)⟩
abbrev mX12_swims : Mt := (yX12_swims, cX12_swims, 5, none)
set_option maxRecDepth 100000 in
theorem kX12_swims : Cond.initialized (yX12_swims).cls ∈ tb ∧ Cond.code yX12_swims cX12_swims 5 none ∈ tb ∧ ((yX12_swims).cls ≠ "java/lang/invoke/MethodHandle" ∧ (yX12_swims).cls ≠ "java/lang/invoke/VarHandle" ∧ (parseMethodDescriptor (yX12_swims).desc).map (fun d => d.parameters.length) = some 5) ∧ 5 ≤ 21 := ⟨tb_t 14 (by decide +kernel) (by decide +kernel), tb_t 1629 rfl (by decide +kernel), ⟨by decide +kernel, by decide +kernel, by decide +kernel⟩, by decide⟩
theorem sX12_swims : Cond.static yX12_swims ∈ tb := tb_t 1628 (by decide +kernel) (by decide +kernel)
abbrev mX12_takes : Mt := (yX12_takes, cX12_takes, 2, (some (.boolean)))
set_option maxRecDepth 100000 in
theorem kX12_takes : Cond.initialized (yX12_takes).cls ∈ tb ∧ Cond.code yX12_takes cX12_takes 2 (some (.boolean)) ∈ tb ∧ ((yX12_takes).cls ≠ "java/lang/invoke/MethodHandle" ∧ (yX12_takes).cls ≠ "java/lang/invoke/VarHandle" ∧ (parseMethodDescriptor (yX12_takes).desc).map (fun d => d.parameters.length) = some 1) ∧ 2 ≤ 21 := ⟨tb_t 14 (by decide +kernel) (by decide +kernel), tb_t 1458 rfl (by decide +kernel), ⟨by decide +kernel, by decide +kernel, by decide +kernel⟩, by decide⟩
theorem vX12_takes : Cond.instanceMethod yX12_takes ∈ tb ∧ Cond.selects (yX12_takes).cls yX12_takes yX12_takes ∈ tb := ⟨tb_t 1457 (by decide +kernel) (by decide +kernel), tb_p 49 (by decide +kernel) (by decide +kernel)⟩
abbrev mX12_term : Mt := (yX12_term, cX12_term, 5, (some (.int)))
set_option maxRecDepth 100000 in
theorem kX12_term : Cond.initialized (yX12_term).cls ∈ tb ∧ Cond.code yX12_term cX12_term 5 (some (.int)) ∈ tb ∧ ((yX12_term).cls ≠ "java/lang/invoke/MethodHandle" ∧ (yX12_term).cls ≠ "java/lang/invoke/VarHandle" ∧ (parseMethodDescriptor (yX12_term).desc).map (fun d => d.parameters.length) = some 0) ∧ 5 ≤ 21 := ⟨tb_t 14 (by decide +kernel) (by decide +kernel), tb_t 1478 rfl (by decide +kernel), ⟨by decide +kernel, by decide +kernel, by decide +kernel⟩, by decide⟩
theorem vX12_term : Cond.instanceMethod yX12_term ∈ tb ∧ Cond.selects (yX12_term).cls yX12_term yX12_term ∈ tb := ⟨tb_t 1477 (by decide +kernel) (by decide +kernel), tb_p 54 (by decide +kernel) (by decide +kernel)⟩
abbrev mX12_text : Mt := (yX12_text, cX12_text, 4, (some (.int)))
set_option maxRecDepth 100000 in
theorem kX12_text : Cond.initialized (yX12_text).cls ∈ tb ∧ Cond.code yX12_text cX12_text 4 (some (.int)) ∈ tb ∧ ((yX12_text).cls ≠ "java/lang/invoke/MethodHandle" ∧ (yX12_text).cls ≠ "java/lang/invoke/VarHandle" ∧ (parseMethodDescriptor (yX12_text).desc).map (fun d => d.parameters.length) = some 1) ∧ 4 ≤ 21 := ⟨tb_t 14 (by decide +kernel) (by decide +kernel), tb_t 1521 rfl (by decide +kernel), ⟨by decide +kernel, by decide +kernel, by decide +kernel⟩, by decide⟩
theorem vX12_text : Cond.instanceMethod yX12_text ∈ tb ∧ Cond.selects (yX12_text).cls yX12_text yX12_text ∈ tb := ⟨tb_t 1519 (by decide +kernel) (by decide +kernel), tb_t 1520 (by decide +kernel) (by decide +kernel)⟩
abbrev mX12_thrown : Mt := (yX12_thrown, cX12_thrown, 1, (some (.int)))
set_option maxRecDepth 100000 in
theorem kX12_thrown : Cond.initialized (yX12_thrown).cls ∈ tb ∧ Cond.code yX12_thrown cX12_thrown 1 (some (.int)) ∈ tb ∧ ((yX12_thrown).cls ≠ "java/lang/invoke/MethodHandle" ∧ (yX12_thrown).cls ≠ "java/lang/invoke/VarHandle" ∧ (parseMethodDescriptor (yX12_thrown).desc).map (fun d => d.parameters.length) = some 0) ∧ 1 ≤ 21 := ⟨tb_t 14 (by decide +kernel) (by decide +kernel), tb_t 1341 rfl (by decide +kernel), ⟨by decide +kernel, by decide +kernel, by decide +kernel⟩, by decide⟩
theorem vX12_thrown : Cond.instanceMethod yX12_thrown ∈ tb ∧ Cond.selects (yX12_thrown).cls yX12_thrown yX12_thrown ∈ tb := ⟨tb_t 1339 (by decide +kernel) (by decide +kernel), tb_t 1340 (by decide +kernel) (by decide +kernel)⟩
abbrev mX12_told : Mt := (yX12_told, cX12_told, 3, (some (.int)))
set_option maxRecDepth 100000 in
theorem kX12_told : Cond.initialized (yX12_told).cls ∈ tb ∧ Cond.code yX12_told cX12_told 3 (some (.int)) ∈ tb ∧ ((yX12_told).cls ≠ "java/lang/invoke/MethodHandle" ∧ (yX12_told).cls ≠ "java/lang/invoke/VarHandle" ∧ (parseMethodDescriptor (yX12_told).desc).map (fun d => d.parameters.length) = some 2) ∧ 3 ≤ 21 := ⟨tb_t 14 (by decide +kernel) (by decide +kernel), tb_t 1526 rfl (by decide +kernel), ⟨by decide +kernel, by decide +kernel, by decide +kernel⟩, by decide⟩
theorem vX12_told : Cond.instanceMethod yX12_told ∈ tb ∧ Cond.selects (yX12_told).cls yX12_told yX12_told ∈ tb := ⟨tb_t 1525 (by decide +kernel) (by decide +kernel), tb_p 61 (by decide +kernel) (by decide +kernel)⟩
abbrev mX12_trend : Mt := (yX12_trend, cX12_trend, 2, (some (.int)))
set_option maxRecDepth 100000 in
theorem kX12_trend : Cond.initialized (yX12_trend).cls ∈ tb ∧ Cond.code yX12_trend cX12_trend 2 (some (.int)) ∈ tb ∧ ((yX12_trend).cls ≠ "java/lang/invoke/MethodHandle" ∧ (yX12_trend).cls ≠ "java/lang/invoke/VarHandle" ∧ (parseMethodDescriptor (yX12_trend).desc).map (fun d => d.parameters.length) = some 1) ∧ 2 ≤ 21 := ⟨tb_t 14 (by decide +kernel) (by decide +kernel), tb_t 1803 rfl (by decide +kernel), ⟨by decide +kernel, by decide +kernel, by decide +kernel⟩, by decide⟩
theorem vX12_trend : Cond.instanceMethod yX12_trend ∈ tb ∧ Cond.selects (yX12_trend).cls yX12_trend yX12_trend ∈ tb := ⟨tb_t 1801 (by decide +kernel) (by decide +kernel), tb_t 1802 (by decide +kernel) (by decide +kernel)⟩
abbrev mX12_undo : Mt := (yX12_undo, cX12_undo, 2, (some (.int)))
set_option maxRecDepth 100000 in
theorem kX12_undo : Cond.initialized (yX12_undo).cls ∈ tb ∧ Cond.code yX12_undo cX12_undo 2 (some (.int)) ∈ tb ∧ ((yX12_undo).cls ≠ "java/lang/invoke/MethodHandle" ∧ (yX12_undo).cls ≠ "java/lang/invoke/VarHandle" ∧ (parseMethodDescriptor (yX12_undo).desc).map (fun d => d.parameters.length) = some 0) ∧ 2 ≤ 21 := ⟨tb_t 14 (by decide +kernel) (by decide +kernel), tb_t 1655 rfl (by decide +kernel), ⟨by decide +kernel, by decide +kernel, by decide +kernel⟩, by decide⟩
theorem vX12_undo : Cond.instanceMethod yX12_undo ∈ tb ∧ Cond.selects (yX12_undo).cls yX12_undo yX12_undo ∈ tb := ⟨tb_t 1653 (by decide +kernel) (by decide +kernel), tb_t 1654 (by decide +kernel) (by decide +kernel)⟩
abbrev mX12_unit : Mt := (yX12_unit, cX12_unit, 3, (some (.boolean)))
set_option maxRecDepth 100000 in
theorem kX12_unit : Cond.initialized (yX12_unit).cls ∈ tb ∧ Cond.code yX12_unit cX12_unit 3 (some (.boolean)) ∈ tb ∧ ((yX12_unit).cls ≠ "java/lang/invoke/MethodHandle" ∧ (yX12_unit).cls ≠ "java/lang/invoke/VarHandle" ∧ (parseMethodDescriptor (yX12_unit).desc).map (fun d => d.parameters.length) = some 0) ∧ 3 ≤ 21 := ⟨tb_t 14 (by decide +kernel) (by decide +kernel), tb_t 1504 rfl (by decide +kernel), ⟨by decide +kernel, by decide +kernel, by decide +kernel⟩, by decide⟩
theorem vX12_unit : Cond.instanceMethod yX12_unit ∈ tb ∧ Cond.selects (yX12_unit).cls yX12_unit yX12_unit ∈ tb := ⟨tb_t 1503 (by decide +kernel) (by decide +kernel), tb_p 57 (by decide +kernel) (by decide +kernel)⟩
abbrev mX12_usual : Mt := (yX12_usual, cX12_usual, 2, (some (.int)))
set_option maxRecDepth 100000 in
theorem kX12_usual : Cond.initialized (yX12_usual).cls ∈ tb ∧ Cond.code yX12_usual cX12_usual 2 (some (.int)) ∈ tb ∧ ((yX12_usual).cls ≠ "java/lang/invoke/MethodHandle" ∧ (yX12_usual).cls ≠ "java/lang/invoke/VarHandle" ∧ (parseMethodDescriptor (yX12_usual).desc).map (fun d => d.parameters.length) = some 2) ∧ 2 ≤ 21 := ⟨tb_t 14 (by decide +kernel) (by decide +kernel), tb_t 1375 rfl (by decide +kernel), ⟨by decide +kernel, by decide +kernel, by decide +kernel⟩, by decide⟩
theorem sX12_usual : Cond.static yX12_usual ∈ tb := tb_t 1374 (by decide +kernel) (by decide +kernel)
abbrev mX12_walls : Mt := (yX12_walls, cX12_walls, 3, (some (.int)))
set_option maxRecDepth 100000 in
theorem kX12_walls : Cond.initialized (yX12_walls).cls ∈ tb ∧ Cond.code yX12_walls cX12_walls 3 (some (.int)) ∈ tb ∧ ((yX12_walls).cls ≠ "java/lang/invoke/MethodHandle" ∧ (yX12_walls).cls ≠ "java/lang/invoke/VarHandle" ∧ (parseMethodDescriptor (yX12_walls).desc).map (fun d => d.parameters.length) = some 0) ∧ 3 ≤ 21 := ⟨tb_t 14 (by decide +kernel) (by decide +kernel), tb_t 1770 rfl (by decide +kernel), ⟨by decide +kernel, by decide +kernel, by decide +kernel⟩, by decide⟩
theorem vX12_walls : Cond.instanceMethod yX12_walls ∈ tb ∧ Cond.selects (yX12_walls).cls yX12_walls yX12_walls ∈ tb := ⟨tb_t 1768 (by decide +kernel) (by decide +kernel), tb_t 1769 (by decide +kernel) (by decide +kernel)⟩
abbrev mX12_water : Mt := (yX12_water, cX12_water, 2, (some (.int)))
set_option maxRecDepth 100000 in
theorem kX12_water : Cond.initialized (yX12_water).cls ∈ tb ∧ Cond.code yX12_water cX12_water 2 (some (.int)) ∈ tb ∧ ((yX12_water).cls ≠ "java/lang/invoke/MethodHandle" ∧ (yX12_water).cls ≠ "java/lang/invoke/VarHandle" ∧ (parseMethodDescriptor (yX12_water).desc).map (fun d => d.parameters.length) = some 2) ∧ 2 ≤ 21 := ⟨tb_t 14 (by decide +kernel) (by decide +kernel), tb_t 1542 rfl (by decide +kernel), ⟨by decide +kernel, by decide +kernel, by decide +kernel⟩, by decide⟩
theorem sX12_water : Cond.static yX12_water ∈ tb := tb_t 1541 (by decide +kernel) (by decide +kernel)
abbrev mX12_within : Mt := (yX12_within, cX12_within, 2, (some (.int)))
set_option maxRecDepth 100000 in
theorem kX12_within : Cond.initialized (yX12_within).cls ∈ tb ∧ Cond.code yX12_within cX12_within 2 (some (.int)) ∈ tb ∧ ((yX12_within).cls ≠ "java/lang/invoke/MethodHandle" ∧ (yX12_within).cls ≠ "java/lang/invoke/VarHandle" ∧ (parseMethodDescriptor (yX12_within).desc).map (fun d => d.parameters.length) = some 1) ∧ 2 ≤ 21 := ⟨tb_t 14 (by decide +kernel) (by decide +kernel), tb_t 1489 rfl (by decide +kernel), ⟨by decide +kernel, by decide +kernel, by decide +kernel⟩, by decide⟩
theorem sX12_within : Cond.static yX12_within ∈ tb := tb_t 1488 (by decide +kernel) (by decide +kernel)
abbrev mX12_worthNow : Mt := (yX12_worthNow, cX12_worthNow, 4, (some (.int)))
set_option maxRecDepth 100000 in
theorem kX12_worthNow : Cond.initialized (yX12_worthNow).cls ∈ tb ∧ Cond.code yX12_worthNow cX12_worthNow 4 (some (.int)) ∈ tb ∧ ((yX12_worthNow).cls ≠ "java/lang/invoke/MethodHandle" ∧ (yX12_worthNow).cls ≠ "java/lang/invoke/VarHandle" ∧ (parseMethodDescriptor (yX12_worthNow).desc).map (fun d => d.parameters.length) = some 0) ∧ 4 ≤ 21 := ⟨tb_t 14 (by decide +kernel) (by decide +kernel), tb_t 1571 rfl (by decide +kernel), ⟨by decide +kernel, by decide +kernel, by decide +kernel⟩, by decide⟩
theorem vX12_worthNow : Cond.instanceMethod yX12_worthNow ∈ tb ∧ Cond.selects (yX12_worthNow).cls yX12_worthNow yX12_worthNow ∈ tb := ⟨tb_t 1570 (by decide +kernel) (by decide +kernel), tb_p 68 (by decide +kernel) (by decide +kernel)⟩
abbrev mX12_years : Mt := (yX12_years, cX12_years, 7, (some (.int)))
set_option maxRecDepth 100000 in
theorem kX12_years : Cond.initialized (yX12_years).cls ∈ tb ∧ Cond.code yX12_years cX12_years 7 (some (.int)) ∈ tb ∧ ((yX12_years).cls ≠ "java/lang/invoke/MethodHandle" ∧ (yX12_years).cls ≠ "java/lang/invoke/VarHandle" ∧ (parseMethodDescriptor (yX12_years).desc).map (fun d => d.parameters.length) = some 2) ∧ 7 ≤ 21 := ⟨tb_t 14 (by decide +kernel) (by decide +kernel), tb_t 1645 rfl (by decide +kernel), ⟨by decide +kernel, by decide +kernel, by decide +kernel⟩, by decide⟩
theorem vX12_years : Cond.instanceMethod yX12_years ∈ tb ∧ Cond.selects (yX12_years).cls yX12_years yX12_years ∈ tb := ⟨tb_t 1643 (by decide +kernel) (by decide +kernel), tb_t 1644 (by decide +kernel) (by decide +kernel)⟩
abbrev mX1_add : Mt := (yX1_add, cX1_add, 5, none)
set_option maxRecDepth 100000 in
theorem kX1_add : Cond.initialized (yX1_add).cls ∈ tb ∧ Cond.code yX1_add cX1_add 5 none ∈ tb ∧ ((yX1_add).cls ≠ "java/lang/invoke/MethodHandle" ∧ (yX1_add).cls ≠ "java/lang/invoke/VarHandle" ∧ (parseMethodDescriptor (yX1_add).desc).map (fun d => d.parameters.length) = some 3) ∧ 5 ≤ 21 := ⟨tb_t 10 (by decide +kernel) (by decide +kernel), tb_t 776 rfl (by decide +kernel), ⟨by decide +kernel, by decide +kernel, by decide +kernel⟩, by decide⟩
theorem vX1_add : Cond.instanceMethod yX1_add ∈ tb ∧ Cond.selects (yX1_add).cls yX1_add yX1_add ∈ tb := ⟨tb_t 774 (by decide +kernel) (by decide +kernel), tb_t 775 (by decide +kernel) (by decide +kernel)⟩
abbrev mX1_become : Mt := (yX1_become, cX1_become, 2, none)
set_option maxRecDepth 100000 in
theorem kX1_become : Cond.initialized (yX1_become).cls ∈ tb ∧ Cond.code yX1_become cX1_become 2 none ∈ tb ∧ ((yX1_become).cls ≠ "java/lang/invoke/MethodHandle" ∧ (yX1_become).cls ≠ "java/lang/invoke/VarHandle" ∧ (parseMethodDescriptor (yX1_become).desc).map (fun d => d.parameters.length) = some 1) ∧ 2 ≤ 21 := ⟨tb_t 10 (by decide +kernel) (by decide +kernel), tb_t 1100 rfl (by decide +kernel), ⟨by decide +kernel, by decide +kernel, by decide +kernel⟩, by decide⟩
theorem vX1_become : Cond.instanceMethod yX1_become ∈ tb ∧ Cond.selects (yX1_become).cls yX1_become yX1_become ∈ tb := ⟨tb_t 1098 (by decide +kernel) (by decide +kernel), tb_t 1099 (by decide +kernel) (by decide +kernel)⟩
abbrev mX1_entry : Mt := (yX1_entry, cX1_entry, 3, (some (.int)))
set_option maxRecDepth 100000 in
theorem kX1_entry : Cond.initialized (yX1_entry).cls ∈ tb ∧ Cond.code yX1_entry cX1_entry 3 (some (.int)) ∈ tb ∧ ((yX1_entry).cls ≠ "java/lang/invoke/MethodHandle" ∧ (yX1_entry).cls ≠ "java/lang/invoke/VarHandle" ∧ (parseMethodDescriptor (yX1_entry).desc).map (fun d => d.parameters.length) = some 2) ∧ 3 ≤ 21 := ⟨tb_t 10 (by decide +kernel) (by decide +kernel), tb_t 823 rfl (by decide +kernel), ⟨by decide +kernel, by decide +kernel, by decide +kernel⟩, by decide⟩
theorem vX1_entry : Cond.instanceMethod yX1_entry ∈ tb ∧ Cond.selects (yX1_entry).cls yX1_entry yX1_entry ∈ tb := ⟨tb_t 821 (by decide +kernel) (by decide +kernel), tb_t 822 (by decide +kernel) (by decide +kernel)⟩
abbrev mX1_length : Mt := (yX1_length, cX1_length, 1, (some (.int)))
set_option maxRecDepth 100000 in
theorem kX1_length : Cond.initialized (yX1_length).cls ∈ tb ∧ Cond.code yX1_length cX1_length 1 (some (.int)) ∈ tb ∧ ((yX1_length).cls ≠ "java/lang/invoke/MethodHandle" ∧ (yX1_length).cls ≠ "java/lang/invoke/VarHandle" ∧ (parseMethodDescriptor (yX1_length).desc).map (fun d => d.parameters.length) = some 0) ∧ 1 ≤ 21 := ⟨tb_t 10 (by decide +kernel) (by decide +kernel), tb_t 827 rfl (by decide +kernel), ⟨by decide +kernel, by decide +kernel, by decide +kernel⟩, by decide⟩
theorem vX1_length : Cond.instanceMethod yX1_length ∈ tb ∧ Cond.selects (yX1_length).cls yX1_length yX1_length ∈ tb := ⟨tb_t 825 (by decide +kernel) (by decide +kernel), tb_t 826 (by decide +kernel) (by decide +kernel)⟩
abbrev mX2_carry : Mt := (yX2_carry, cX2_carry, 6, none)
set_option maxRecDepth 100000 in
theorem kX2_carry : Cond.initialized (yX2_carry).cls ∈ tb ∧ Cond.code yX2_carry cX2_carry 6 none ∈ tb ∧ ((yX2_carry).cls ≠ "java/lang/invoke/MethodHandle" ∧ (yX2_carry).cls ≠ "java/lang/invoke/VarHandle" ∧ (parseMethodDescriptor (yX2_carry).desc).map (fun d => d.parameters.length) = some 2) ∧ 6 ≤ 21 := ⟨tb_t 7 (by decide +kernel) (by decide +kernel), tb_t 756 rfl (by decide +kernel), ⟨by decide +kernel, by decide +kernel, by decide +kernel⟩, by decide⟩
theorem vX2_carry : Cond.instanceMethod yX2_carry ∈ tb ∧ Cond.selects (yX2_carry).cls yX2_carry yX2_carry ∈ tb := ⟨tb_t 755 (by decide +kernel) (by decide +kernel), tb_p 19 (by decide +kernel) (by decide +kernel)⟩
abbrev mX2_flowThrough : Mt := (yX2_flowThrough, cX2_flowThrough, 11, (some (.int)))
set_option maxRecDepth 100000 in
theorem kX2_flowThrough : Cond.initialized (yX2_flowThrough).cls ∈ tb ∧ Cond.code yX2_flowThrough cX2_flowThrough 11 (some (.int)) ∈ tb ∧ ((yX2_flowThrough).cls ≠ "java/lang/invoke/MethodHandle" ∧ (yX2_flowThrough).cls ≠ "java/lang/invoke/VarHandle" ∧ (parseMethodDescriptor (yX2_flowThrough).desc).map (fun d => d.parameters.length) = some 2) ∧ 11 ≤ 21 := ⟨tb_t 7 (by decide +kernel) (by decide +kernel), tb_t 688 rfl (by decide +kernel), ⟨by decide +kernel, by decide +kernel, by decide +kernel⟩, by decide⟩
theorem vX2_flowThrough : Cond.instanceMethod yX2_flowThrough ∈ tb ∧ Cond.selects (yX2_flowThrough).cls yX2_flowThrough yX2_flowThrough ∈ tb := ⟨tb_t 686 (by decide +kernel) (by decide +kernel), tb_t 687 (by decide +kernel) (by decide +kernel)⟩
abbrev mX2_higherEnd : Mt := (yX2_higherEnd, cX2_higherEnd, 7, (some (.int)))
set_option maxRecDepth 100000 in
theorem kX2_higherEnd : Cond.initialized (yX2_higherEnd).cls ∈ tb ∧ Cond.code yX2_higherEnd cX2_higherEnd 7 (some (.int)) ∈ tb ∧ ((yX2_higherEnd).cls ≠ "java/lang/invoke/MethodHandle" ∧ (yX2_higherEnd).cls ≠ "java/lang/invoke/VarHandle" ∧ (parseMethodDescriptor (yX2_higherEnd).desc).map (fun d => d.parameters.length) = some 2) ∧ 7 ≤ 21 := ⟨tb_t 7 (by decide +kernel) (by decide +kernel), tb_t 692 rfl (by decide +kernel), ⟨by decide +kernel, by decide +kernel, by decide +kernel⟩, by decide⟩
theorem vX2_higherEnd : Cond.instanceMethod yX2_higherEnd ∈ tb ∧ Cond.selects (yX2_higherEnd).cls yX2_higherEnd yX2_higherEnd ∈ tb := ⟨tb_t 691 (by decide +kernel) (by decide +kernel), tb_p 16 (by decide +kernel) (by decide +kernel)⟩
abbrev mX2_live : Mt := (yX2_live, cX2_live, 5, none)
set_option maxRecDepth 100000 in
theorem kX2_live : Cond.initialized (yX2_live).cls ∈ tb ∧ Cond.code yX2_live cX2_live 5 none ∈ tb ∧ ((yX2_live).cls ≠ "java/lang/invoke/MethodHandle" ∧ (yX2_live).cls ≠ "java/lang/invoke/VarHandle" ∧ (parseMethodDescriptor (yX2_live).desc).map (fun d => d.parameters.length) = some 2) ∧ 5 ≤ 21 := ⟨tb_t 7 (by decide +kernel) (by decide +kernel), tb_t 765 rfl (by decide +kernel), ⟨by decide +kernel, by decide +kernel, by decide +kernel⟩, by decide⟩
theorem vX2_live : Cond.instanceMethod yX2_live ∈ tb ∧ Cond.selects (yX2_live).cls yX2_live yX2_live ∈ tb := ⟨tb_t 764 (by decide +kernel) (by decide +kernel), tb_p 21 (by decide +kernel) (by decide +kernel)⟩
abbrev mX2_passDay : Mt := (yX2_passDay, cX2_passDay, 4, none)
set_option maxRecDepth 100000 in
theorem kX2_passDay : Cond.initialized (yX2_passDay).cls ∈ tb ∧ Cond.code yX2_passDay cX2_passDay 4 none ∈ tb ∧ ((yX2_passDay).cls ≠ "java/lang/invoke/MethodHandle" ∧ (yX2_passDay).cls ≠ "java/lang/invoke/VarHandle" ∧ (parseMethodDescriptor (yX2_passDay).desc).map (fun d => d.parameters.length) = some 2) ∧ 4 ≤ 21 := ⟨tb_t 7 (by decide +kernel) (by decide +kernel), tb_t 751 rfl (by decide +kernel), ⟨by decide +kernel, by decide +kernel, by decide +kernel⟩, by decide⟩
theorem vX2_passDay : Cond.instanceMethod yX2_passDay ∈ tb ∧ Cond.selects (yX2_passDay).cls yX2_passDay yX2_passDay ∈ tb := ⟨tb_t 749 (by decide +kernel) (by decide +kernel), tb_t 750 (by decide +kernel) (by decide +kernel)⟩
abbrev mX2_weather : Mt := (yX2_weather, cX2_weather, 7, none)
set_option maxRecDepth 100000 in
theorem kX2_weather : Cond.initialized (yX2_weather).cls ∈ tb ∧ Cond.code yX2_weather cX2_weather 7 none ∈ tb ∧ ((yX2_weather).cls ≠ "java/lang/invoke/MethodHandle" ∧ (yX2_weather).cls ≠ "java/lang/invoke/VarHandle" ∧ (parseMethodDescriptor (yX2_weather).desc).map (fun d => d.parameters.length) = some 3) ∧ 7 ≤ 21 := ⟨tb_t 7 (by decide +kernel) (by decide +kernel), tb_t 761 rfl (by decide +kernel), ⟨by decide +kernel, by decide +kernel, by decide +kernel⟩, by decide⟩
theorem vX2_weather : Cond.instanceMethod yX2_weather ∈ tb ∧ Cond.selects (yX2_weather).cls yX2_weather yX2_weather ∈ tb := ⟨tb_t 760 (by decide +kernel) (by decide +kernel), tb_p 20 (by decide +kernel) (by decide +kernel)⟩
abbrev mX3_become : Mt := (yX3_become, cX3_become, 2, none)
set_option maxRecDepth 100000 in
theorem kX3_become : Cond.initialized (yX3_become).cls ∈ tb ∧ Cond.code yX3_become cX3_become 2 none ∈ tb ∧ ((yX3_become).cls ≠ "java/lang/invoke/MethodHandle" ∧ (yX3_become).cls ≠ "java/lang/invoke/VarHandle" ∧ (parseMethodDescriptor (yX3_become).desc).map (fun d => d.parameters.length) = some 1) ∧ 2 ≤ 21 := ⟨tb_t 6 (by decide +kernel) (by decide +kernel), tb_t 657 rfl (by decide +kernel), ⟨by decide +kernel, by decide +kernel, by decide +kernel⟩, by decide⟩
theorem vX3_become : Cond.instanceMethod yX3_become ∈ tb ∧ Cond.selects (yX3_become).cls yX3_become yX3_become ∈ tb := ⟨tb_t 655 (by decide +kernel) (by decide +kernel), tb_t 656 (by decide +kernel) (by decide +kernel)⟩
abbrev mX3_endSkip : Mt := (yX3_endSkip, cX3_endSkip, 2, none)
set_option maxRecDepth 100000 in
theorem kX3_endSkip : Cond.initialized (yX3_endSkip).cls ∈ tb ∧ Cond.code yX3_endSkip cX3_endSkip 2 none ∈ tb ∧ ((yX3_endSkip).cls ≠ "java/lang/invoke/MethodHandle" ∧ (yX3_endSkip).cls ≠ "java/lang/invoke/VarHandle" ∧ (parseMethodDescriptor (yX3_endSkip).desc).map (fun d => d.parameters.length) = some 1) ∧ 2 ≤ 21 := ⟨tb_t 6 (by decide +kernel) (by decide +kernel), tb_t 612 rfl (by decide +kernel), ⟨by decide +kernel, by decide +kernel, by decide +kernel⟩, by decide⟩
theorem vX3_endSkip : Cond.instanceMethod yX3_endSkip ∈ tb ∧ Cond.selects (yX3_endSkip).cls yX3_endSkip yX3_endSkip ∈ tb := ⟨tb_t 610 (by decide +kernel) (by decide +kernel), tb_t 611 (by decide +kernel) (by decide +kernel)⟩
abbrev mX3_put : Mt := (yX3_put, cX3_put, 2, none)
set_option maxRecDepth 100000 in
theorem kX3_put : Cond.initialized (yX3_put).cls ∈ tb ∧ Cond.code yX3_put cX3_put 2 none ∈ tb ∧ ((yX3_put).cls ≠ "java/lang/invoke/MethodHandle" ∧ (yX3_put).cls ≠ "java/lang/invoke/VarHandle" ∧ (parseMethodDescriptor (yX3_put).desc).map (fun d => d.parameters.length) = some 1) ∧ 2 ≤ 21 := ⟨tb_t 6 (by decide +kernel) (by decide +kernel), tb_t 578 rfl (by decide +kernel), ⟨by decide +kernel, by decide +kernel, by decide +kernel⟩, by decide⟩
theorem vX3_put : Cond.instanceMethod yX3_put ∈ tb ∧ Cond.selects (yX3_put).cls yX3_put yX3_put ∈ tb := ⟨tb_t 576 (by decide +kernel) (by decide +kernel), tb_t 577 (by decide +kernel) (by decide +kernel)⟩
abbrev mX3_putLetter : Mt := (yX3_putLetter, cX3_putLetter, 2, none)
set_option maxRecDepth 100000 in
theorem kX3_putLetter : Cond.initialized (yX3_putLetter).cls ∈ tb ∧ Cond.code yX3_putLetter cX3_putLetter 2 none ∈ tb ∧ ((yX3_putLetter).cls ≠ "java/lang/invoke/MethodHandle" ∧ (yX3_putLetter).cls ≠ "java/lang/invoke/VarHandle" ∧ (parseMethodDescriptor (yX3_putLetter).desc).map (fun d => d.parameters.length) = some 1) ∧ 2 ≤ 21 := ⟨tb_t 6 (by decide +kernel) (by decide +kernel), tb_t 574 rfl (by decide +kernel), ⟨by decide +kernel, by decide +kernel, by decide +kernel⟩, by decide⟩
theorem vX3_putLetter : Cond.instanceMethod yX3_putLetter ∈ tb ∧ Cond.selects (yX3_putLetter).cls yX3_putLetter yX3_putLetter ∈ tb := ⟨tb_t 572 (by decide +kernel) (by decide +kernel), tb_t 573 (by decide +kernel) (by decide +kernel)⟩
abbrev mX3_putSkip : Mt := (yX3_putSkip, cX3_putSkip, 1, (some (.int)))
set_option maxRecDepth 100000 in
theorem kX3_putSkip : Cond.initialized (yX3_putSkip).cls ∈ tb ∧ Cond.code yX3_putSkip cX3_putSkip 1 (some (.int)) ∈ tb ∧ ((yX3_putSkip).cls ≠ "java/lang/invoke/MethodHandle" ∧ (yX3_putSkip).cls ≠ "java/lang/invoke/VarHandle" ∧ (parseMethodDescriptor (yX3_putSkip).desc).map (fun d => d.parameters.length) = some 0) ∧ 1 ≤ 21 := ⟨tb_t 6 (by decide +kernel) (by decide +kernel), tb_t 608 rfl (by decide +kernel), ⟨by decide +kernel, by decide +kernel, by decide +kernel⟩, by decide⟩
theorem vX3_putSkip : Cond.instanceMethod yX3_putSkip ∈ tb ∧ Cond.selects (yX3_putSkip).cls yX3_putSkip yX3_putSkip ∈ tb := ⟨tb_t 606 (by decide +kernel) (by decide +kernel), tb_t 607 (by decide +kernel) (by decide +kernel)⟩
abbrev mX3_worked : Mt := (yX3_worked, cX3_worked, 7, (some (.int)))
set_option maxRecDepth 100000 in
theorem kX3_worked : Cond.initialized (yX3_worked).cls ∈ tb ∧ Cond.code yX3_worked cX3_worked 7 (some (.int)) ∈ tb ∧ ((yX3_worked).cls ≠ "java/lang/invoke/MethodHandle" ∧ (yX3_worked).cls ≠ "java/lang/invoke/VarHandle" ∧ (parseMethodDescriptor (yX3_worked).desc).map (fun d => d.parameters.length) = some 3) ∧ 7 ≤ 21 := ⟨tb_t 6 (by decide +kernel) (by decide +kernel), tb_t 700 rfl (by decide +kernel), ⟨by decide +kernel, by decide +kernel, by decide +kernel⟩, by decide⟩
theorem sX3_worked : Cond.static yX3_worked ∈ tb := tb_t 699 (by decide +kernel) (by decide +kernel)
abbrev mX3_worth : Mt := (yX3_worth, cX3_worth, 10, (some (.int)))
set_option maxRecDepth 100000 in
theorem kX3_worth : Cond.initialized (yX3_worth).cls ∈ tb ∧ Cond.code yX3_worth cX3_worth 10 (some (.int)) ∈ tb ∧ ((yX3_worth).cls ≠ "java/lang/invoke/MethodHandle" ∧ (yX3_worth).cls ≠ "java/lang/invoke/VarHandle" ∧ (parseMethodDescriptor (yX3_worth).desc).map (fun d => d.parameters.length) = some 6) ∧ 10 ≤ 21 := ⟨tb_t 6 (by decide +kernel) (by decide +kernel), tb_t 697 rfl (by decide +kernel), ⟨by decide +kernel, by decide +kernel, by decide +kernel⟩, by decide⟩
theorem vX3_worth : Cond.instanceMethod yX3_worth ∈ tb ∧ Cond.selects (yX3_worth).cls yX3_worth yX3_worth ∈ tb := ⟨tb_t 695 (by decide +kernel) (by decide +kernel), tb_t 696 (by decide +kernel) (by decide +kernel)⟩
abbrev mX4_comparison : Mt := (yX4_comparison, cX4_comparison, 1, (some (.int)))
set_option maxRecDepth 100000 in
theorem kX4_comparison : Cond.initialized (yX4_comparison).cls ∈ tb ∧ Cond.code yX4_comparison cX4_comparison 1 (some (.int)) ∈ tb ∧ ((yX4_comparison).cls ≠ "java/lang/invoke/MethodHandle" ∧ (yX4_comparison).cls ≠ "java/lang/invoke/VarHandle" ∧ (parseMethodDescriptor (yX4_comparison).desc).map (fun d => d.parameters.length) = some 0) ∧ 1 ≤ 21 := ⟨tb_t 5 (by decide +kernel) (by decide +kernel), tb_t 584 rfl (by decide +kernel), ⟨by decide +kernel, by decide +kernel, by decide +kernel⟩, by decide⟩
theorem vX4_comparison : Cond.instanceMethod yX4_comparison ∈ tb ∧ Cond.selects (yX4_comparison).cls yX4_comparison yX4_comparison ∈ tb := ⟨tb_t 583 (by decide +kernel) (by decide +kernel), tb_p 6 (by decide +kernel) (by decide +kernel)⟩
abbrev mX4_readAnswer : Mt := (yX4_readAnswer, cX4_readAnswer, 2, (some (.boolean)))
set_option maxRecDepth 100000 in
theorem kX4_readAnswer : Cond.initialized (yX4_readAnswer).cls ∈ tb ∧ Cond.code yX4_readAnswer cX4_readAnswer 2 (some (.boolean)) ∈ tb ∧ ((yX4_readAnswer).cls ≠ "java/lang/invoke/MethodHandle" ∧ (yX4_readAnswer).cls ≠ "java/lang/invoke/VarHandle" ∧ (parseMethodDescriptor (yX4_readAnswer).desc).map (fun d => d.parameters.length) = some 0) ∧ 2 ≤ 21 := ⟨tb_t 5 (by decide +kernel) (by decide +kernel), tb_t 604 rfl (by decide +kernel), ⟨by decide +kernel, by decide +kernel, by decide +kernel⟩, by decide⟩
theorem vX4_readAnswer : Cond.instanceMethod yX4_readAnswer ∈ tb ∧ Cond.selects (yX4_readAnswer).cls yX4_readAnswer yX4_readAnswer ∈ tb := ⟨tb_t 603 (by decide +kernel) (by decide +kernel), tb_p 11 (by decide +kernel) (by decide +kernel)⟩
abbrev mX4_readAtom : Mt := (yX4_readAtom, cX4_readAtom, 5, (some (.boolean)))
set_option maxRecDepth 100000 in
theorem kX4_readAtom : Cond.initialized (yX4_readAtom).cls ∈ tb ∧ Cond.code yX4_readAtom cX4_readAtom 5 (some (.boolean)) ∈ tb ∧ ((yX4_readAtom).cls ≠ "java/lang/invoke/MethodHandle" ∧ (yX4_readAtom).cls ≠ "java/lang/invoke/VarHandle" ∧ (parseMethodDescriptor (yX4_readAtom).desc).map (fun d => d.parameters.length) = some 1) ∧ 5 ≤ 21 := ⟨tb_t 5 (by decide +kernel) (by decide +kernel), tb_t 568 rfl (by decide +kernel), ⟨by decide +kernel, by decide +kernel, by decide +kernel⟩, by decide⟩
theorem vX4_readAtom : Cond.instanceMethod yX4_readAtom ∈ tb ∧ Cond.selects (yX4_readAtom).cls yX4_readAtom yX4_readAtom ∈ tb := ⟨tb_t 567 (by decide +kernel) (by decide +kernel), tb_p 5 (by decide +kernel) (by decide +kernel)⟩
abbrev mX4_readClause : Mt := (yX4_readClause, cX4_readClause, 3, (some (.boolean)))
set_option maxRecDepth 100000 in
theorem kX4_readClause : Cond.initialized (yX4_readClause).cls ∈ tb ∧ Cond.code yX4_readClause cX4_readClause 3 (some (.boolean)) ∈ tb ∧ ((yX4_readClause).cls ≠ "java/lang/invoke/MethodHandle" ∧ (yX4_readClause).cls ≠ "java/lang/invoke/VarHandle" ∧ (parseMethodDescriptor (yX4_readClause).desc).map (fun d => d.parameters.length) = some 0) ∧ 3 ≤ 21 := ⟨tb_t 5 (by decide +kernel) (by decide +kernel), tb_t 554 rfl (by decide +kernel), ⟨by decide +kernel, by decide +kernel, by decide +kernel⟩, by decide⟩
theorem vX4_readClause : Cond.instanceMethod yX4_readClause ∈ tb ∧ Cond.selects (yX4_readClause).cls yX4_readClause yX4_readClause ∈ tb := ⟨tb_t 553 (by decide +kernel) (by decide +kernel), tb_p 2 (by decide +kernel) (by decide +kernel)⟩
abbrev mX4_readLaw : Mt := (yX4_readLaw, cX4_readLaw, 2, (some (.boolean)))
set_option maxRecDepth 100000 in
theorem kX4_readLaw : Cond.initialized (yX4_readLaw).cls ∈ tb ∧ Cond.code yX4_readLaw cX4_readLaw 2 (some (.boolean)) ∈ tb ∧ ((yX4_readLaw).cls ≠ "java/lang/invoke/MethodHandle" ∧ (yX4_readLaw).cls ≠ "java/lang/invoke/VarHandle" ∧ (parseMethodDescriptor (yX4_readLaw).desc).map (fun d => d.parameters.length) = some 0) ∧ 2 ≤ 21 := ⟨tb_t 5 (by decide +kernel) (by decide +kernel), tb_t 550 rfl (by decide +kernel), ⟨by decide +kernel, by decide +kernel, by decide +kernel⟩, by decide⟩
theorem vX4_readLaw : Cond.instanceMethod yX4_readLaw ∈ tb ∧ Cond.selects (yX4_readLaw).cls yX4_readLaw yX4_readLaw ∈ tb := ⟨tb_t 548 (by decide +kernel) (by decide +kernel), tb_t 549 (by decide +kernel) (by decide +kernel)⟩
abbrev mX4_readMoreTruths : Mt := (yX4_readMoreTruths, cX4_readMoreTruths, 3, (some (.boolean)))
set_option maxRecDepth 100000 in
theorem kX4_readMoreTruths : Cond.initialized (yX4_readMoreTruths).cls ∈ tb ∧ Cond.code yX4_readMoreTruths cX4_readMoreTruths 3 (some (.boolean)) ∈ tb ∧ ((yX4_readMoreTruths).cls ≠ "java/lang/invoke/MethodHandle" ∧ (yX4_readMoreTruths).cls ≠ "java/lang/invoke/VarHandle" ∧ (parseMethodDescriptor (yX4_readMoreTruths).desc).map (fun d => d.parameters.length) = some 1) ∧ 3 ≤ 21 := ⟨tb_t 5 (by decide +kernel) (by decide +kernel), tb_t 596 rfl (by decide +kernel), ⟨by decide +kernel, by decide +kernel, by decide +kernel⟩, by decide⟩
theorem vX4_readMoreTruths : Cond.instanceMethod yX4_readMoreTruths ∈ tb ∧ Cond.selects (yX4_readMoreTruths).cls yX4_readMoreTruths yX4_readMoreTruths ∈ tb := ⟨tb_t 595 (by decide +kernel) (by decide +kernel), tb_p 9 (by decide +kernel) (by decide +kernel)⟩
abbrev mX4_readMoreUnits : Mt := (yX4_readMoreUnits, cX4_readMoreUnits, 3, (some (.boolean)))
set_option maxRecDepth 100000 in
theorem kX4_readMoreUnits : Cond.initialized (yX4_readMoreUnits).cls ∈ tb ∧ Cond.code yX4_readMoreUnits cX4_readMoreUnits 3 (some (.boolean)) ∈ tb ∧ ((yX4_readMoreUnits).cls ≠ "java/lang/invoke/MethodHandle" ∧ (yX4_readMoreUnits).cls ≠ "java/lang/invoke/VarHandle" ∧ (parseMethodDescriptor (yX4_readMoreUnits).desc).map (fun d => d.parameters.length) = some 1) ∧ 3 ≤ 21 := ⟨tb_t 5 (by decide +kernel) (by decide +kernel), tb_t 600 rfl (by decide +kernel), ⟨by decide +kernel, by decide +kernel, by decide +kernel⟩, by decide⟩
theorem vX4_readMoreUnits : Cond.instanceMethod yX4_readMoreUnits ∈ tb ∧ Cond.selects (yX4_readMoreUnits).cls yX4_readMoreUnits yX4_readMoreUnits ∈ tb := ⟨tb_t 599 (by decide +kernel) (by decide +kernel), tb_p 10 (by decide +kernel) (by decide +kernel)⟩
abbrev mX4_readNested : Mt := (yX4_readNested, cX4_readNested, 3, (some (.boolean)))
set_option maxRecDepth 100000 in
theorem kX4_readNested : Cond.initialized (yX4_readNested).cls ∈ tb ∧ Cond.code yX4_readNested cX4_readNested 3 (some (.boolean)) ∈ tb ∧ ((yX4_readNested).cls ≠ "java/lang/invoke/MethodHandle" ∧ (yX4_readNested).cls ≠ "java/lang/invoke/VarHandle" ∧ (parseMethodDescriptor (yX4_readNested).desc).map (fun d => d.parameters.length) = some 2) ∧ 3 ≤ 21 := ⟨tb_t 5 (by decide +kernel) (by decide +kernel), tb_t 592 rfl (by decide +kernel), ⟨by decide +kernel, by decide +kernel, by decide +kernel⟩, by decide⟩
theorem vX4_readNested : Cond.instanceMethod yX4_readNested ∈ tb ∧ Cond.selects (yX4_readNested).cls yX4_readNested yX4_readNested ∈ tb := ⟨tb_t 591 (by decide +kernel) (by decide +kernel), tb_p 8 (by decide +kernel) (by decide +kernel)⟩
abbrev mX4_readSum : Mt := (yX4_readSum, cX4_readSum, 4, (some (.boolean)))
set_option maxRecDepth 100000 in
theorem kX4_readSum : Cond.initialized (yX4_readSum).cls ∈ tb ∧ Cond.code yX4_readSum cX4_readSum 4 (some (.boolean)) ∈ tb ∧ ((yX4_readSum).cls ≠ "java/lang/invoke/MethodHandle" ∧ (yX4_readSum).cls ≠ "java/lang/invoke/VarHandle" ∧ (parseMethodDescriptor (yX4_readSum).desc).map (fun d => d.parameters.length) = some 1) ∧ 4 ≤ 21 := ⟨tb_t 5 (by decide +kernel) (by decide +kernel), tb_t 560 rfl (by decide +kernel), ⟨by decide +kernel, by decide +kernel, by decide +kernel⟩, by decide⟩
theorem vX4_readSum : Cond.instanceMethod yX4_readSum ∈ tb ∧ Cond.selects (yX4_readSum).cls yX4_readSum yX4_readSum ∈ tb := ⟨tb_t 559 (by decide +kernel) (by decide +kernel), tb_p 3 (by decide +kernel) (by decide +kernel)⟩
abbrev mX4_readTerm : Mt := (yX4_readTerm, cX4_readTerm, 4, (some (.boolean)))
set_option maxRecDepth 100000 in
theorem kX4_readTerm : Cond.initialized (yX4_readTerm).cls ∈ tb ∧ Cond.code yX4_readTerm cX4_readTerm 4 (some (.boolean)) ∈ tb ∧ ((yX4_readTerm).cls ≠ "java/lang/invoke/MethodHandle" ∧ (yX4_readTerm).cls ≠ "java/lang/invoke/VarHandle" ∧ (parseMethodDescriptor (yX4_readTerm).desc).map (fun d => d.parameters.length) = some 1) ∧ 4 ≤ 21 := ⟨tb_t 5 (by decide +kernel) (by decide +kernel), tb_t 564 rfl (by decide +kernel), ⟨by decide +kernel, by decide +kernel, by decide +kernel⟩, by decide⟩
theorem vX4_readTerm : Cond.instanceMethod yX4_readTerm ∈ tb ∧ Cond.selects (yX4_readTerm).cls yX4_readTerm yX4_readTerm ∈ tb := ⟨tb_t 563 (by decide +kernel) (by decide +kernel), tb_p 4 (by decide +kernel) (by decide +kernel)⟩
abbrev mX4_readUnit : Mt := (yX4_readUnit, cX4_readUnit, 5, (some (.boolean)))
set_option maxRecDepth 100000 in
theorem kX4_readUnit : Cond.initialized (yX4_readUnit).cls ∈ tb ∧ Cond.code yX4_readUnit cX4_readUnit 5 (some (.boolean)) ∈ tb ∧ ((yX4_readUnit).cls ≠ "java/lang/invoke/MethodHandle" ∧ (yX4_readUnit).cls ≠ "java/lang/invoke/VarHandle" ∧ (parseMethodDescriptor (yX4_readUnit).desc).map (fun d => d.parameters.length) = some 2) ∧ 5 ≤ 21 := ⟨tb_t 5 (by decide +kernel) (by decide +kernel), tb_t 588 rfl (by decide +kernel), ⟨by decide +kernel, by decide +kernel, by decide +kernel⟩, by decide⟩
theorem vX4_readUnit : Cond.instanceMethod yX4_readUnit ∈ tb ∧ Cond.selects (yX4_readUnit).cls yX4_readUnit yX4_readUnit ∈ tb := ⟨tb_t 587 (by decide +kernel) (by decide +kernel), tb_p 7 (by decide +kernel) (by decide +kernel)⟩
abbrev mX5_add : Mt := (yX5_add, cX5_add, 3, (some (.boolean)))
set_option maxRecDepth 100000 in
theorem kX5_add : Cond.initialized (yX5_add).cls ∈ tb ∧ Cond.code yX5_add cX5_add 3 (some (.boolean)) ∈ tb ∧ ((yX5_add).cls ≠ "java/lang/invoke/MethodHandle" ∧ (yX5_add).cls ≠ "java/lang/invoke/VarHandle" ∧ (parseMethodDescriptor (yX5_add).desc).map (fun d => d.parameters.length) = some 2) ∧ 3 ≤ 21 := ⟨tb_t 12 (by decide +kernel) (by decide +kernel), tb_t 967 rfl (by decide +kernel), ⟨by decide +kernel, by decide +kernel, by decide +kernel⟩, by decide⟩
theorem vX5_add : Cond.instanceMethod yX5_add ∈ tb ∧ Cond.selects (yX5_add).cls yX5_add yX5_add ∈ tb := ⟨tb_t 965 (by decide +kernel) (by decide +kernel), tb_t 966 (by decide +kernel) (by decide +kernel)⟩
abbrev mX5_fits : Mt := (yX5_fits, cX5_fits, 3, (some (.boolean)))
set_option maxRecDepth 100000 in
theorem kX5_fits : Cond.initialized (yX5_fits).cls ∈ tb ∧ Cond.code yX5_fits cX5_fits 3 (some (.boolean)) ∈ tb ∧ ((yX5_fits).cls ≠ "java/lang/invoke/MethodHandle" ∧ (yX5_fits).cls ≠ "java/lang/invoke/VarHandle" ∧ (parseMethodDescriptor (yX5_fits).desc).map (fun d => d.parameters.length) = some 1) ∧ 3 ≤ 21 := ⟨tb_t 12 (by decide +kernel) (by decide +kernel), tb_t 987 rfl (by decide +kernel), ⟨by decide +kernel, by decide +kernel, by decide +kernel⟩, by decide⟩
theorem vX5_fits : Cond.instanceMethod yX5_fits ∈ tb ∧ Cond.selects (yX5_fits).cls yX5_fits yX5_fits ∈ tb := ⟨tb_t 986 (by decide +kernel) (by decide +kernel), tb_p 32 (by decide +kernel) (by decide +kernel)⟩
abbrev mX5_gainBy : Mt := (yX5_gainBy, cX5_gainBy, 2, (some (.int)))
set_option maxRecDepth 100000 in
theorem kX5_gainBy : Cond.initialized (yX5_gainBy).cls ∈ tb ∧ Cond.code yX5_gainBy cX5_gainBy 2 (some (.int)) ∈ tb ∧ ((yX5_gainBy).cls ≠ "java/lang/invoke/MethodHandle" ∧ (yX5_gainBy).cls ≠ "java/lang/invoke/VarHandle" ∧ (parseMethodDescriptor (yX5_gainBy).desc).map (fun d => d.parameters.length) = some 2) ∧ 2 ≤ 21 := ⟨tb_t 12 (by decide +kernel) (by decide +kernel), tb_t 990 rfl (by decide +kernel), ⟨by decide +kernel, by decide +kernel, by decide +kernel⟩, by decide⟩
theorem sX5_gainBy : Cond.static yX5_gainBy ∈ tb := tb_t 989 (by decide +kernel) (by decide +kernel)
abbrev mX5_mostLeftBy : Mt := (yX5_mostLeftBy, cX5_mostLeftBy, 6, (some (.int)))
set_option maxRecDepth 100000 in
theorem kX5_mostLeftBy : Cond.initialized (yX5_mostLeftBy).cls ∈ tb ∧ Cond.code yX5_mostLeftBy cX5_mostLeftBy 6 (some (.int)) ∈ tb ∧ ((yX5_mostLeftBy).cls ≠ "java/lang/invoke/MethodHandle" ∧ (yX5_mostLeftBy).cls ≠ "java/lang/invoke/VarHandle" ∧ (parseMethodDescriptor (yX5_mostLeftBy).desc).map (fun d => d.parameters.length) = some 1) ∧ 6 ≤ 21 := ⟨tb_t 12 (by decide +kernel) (by decide +kernel), tb_t 1006 rfl (by decide +kernel), ⟨by decide +kernel, by decide +kernel, by decide +kernel⟩, by decide⟩
theorem vX5_mostLeftBy : Cond.instanceMethod yX5_mostLeftBy ∈ tb ∧ Cond.selects (yX5_mostLeftBy).cls yX5_mostLeftBy yX5_mostLeftBy ∈ tb := ⟨tb_t 1005 (by decide +kernel) (by decide +kernel), tb_p 33 (by decide +kernel) (by decide +kernel)⟩
abbrev mX5_nextToMeasure : Mt := (yX5_nextToMeasure, cX5_nextToMeasure, 5, (some (.int)))
set_option maxRecDepth 100000 in
theorem kX5_nextToMeasure : Cond.initialized (yX5_nextToMeasure).cls ∈ tb ∧ Cond.code yX5_nextToMeasure cX5_nextToMeasure 5 (some (.int)) ∈ tb ∧ ((yX5_nextToMeasure).cls ≠ "java/lang/invoke/MethodHandle" ∧ (yX5_nextToMeasure).cls ≠ "java/lang/invoke/VarHandle" ∧ (parseMethodDescriptor (yX5_nextToMeasure).desc).map (fun d => d.parameters.length) = some 0) ∧ 5 ≤ 21 := ⟨tb_t 12 (by decide +kernel) (by decide +kernel), tb_t 1002 rfl (by decide +kernel), ⟨by decide +kernel, by decide +kernel, by decide +kernel⟩, by decide⟩
theorem vX5_nextToMeasure : Cond.instanceMethod yX5_nextToMeasure ∈ tb ∧ Cond.selects (yX5_nextToMeasure).cls yX5_nextToMeasure yX5_nextToMeasure ∈ tb := ⟨tb_t 1000 (by decide +kernel) (by decide +kernel), tb_t 1001 (by decide +kernel) (by decide +kernel)⟩
abbrev mX5_wayAt : Mt := (yX5_wayAt, cX5_wayAt, 6, (some (.int)))
set_option maxRecDepth 100000 in
theorem kX5_wayAt : Cond.initialized (yX5_wayAt).cls ∈ tb ∧ Cond.code yX5_wayAt cX5_wayAt 6 (some (.int)) ∈ tb ∧ ((yX5_wayAt).cls ≠ "java/lang/invoke/MethodHandle" ∧ (yX5_wayAt).cls ≠ "java/lang/invoke/VarHandle" ∧ (parseMethodDescriptor (yX5_wayAt).desc).map (fun d => d.parameters.length) = some 1) ∧ 6 ≤ 21 := ⟨tb_t 12 (by decide +kernel) (by decide +kernel), tb_t 983 rfl (by decide +kernel), ⟨by decide +kernel, by decide +kernel, by decide +kernel⟩, by decide⟩
theorem vX5_wayAt : Cond.instanceMethod yX5_wayAt ∈ tb ∧ Cond.selects (yX5_wayAt).cls yX5_wayAt yX5_wayAt ∈ tb := ⟨tb_t 982 (by decide +kernel) (by decide +kernel), tb_p 31 (by decide +kernel) (by decide +kernel)⟩
abbrev mX5_wayThatFits : Mt := (yX5_wayThatFits, cX5_wayThatFits, 5, (some (.int)))
set_option maxRecDepth 100000 in
theorem kX5_wayThatFits : Cond.initialized (yX5_wayThatFits).cls ∈ tb ∧ Cond.code yX5_wayThatFits cX5_wayThatFits 5 (some (.int)) ∈ tb ∧ ((yX5_wayThatFits).cls ≠ "java/lang/invoke/MethodHandle" ∧ (yX5_wayThatFits).cls ≠ "java/lang/invoke/VarHandle" ∧ (parseMethodDescriptor (yX5_wayThatFits).desc).map (fun d => d.parameters.length) = some 1) ∧ 5 ≤ 21 := ⟨tb_t 12 (by decide +kernel) (by decide +kernel), tb_t 994 rfl (by decide +kernel), ⟨by decide +kernel, by decide +kernel, by decide +kernel⟩, by decide⟩
theorem vX5_wayThatFits : Cond.instanceMethod yX5_wayThatFits ∈ tb ∧ Cond.selects (yX5_wayThatFits).cls yX5_wayThatFits yX5_wayThatFits ∈ tb := ⟨tb_t 992 (by decide +kernel) (by decide +kernel), tb_t 993 (by decide +kernel) (by decide +kernel)⟩
abbrev mX5_ways : Mt := (yX5_ways, cX5_ways, 1, (some (.int)))
set_option maxRecDepth 100000 in
theorem kX5_ways : Cond.initialized (yX5_ways).cls ∈ tb ∧ Cond.code yX5_ways cX5_ways 1 (some (.int)) ∈ tb ∧ ((yX5_ways).cls ≠ "java/lang/invoke/MethodHandle" ∧ (yX5_ways).cls ≠ "java/lang/invoke/VarHandle" ∧ (parseMethodDescriptor (yX5_ways).desc).map (fun d => d.parameters.length) = some 0) ∧ 1 ≤ 21 := ⟨tb_t 12 (by decide +kernel) (by decide +kernel), tb_t 979 rfl (by decide +kernel), ⟨by decide +kernel, by decide +kernel, by decide +kernel⟩, by decide⟩
theorem vX5_ways : Cond.instanceMethod yX5_ways ∈ tb ∧ Cond.selects (yX5_ways).cls yX5_ways yX5_ways ∈ tb := ⟨tb_t 978 (by decide +kernel) (by decide +kernel), tb_p 30 (by decide +kernel) (by decide +kernel)⟩
abbrev mX5_waysThatFit : Mt := (yX5_waysThatFit, cX5_waysThatFit, 3, (some (.int)))
set_option maxRecDepth 100000 in
theorem kX5_waysThatFit : Cond.initialized (yX5_waysThatFit).cls ∈ tb ∧ Cond.code yX5_waysThatFit cX5_waysThatFit 3 (some (.int)) ∈ tb ∧ ((yX5_waysThatFit).cls ≠ "java/lang/invoke/MethodHandle" ∧ (yX5_waysThatFit).cls ≠ "java/lang/invoke/VarHandle" ∧ (parseMethodDescriptor (yX5_waysThatFit).desc).map (fun d => d.parameters.length) = some 0) ∧ 3 ≤ 21 := ⟨tb_t 12 (by decide +kernel) (by decide +kernel), tb_t 975 rfl (by decide +kernel), ⟨by decide +kernel, by decide +kernel, by decide +kernel⟩, by decide⟩
theorem vX5_waysThatFit : Cond.instanceMethod yX5_waysThatFit ∈ tb ∧ Cond.selects (yX5_waysThatFit).cls yX5_waysThatFit yX5_waysThatFit ∈ tb := ⟨tb_t 973 (by decide +kernel) (by decide +kernel), tb_t 974 (by decide +kernel) (by decide +kernel)⟩
abbrev mX6_after : Mt := (yX6_after, cX6_after, 4, (some (.object "PondRoofs$Waters")))
set_option maxRecDepth 100000 in
theorem kX6_after : Cond.initialized (yX6_after).cls ∈ tb ∧ Cond.code yX6_after cX6_after 4 (some (.object "PondRoofs$Waters")) ∈ tb ∧ ((yX6_after).cls ≠ "java/lang/invoke/MethodHandle" ∧ (yX6_after).cls ≠ "java/lang/invoke/VarHandle" ∧ (parseMethodDescriptor (yX6_after).desc).map (fun d => d.parameters.length) = some 2) ∧ 4 ≤ 21 := ⟨tb_t 13 (by decide +kernel) (by decide +kernel), tb_t 868 rfl (by decide +kernel), ⟨by decide +kernel, by decide +kernel, by decide +kernel⟩, by decide⟩
theorem vX6_after : Cond.instanceMethod yX6_after ∈ tb ∧ Cond.selects (yX6_after).cls yX6_after yX6_after ∈ tb := ⟨tb_t 866 (by decide +kernel) (by decide +kernel), tb_t 867 (by decide +kernel) (by decide +kernel)⟩
abbrev mX6_canBe : Mt := (yX6_canBe, cX6_canBe, 5, (some (.boolean)))
set_option maxRecDepth 100000 in
theorem kX6_canBe : Cond.initialized (yX6_canBe).cls ∈ tb ∧ Cond.code yX6_canBe cX6_canBe 5 (some (.boolean)) ∈ tb ∧ ((yX6_canBe).cls ≠ "java/lang/invoke/MethodHandle" ∧ (yX6_canBe).cls ≠ "java/lang/invoke/VarHandle" ∧ (parseMethodDescriptor (yX6_canBe).desc).map (fun d => d.parameters.length) = some 4) ∧ 5 ≤ 21 := ⟨tb_t 13 (by decide +kernel) (by decide +kernel), tb_t 725 rfl (by decide +kernel), ⟨by decide +kernel, by decide +kernel, by decide +kernel⟩, by decide⟩
theorem vX6_canBe : Cond.instanceMethod yX6_canBe ∈ tb ∧ Cond.selects (yX6_canBe).cls yX6_canBe yX6_canBe ∈ tb := ⟨tb_t 723 (by decide +kernel) (by decide +kernel), tb_t 724 (by decide +kernel) (by decide +kernel)⟩
abbrev mX6_darkestPond : Mt := (yX6_darkestPond, cX6_darkestPond, 5, (some (.int)))
set_option maxRecDepth 100000 in
theorem kX6_darkestPond : Cond.initialized (yX6_darkestPond).cls ∈ tb ∧ Cond.code yX6_darkestPond cX6_darkestPond 5 (some (.int)) ∈ tb ∧ ((yX6_darkestPond).cls ≠ "java/lang/invoke/MethodHandle" ∧ (yX6_darkestPond).cls ≠ "java/lang/invoke/VarHandle" ∧ (parseMethodDescriptor (yX6_darkestPond).desc).map (fun d => d.parameters.length) = some 0) ∧ 5 ≤ 21 := ⟨tb_t 13 (by decide +kernel) (by decide +kernel), tb_t 1058 rfl (by decide +kernel), ⟨by decide +kernel, by decide +kernel, by decide +kernel⟩, by decide⟩
theorem vX6_darkestPond : Cond.instanceMethod yX6_darkestPond ∈ tb ∧ Cond.selects (yX6_darkestPond).cls yX6_darkestPond yX6_darkestPond ∈ tb := ⟨tb_t 1056 (by decide +kernel) (by decide +kernel), tb_t 1057 (by decide +kernel) (by decide +kernel)⟩
abbrev mX6_daysUntilDry : Mt := (yX6_daysUntilDry, cX6_daysUntilDry, 3, (some (.int)))
set_option maxRecDepth 100000 in
theorem kX6_daysUntilDry : Cond.initialized (yX6_daysUntilDry).cls ∈ tb ∧ Cond.code yX6_daysUntilDry cX6_daysUntilDry 3 (some (.int)) ∈ tb ∧ ((yX6_daysUntilDry).cls ≠ "java/lang/invoke/MethodHandle" ∧ (yX6_daysUntilDry).cls ≠ "java/lang/invoke/VarHandle" ∧ (parseMethodDescriptor (yX6_daysUntilDry).desc).map (fun d => d.parameters.length) = some 1) ∧ 3 ≤ 21 := ⟨tb_t 13 (by decide +kernel) (by decide +kernel), tb_t 876 rfl (by decide +kernel), ⟨by decide +kernel, by decide +kernel, by decide +kernel⟩, by decide⟩
theorem vX6_daysUntilDry : Cond.instanceMethod yX6_daysUntilDry ∈ tb ∧ Cond.selects (yX6_daysUntilDry).cls yX6_daysUntilDry yX6_daysUntilDry ∈ tb := ⟨tb_t 874 (by decide +kernel) (by decide +kernel), tb_t 875 (by decide +kernel) (by decide +kernel)⟩
abbrev mX6_fewestKeys : Mt := (yX6_fewestKeys, cX6_fewestKeys, 5, (some (.int)))
set_option maxRecDepth 100000 in
theorem kX6_fewestKeys : Cond.initialized (yX6_fewestKeys).cls ∈ tb ∧ Cond.code yX6_fewestKeys cX6_fewestKeys 5 (some (.int)) ∈ tb ∧ ((yX6_fewestKeys).cls ≠ "java/lang/invoke/MethodHandle" ∧ (yX6_fewestKeys).cls ≠ "java/lang/invoke/VarHandle" ∧ (parseMethodDescriptor (yX6_fewestKeys).desc).map (fun d => d.parameters.length) = some 1) ∧ 5 ≤ 21 := ⟨tb_t 13 (by decide +kernel) (by decide +kernel), tb_t 892 rfl (by decide +kernel), ⟨by decide +kernel, by decide +kernel, by decide +kernel⟩, by decide⟩
theorem vX6_fewestKeys : Cond.instanceMethod yX6_fewestKeys ∈ tb ∧ Cond.selects (yX6_fewestKeys).cls yX6_fewestKeys yX6_fewestKeys ∈ tb := ⟨tb_t 890 (by decide +kernel) (by decide +kernel), tb_t 891 (by decide +kernel) (by decide +kernel)⟩
abbrev mX6_fewestThatLack : Mt := (yX6_fewestThatLack, cX6_fewestThatLack, 5, (some (.int)))
set_option maxRecDepth 100000 in
theorem kX6_fewestThatLack : Cond.initialized (yX6_fewestThatLack).cls ∈ tb ∧ Cond.code yX6_fewestThatLack cX6_fewestThatLack 5 (some (.int)) ∈ tb ∧ ((yX6_fewestThatLack).cls ≠ "java/lang/invoke/MethodHandle" ∧ (yX6_fewestThatLack).cls ≠ "java/lang/invoke/VarHandle" ∧ (parseMethodDescriptor (yX6_fewestThatLack).desc).map (fun d => d.parameters.length) = some 1) ∧ 5 ≤ 21 := ⟨tb_t 13 (by decide +kernel) (by decide +kernel), tb_t 921 rfl (by decide +kernel), ⟨by decide +kernel, by decide +kernel, by decide +kernel⟩, by decide⟩
theorem vX6_fewestThatLack : Cond.instanceMethod yX6_fewestThatLack ∈ tb ∧ Cond.selects (yX6_fewestThatLack).cls yX6_fewestThatLack yX6_fewestThatLack ∈ tb := ⟨tb_t 919 (by decide +kernel) (by decide +kernel), tb_t 920 (by decide +kernel) (by decide +kernel)⟩
abbrev mX6_fullestPipe : Mt := (yX6_fullestPipe, cX6_fullestPipe, 5, (some (.int)))
set_option maxRecDepth 100000 in
theorem kX6_fullestPipe : Cond.initialized (yX6_fullestPipe).cls ∈ tb ∧ Cond.code yX6_fullestPipe cX6_fullestPipe 5 (some (.int)) ∈ tb ∧ ((yX6_fullestPipe).cls ≠ "java/lang/invoke/MethodHandle" ∧ (yX6_fullestPipe).cls ≠ "java/lang/invoke/VarHandle" ∧ (parseMethodDescriptor (yX6_fullestPipe).desc).map (fun d => d.parameters.length) = some 0) ∧ 5 ≤ 21 := ⟨tb_t 13 (by decide +kernel) (by decide +kernel), tb_t 1086 rfl (by decide +kernel), ⟨by decide +kernel, by decide +kernel, by decide +kernel⟩, by decide⟩
theorem vX6_fullestPipe : Cond.instanceMethod yX6_fullestPipe ∈ tb ∧ Cond.selects (yX6_fullestPipe).cls yX6_fullestPipe yX6_fullestPipe ∈ tb := ⟨tb_t 1084 (by decide +kernel) (by decide +kernel), tb_t 1085 (by decide +kernel) (by decide +kernel)⟩
abbrev mX6_gapAfter : Mt := (yX6_gapAfter, cX6_gapAfter, 6, (some (.int)))
set_option maxRecDepth 100000 in
theorem kX6_gapAfter : Cond.initialized (yX6_gapAfter).cls ∈ tb ∧ Cond.code yX6_gapAfter cX6_gapAfter 6 (some (.int)) ∈ tb ∧ ((yX6_gapAfter).cls ≠ "java/lang/invoke/MethodHandle" ∧ (yX6_gapAfter).cls ≠ "java/lang/invoke/VarHandle" ∧ (parseMethodDescriptor (yX6_gapAfter).desc).map (fun d => d.parameters.length) = some 4) ∧ 6 ≤ 21 := ⟨tb_t 13 (by decide +kernel) (by decide +kernel), tb_t 1034 rfl (by decide +kernel), ⟨by decide +kernel, by decide +kernel, by decide +kernel⟩, by decide⟩
theorem vX6_gapAfter : Cond.instanceMethod yX6_gapAfter ∈ tb ∧ Cond.selects (yX6_gapAfter).cls yX6_gapAfter yX6_gapAfter ∈ tb := ⟨tb_t 1032 (by decide +kernel) (by decide +kernel), tb_t 1033 (by decide +kernel) (by decide +kernel)⟩
abbrev mX6_groups : Mt := (yX6_groups, cX6_groups, 4, (some (.int)))
set_option maxRecDepth 100000 in
theorem kX6_groups : Cond.initialized (yX6_groups).cls ∈ tb ∧ Cond.code yX6_groups cX6_groups 4 (some (.int)) ∈ tb ∧ ((yX6_groups).cls ≠ "java/lang/invoke/MethodHandle" ∧ (yX6_groups).cls ≠ "java/lang/invoke/VarHandle" ∧ (parseMethodDescriptor (yX6_groups).desc).map (fun d => d.parameters.length) = some 0) ∧ 4 ≤ 21 := ⟨tb_t 13 (by decide +kernel) (by decide +kernel), tb_t 1078 rfl (by decide +kernel), ⟨by decide +kernel, by decide +kernel, by decide +kernel⟩, by decide⟩
theorem vX6_groups : Cond.instanceMethod yX6_groups ∈ tb ∧ Cond.selects (yX6_groups).cls yX6_groups yX6_groups ∈ tb := ⟨tb_t 1076 (by decide +kernel) (by decide +kernel), tb_t 1077 (by decide +kernel) (by decide +kernel)⟩
abbrev mX6_heldUpTo : Mt := (yX6_heldUpTo, cX6_heldUpTo, 5, (some (.int)))
set_option maxRecDepth 100000 in
theorem kX6_heldUpTo : Cond.initialized (yX6_heldUpTo).cls ∈ tb ∧ Cond.code yX6_heldUpTo cX6_heldUpTo 5 (some (.int)) ∈ tb ∧ ((yX6_heldUpTo).cls ≠ "java/lang/invoke/MethodHandle" ∧ (yX6_heldUpTo).cls ≠ "java/lang/invoke/VarHandle" ∧ (parseMethodDescriptor (yX6_heldUpTo).desc).map (fun d => d.parameters.length) = some 2) ∧ 5 ≤ 21 := ⟨tb_t 13 (by decide +kernel) (by decide +kernel), tb_t 941 rfl (by decide +kernel), ⟨by decide +kernel, by decide +kernel, by decide +kernel⟩, by decide⟩
theorem vX6_heldUpTo : Cond.instanceMethod yX6_heldUpTo ∈ tb ∧ Cond.selects (yX6_heldUpTo).cls yX6_heldUpTo yX6_heldUpTo ∈ tb := ⟨tb_t 940 (by decide +kernel) (by decide +kernel), tb_p 28 (by decide +kernel) (by decide +kernel)⟩
abbrev mX6_keepsApart : Mt := (yX6_keepsApart, cX6_keepsApart, 5, (some (.boolean)))
set_option maxRecDepth 100000 in
theorem kX6_keepsApart : Cond.initialized (yX6_keepsApart).cls ∈ tb ∧ Cond.code yX6_keepsApart cX6_keepsApart 5 (some (.boolean)) ∈ tb ∧ ((yX6_keepsApart).cls ≠ "java/lang/invoke/MethodHandle" ∧ (yX6_keepsApart).cls ≠ "java/lang/invoke/VarHandle" ∧ (parseMethodDescriptor (yX6_keepsApart).desc).map (fun d => d.parameters.length) = some 1) ∧ 5 ≤ 21 := ⟨tb_t 13 (by decide +kernel) (by decide +kernel), tb_t 959 rfl (by decide +kernel), ⟨by decide +kernel, by decide +kernel, by decide +kernel⟩, by decide⟩
theorem vX6_keepsApart : Cond.instanceMethod yX6_keepsApart ∈ tb ∧ Cond.selects (yX6_keepsApart).cls yX6_keepsApart yX6_keepsApart ∈ tb := ⟨tb_t 958 (by decide +kernel) (by decide +kernel), tb_p 29 (by decide +kernel) (by decide +kernel)⟩
abbrev mX6_keysOfFeud : Mt := (yX6_keysOfFeud, cX6_keysOfFeud, 6, (some (.int)))
set_option maxRecDepth 100000 in
theorem kX6_keysOfFeud : Cond.initialized (yX6_keysOfFeud).cls ∈ tb ∧ Cond.code yX6_keysOfFeud cX6_keysOfFeud 6 (some (.int)) ∈ tb ∧ ((yX6_keysOfFeud).cls ≠ "java/lang/invoke/MethodHandle" ∧ (yX6_keysOfFeud).cls ≠ "java/lang/invoke/VarHandle" ∧ (parseMethodDescriptor (yX6_keysOfFeud).desc).map (fun d => d.parameters.length) = some 4) ∧ 6 ≤ 21 := ⟨tb_t 13 (by decide +kernel) (by decide +kernel), tb_t 1030 rfl (by decide +kernel), ⟨by decide +kernel, by decide +kernel, by decide +kernel⟩, by decide⟩
theorem vX6_keysOfFeud : Cond.instanceMethod yX6_keysOfFeud ∈ tb ∧ Cond.selects (yX6_keysOfFeud).cls yX6_keysOfFeud yX6_keysOfFeud ∈ tb := ⟨tb_t 1028 (by decide +kernel) (by decide +kernel), tb_t 1029 (by decide +kernel) (by decide +kernel)⟩
abbrev mX6_keysThatKeepMost : Mt := (yX6_keysThatKeepMost, cX6_keysThatKeepMost, 7, (some (.int)))
set_option maxRecDepth 100000 in
theorem kX6_keysThatKeepMost : Cond.initialized (yX6_keysThatKeepMost).cls ∈ tb ∧ Cond.code yX6_keysThatKeepMost cX6_keysThatKeepMost 7 (some (.int)) ∈ tb ∧ ((yX6_keysThatKeepMost).cls ≠ "java/lang/invoke/MethodHandle" ∧ (yX6_keysThatKeepMost).cls ≠ "java/lang/invoke/VarHandle" ∧ (parseMethodDescriptor (yX6_keysThatKeepMost).desc).map (fun d => d.parameters.length) = some 1) ∧ 7 ≤ 21 := ⟨tb_t 13 (by decide +kernel) (by decide +kernel), tb_t 911 rfl (by decide +kernel), ⟨by decide +kernel, by decide +kernel, by decide +kernel⟩, by decide⟩
theorem vX6_keysThatKeepMost : Cond.instanceMethod yX6_keysThatKeepMost ∈ tb ∧ Cond.selects (yX6_keysThatKeepMost).cls yX6_keysThatKeepMost yX6_keysThatKeepMost ∈ tb := ⟨tb_t 909 (by decide +kernel) (by decide +kernel), tb_t 910 (by decide +kernel) (by decide +kernel)⟩
abbrev mX6_lacks : Mt := (yX6_lacks, cX6_lacks, 8, (some (.boolean)))
set_option maxRecDepth 100000 in
theorem kX6_lacks : Cond.initialized (yX6_lacks).cls ∈ tb ∧ Cond.code yX6_lacks cX6_lacks 8 (some (.boolean)) ∈ tb ∧ ((yX6_lacks).cls ≠ "java/lang/invoke/MethodHandle" ∧ (yX6_lacks).cls ≠ "java/lang/invoke/VarHandle" ∧ (parseMethodDescriptor (yX6_lacks).desc).map (fun d => d.parameters.length) = some 2) ∧ 8 ≤ 21 := ⟨tb_t 13 (by decide +kernel) (by decide +kernel), tb_t 925 rfl (by decide +kernel), ⟨by decide +kernel, by decide +kernel, by decide +kernel⟩, by decide⟩
theorem vX6_lacks : Cond.instanceMethod yX6_lacks ∈ tb ∧ Cond.selects (yX6_lacks).cls yX6_lacks yX6_lacks ∈ tb := ⟨tb_t 924 (by decide +kernel) (by decide +kernel), tb_p 27 (by decide +kernel) (by decide +kernel)⟩
abbrev mX6_levelOfRest : Mt := (yX6_levelOfRest, cX6_levelOfRest, 5, (some (.int)))
set_option maxRecDepth 100000 in
theorem kX6_levelOfRest : Cond.initialized (yX6_levelOfRest).cls ∈ tb ∧ Cond.code yX6_levelOfRest cX6_levelOfRest 5 (some (.int)) ∈ tb ∧ ((yX6_levelOfRest).cls ≠ "java/lang/invoke/MethodHandle" ∧ (yX6_levelOfRest).cls ≠ "java/lang/invoke/VarHandle" ∧ (parseMethodDescriptor (yX6_levelOfRest).desc).map (fun d => d.parameters.length) = some 1) ∧ 5 ≤ 21 := ⟨tb_t 13 (by decide +kernel) (by decide +kernel), tb_t 933 rfl (by decide +kernel), ⟨by decide +kernel, by decide +kernel, by decide +kernel⟩, by decide⟩
theorem vX6_levelOfRest : Cond.instanceMethod yX6_levelOfRest ∈ tb ∧ Cond.selects (yX6_levelOfRest).cls yX6_levelOfRest yX6_levelOfRest ∈ tb := ⟨tb_t 931 (by decide +kernel) (by decide +kernel), tb_t 932 (by decide +kernel) (by decide +kernel)⟩
abbrev mX6_mostOpenApart : Mt := (yX6_mostOpenApart, cX6_mostOpenApart, 3, (some (.int)))
set_option maxRecDepth 100000 in
theorem kX6_mostOpenApart : Cond.initialized (yX6_mostOpenApart).cls ∈ tb ∧ Cond.code yX6_mostOpenApart cX6_mostOpenApart 3 (some (.int)) ∈ tb ∧ ((yX6_mostOpenApart).cls ≠ "java/lang/invoke/MethodHandle" ∧ (yX6_mostOpenApart).cls ≠ "java/lang/invoke/VarHandle" ∧ (parseMethodDescriptor (yX6_mostOpenApart).desc).map (fun d => d.parameters.length) = some 0) ∧ 3 ≤ 21 := ⟨tb_t 13 (by decide +kernel) (by decide +kernel), tb_t 955 rfl (by decide +kernel), ⟨by decide +kernel, by decide +kernel, by decide +kernel⟩, by decide⟩
theorem vX6_mostOpenApart : Cond.instanceMethod yX6_mostOpenApart ∈ tb ∧ Cond.selects (yX6_mostOpenApart).cls yX6_mostOpenApart yX6_mostOpenApart ∈ tb := ⟨tb_t 953 (by decide +kernel) (by decide +kernel), tb_t 954 (by decide +kernel) (by decide +kernel)⟩
abbrev mX6_rentOf : Mt := (yX6_rentOf, cX6_rentOf, 4, (some (.int)))
set_option maxRecDepth 100000 in
theorem kX6_rentOf : Cond.initialized (yX6_rentOf).cls ∈ tb ∧ Cond.code yX6_rentOf cX6_rentOf 4 (some (.int)) ∈ tb ∧ ((yX6_rentOf).cls ≠ "java/lang/invoke/MethodHandle" ∧ (yX6_rentOf).cls ≠ "java/lang/invoke/VarHandle" ∧ (parseMethodDescriptor (yX6_rentOf).desc).map (fun d => d.parameters.length) = some 1) ∧ 4 ≤ 21 := ⟨tb_t 13 (by decide +kernel) (by decide +kernel), tb_t 1066 rfl (by decide +kernel), ⟨by decide +kernel, by decide +kernel, by decide +kernel⟩, by decide⟩
theorem vX6_rentOf : Cond.instanceMethod yX6_rentOf ∈ tb ∧ Cond.selects (yX6_rentOf).cls yX6_rentOf yX6_rentOf ∈ tb := ⟨tb_t 1064 (by decide +kernel) (by decide +kernel), tb_t 1065 (by decide +kernel) (by decide +kernel)⟩
abbrev mX6_restAmongGaps : Mt := (yX6_restAmongGaps, cX6_restAmongGaps, 4, (some (.int)))
set_option maxRecDepth 100000 in
theorem kX6_restAmongGaps : Cond.initialized (yX6_restAmongGaps).cls ∈ tb ∧ Cond.code yX6_restAmongGaps cX6_restAmongGaps 4 (some (.int)) ∈ tb ∧ ((yX6_restAmongGaps).cls ≠ "java/lang/invoke/MethodHandle" ∧ (yX6_restAmongGaps).cls ≠ "java/lang/invoke/VarHandle" ∧ (parseMethodDescriptor (yX6_restAmongGaps).desc).map (fun d => d.parameters.length) = some 1) ∧ 4 ≤ 21 := ⟨tb_t 13 (by decide +kernel) (by decide +kernel), tb_t 1042 rfl (by decide +kernel), ⟨by decide +kernel, by decide +kernel, by decide +kernel⟩, by decide⟩
theorem vX6_restAmongGaps : Cond.instanceMethod yX6_restAmongGaps ∈ tb ∧ Cond.selects (yX6_restAmongGaps).cls yX6_restAmongGaps yX6_restAmongGaps ∈ tb := ⟨tb_t 1040 (by decide +kernel) (by decide +kernel), tb_t 1041 (by decide +kernel) (by decide +kernel)⟩
abbrev mX6_staysDeep : Mt := (yX6_staysDeep, cX6_staysDeep, 4, (some (.boolean)))
set_option maxRecDepth 100000 in
theorem kX6_staysDeep : Cond.initialized (yX6_staysDeep).cls ∈ tb ∧ Cond.code yX6_staysDeep cX6_staysDeep 4 (some (.boolean)) ∈ tb ∧ ((yX6_staysDeep).cls ≠ "java/lang/invoke/MethodHandle" ∧ (yX6_staysDeep).cls ≠ "java/lang/invoke/VarHandle" ∧ (parseMethodDescriptor (yX6_staysDeep).desc).map (fun d => d.parameters.length) = some 2) ∧ 4 ≤ 21 := ⟨tb_t 13 (by decide +kernel) (by decide +kernel), tb_t 902 rfl (by decide +kernel), ⟨by decide +kernel, by decide +kernel, by decide +kernel⟩, by decide⟩
theorem vX6_staysDeep : Cond.instanceMethod yX6_staysDeep ∈ tb ∧ Cond.selects (yX6_staysDeep).cls yX6_staysDeep yX6_staysDeep ∈ tb := ⟨tb_t 901 (by decide +kernel) (by decide +kernel), tb_p 26 (by decide +kernel) (by decide +kernel)⟩
abbrev mX6_stepsThatCanBe : Mt := (yX6_stepsThatCanBe, cX6_stepsThatCanBe, 5, (some (.int)))
set_option maxRecDepth 100000 in
theorem kX6_stepsThatCanBe : Cond.initialized (yX6_stepsThatCanBe).cls ∈ tb ∧ Cond.code yX6_stepsThatCanBe cX6_stepsThatCanBe 5 (some (.int)) ∈ tb ∧ ((yX6_stepsThatCanBe).cls ≠ "java/lang/invoke/MethodHandle" ∧ (yX6_stepsThatCanBe).cls ≠ "java/lang/invoke/VarHandle" ∧ (parseMethodDescriptor (yX6_stepsThatCanBe).desc).map (fun d => d.parameters.length) = some 1) ∧ 5 ≤ 21 := ⟨tb_t 13 (by decide +kernel) (by decide +kernel), tb_t 849 rfl (by decide +kernel), ⟨by decide +kernel, by decide +kernel, by decide +kernel⟩, by decide⟩
theorem vX6_stepsThatCanBe : Cond.instanceMethod yX6_stepsThatCanBe ∈ tb ∧ Cond.selects (yX6_stepsThatCanBe).cls yX6_stepsThatCanBe yX6_stepsThatCanBe ∈ tb := ⟨tb_t 847 (by decide +kernel) (by decide +kernel), tb_t 848 (by decide +kernel) (by decide +kernel)⟩
abbrev mX6_wallsThatGive : Mt := (yX6_wallsThatGive, cX6_wallsThatGive, 3, (some (.int)))
set_option maxRecDepth 100000 in
theorem kX6_wallsThatGive : Cond.initialized (yX6_wallsThatGive).cls ∈ tb ∧ Cond.code yX6_wallsThatGive cX6_wallsThatGive 3 (some (.int)) ∈ tb ∧ ((yX6_wallsThatGive).cls ≠ "java/lang/invoke/MethodHandle" ∧ (yX6_wallsThatGive).cls ≠ "java/lang/invoke/VarHandle" ∧ (parseMethodDescriptor (yX6_wallsThatGive).desc).map (fun d => d.parameters.length) = some 0) ∧ 3 ≤ 21 := ⟨tb_t 13 (by decide +kernel) (by decide +kernel), tb_t 1015 rfl (by decide +kernel), ⟨by decide +kernel, by decide +kernel, by decide +kernel⟩, by decide⟩
theorem vX6_wallsThatGive : Cond.instanceMethod yX6_wallsThatGive ∈ tb ∧ Cond.selects (yX6_wallsThatGive).cls yX6_wallsThatGive yX6_wallsThatGive ∈ tb := ⟨tb_t 1013 (by decide +kernel) (by decide +kernel), tb_t 1014 (by decide +kernel) (by decide +kernel)⟩
abbrev mX7_become : Mt := (yX7_become, cX7_become, 2, none)
set_option maxRecDepth 100000 in
theorem kX7_become : Cond.initialized (yX7_become).cls ∈ tb ∧ Cond.code yX7_become cX7_become 2 none ∈ tb ∧ ((yX7_become).cls ≠ "java/lang/invoke/MethodHandle" ∧ (yX7_become).cls ≠ "java/lang/invoke/VarHandle" ∧ (parseMethodDescriptor (yX7_become).desc).map (fun d => d.parameters.length) = some 1) ∧ 2 ≤ 21 := ⟨tb_t 8 (by decide +kernel) (by decide +kernel), tb_t 666 rfl (by decide +kernel), ⟨by decide +kernel, by decide +kernel, by decide +kernel⟩, by decide⟩
theorem vX7_become : Cond.instanceMethod yX7_become ∈ tb ∧ Cond.selects (yX7_become).cls yX7_become yX7_become ∈ tb := ⟨tb_t 664 (by decide +kernel) (by decide +kernel), tb_t 665 (by decide +kernel) (by decide +kernel)⟩
abbrev mX7_partOfStep : Mt := (yX7_partOfStep, cX7_partOfStep, 3, (some (.int)))
set_option maxRecDepth 100000 in
theorem kX7_partOfStep : Cond.initialized (yX7_partOfStep).cls ∈ tb ∧ Cond.code yX7_partOfStep cX7_partOfStep 3 (some (.int)) ∈ tb ∧ ((yX7_partOfStep).cls ≠ "java/lang/invoke/MethodHandle" ∧ (yX7_partOfStep).cls ≠ "java/lang/invoke/VarHandle" ∧ (parseMethodDescriptor (yX7_partOfStep).desc).map (fun d => d.parameters.length) = some 2) ∧ 3 ≤ 21 := ⟨tb_t 8 (by decide +kernel) (by decide +kernel), tb_t 841 rfl (by decide +kernel), ⟨by decide +kernel, by decide +kernel, by decide +kernel⟩, by decide⟩
theorem vX7_partOfStep : Cond.instanceMethod yX7_partOfStep ∈ tb ∧ Cond.selects (yX7_partOfStep).cls yX7_partOfStep yX7_partOfStep ∈ tb := ⟨tb_t 839 (by decide +kernel) (by decide +kernel), tb_t 840 (by decide +kernel) (by decide +kernel)⟩
abbrev mX7_readFrom : Mt := (yX7_readFrom, cX7_readFrom, 3, (some (.boolean)))
set_option maxRecDepth 100000 in
theorem kX7_readFrom : Cond.initialized (yX7_readFrom).cls ∈ tb ∧ Cond.code yX7_readFrom cX7_readFrom 3 (some (.boolean)) ∈ tb ∧ ((yX7_readFrom).cls ≠ "java/lang/invoke/MethodHandle" ∧ (yX7_readFrom).cls ≠ "java/lang/invoke/VarHandle" ∧ (parseMethodDescriptor (yX7_readFrom).desc).map (fun d => d.parameters.length) = some 1) ∧ 3 ≤ 21 := ⟨tb_t 8 (by decide +kernel) (by decide +kernel), tb_t 616 rfl (by decide +kernel), ⟨by decide +kernel, by decide +kernel, by decide +kernel⟩, by decide⟩
theorem vX7_readFrom : Cond.instanceMethod yX7_readFrom ∈ tb ∧ Cond.selects (yX7_readFrom).cls yX7_readFrom yX7_readFrom ∈ tb := ⟨tb_t 614 (by decide +kernel) (by decide +kernel), tb_t 615 (by decide +kernel) (by decide +kernel)⟩
abbrev mX7_readStep : Mt := (yX7_readStep, cX7_readStep, 5, (some (.boolean)))
set_option maxRecDepth 100000 in
theorem kX7_readStep : Cond.initialized (yX7_readStep).cls ∈ tb ∧ Cond.code yX7_readStep cX7_readStep 5 (some (.boolean)) ∈ tb ∧ ((yX7_readStep).cls ≠ "java/lang/invoke/MethodHandle" ∧ (yX7_readStep).cls ≠ "java/lang/invoke/VarHandle" ∧ (parseMethodDescriptor (yX7_readStep).desc).map (fun d => d.parameters.length) = some 2) ∧ 5 ≤ 21 := ⟨tb_t 8 (by decide +kernel) (by decide +kernel), tb_t 620 rfl (by decide +kernel), ⟨by decide +kernel, by decide +kernel, by decide +kernel⟩, by decide⟩
theorem vX7_readStep : Cond.instanceMethod yX7_readStep ∈ tb ∧ Cond.selects (yX7_readStep).cls yX7_readStep yX7_readStep ∈ tb := ⟨tb_t 619 (by decide +kernel) (by decide +kernel), tb_p 12 (by decide +kernel) (by decide +kernel)⟩
abbrev mX8_filledBytes : Mt := (yX8_filledBytes, cX8_filledBytes, 3, (some (.int)))
set_option maxRecDepth 100000 in
theorem kX8_filledBytes : Cond.initialized (yX8_filledBytes).cls ∈ tb ∧ Cond.code yX8_filledBytes cX8_filledBytes 3 (some (.int)) ∈ tb ∧ ((yX8_filledBytes).cls ≠ "java/lang/invoke/MethodHandle" ∧ (yX8_filledBytes).cls ≠ "java/lang/invoke/VarHandle" ∧ (parseMethodDescriptor (yX8_filledBytes).desc).map (fun d => d.parameters.length) = some 1) ∧ 3 ≤ 21 := ⟨tb_t 2 (by decide +kernel) (by decide +kernel), tb_t 392 rfl (by decide +kernel), ⟨by decide +kernel, by decide +kernel, by decide +kernel⟩, by decide⟩
theorem sX8_filledBytes : Cond.static yX8_filledBytes ∈ tb := tb_t 391 (by decide +kernel) (by decide +kernel)
abbrev mX8_isOnDigit : Mt := (yX8_isOnDigit, cX8_isOnDigit, 1, (some (.boolean)))
set_option maxRecDepth 100000 in
theorem kX8_isOnDigit : Cond.initialized (yX8_isOnDigit).cls ∈ tb ∧ Cond.code yX8_isOnDigit cX8_isOnDigit 1 (some (.boolean)) ∈ tb ∧ ((yX8_isOnDigit).cls ≠ "java/lang/invoke/MethodHandle" ∧ (yX8_isOnDigit).cls ≠ "java/lang/invoke/VarHandle" ∧ (parseMethodDescriptor (yX8_isOnDigit).desc).map (fun d => d.parameters.length) = some 0) ∧ 1 ≤ 21 := ⟨tb_t 2 (by decide +kernel) (by decide +kernel), tb_t 518 rfl (by decide +kernel), ⟨by decide +kernel, by decide +kernel, by decide +kernel⟩, by decide⟩
theorem vX8_isOnDigit : Cond.instanceMethod yX8_isOnDigit ∈ tb ∧ Cond.selects (yX8_isOnDigit).cls yX8_isOnDigit yX8_isOnDigit ∈ tb := ⟨tb_t 516 (by decide +kernel) (by decide +kernel), tb_t 517 (by decide +kernel) (by decide +kernel)⟩
abbrev mX8_look : Mt := (yX8_look, cX8_look, 1, (some (.int)))
set_option maxRecDepth 100000 in
theorem kX8_look : Cond.initialized (yX8_look).cls ∈ tb ∧ Cond.code yX8_look cX8_look 1 (some (.int)) ∈ tb ∧ ((yX8_look).cls ≠ "java/lang/invoke/MethodHandle" ∧ (yX8_look).cls ≠ "java/lang/invoke/VarHandle" ∧ (parseMethodDescriptor (yX8_look).desc).map (fun d => d.parameters.length) = some 0) ∧ 1 ≤ 21 := ⟨tb_t 2 (by decide +kernel) (by decide +kernel), tb_t 427 rfl (by decide +kernel), ⟨by decide +kernel, by decide +kernel, by decide +kernel⟩, by decide⟩
theorem vX8_look : Cond.instanceMethod yX8_look ∈ tb ∧ Cond.selects (yX8_look).cls yX8_look yX8_look ∈ tb := ⟨tb_t 425 (by decide +kernel) (by decide +kernel), tb_t 426 (by decide +kernel) (by decide +kernel)⟩
abbrev mX8_put : Mt := (yX8_put, cX8_put, 4, none)
set_option maxRecDepth 100000 in
theorem kX8_put : Cond.initialized (yX8_put).cls ∈ tb ∧ Cond.code yX8_put cX8_put 4 none ∈ tb ∧ ((yX8_put).cls ≠ "java/lang/invoke/MethodHandle" ∧ (yX8_put).cls ≠ "java/lang/invoke/VarHandle" ∧ (parseMethodDescriptor (yX8_put).desc).map (fun d => d.parameters.length) = some 1) ∧ 4 ≤ 21 := ⟨tb_t 2 (by decide +kernel) (by decide +kernel), tb_t 396 rfl (by decide +kernel), ⟨by decide +kernel, by decide +kernel, by decide +kernel⟩, by decide⟩
theorem vX8_put : Cond.instanceMethod yX8_put ∈ tb ∧ Cond.selects (yX8_put).cls yX8_put yX8_put ∈ tb := ⟨tb_t 394 (by decide +kernel) (by decide +kernel), tb_t 395 (by decide +kernel) (by decide +kernel)⟩
abbrev mX8_take : Mt := (yX8_take, cX8_take, 2, (some (.boolean)))
set_option maxRecDepth 100000 in
theorem kX8_take : Cond.initialized (yX8_take).cls ∈ tb ∧ Cond.code yX8_take cX8_take 2 (some (.boolean)) ∈ tb ∧ ((yX8_take).cls ≠ "java/lang/invoke/MethodHandle" ∧ (yX8_take).cls ≠ "java/lang/invoke/VarHandle" ∧ (parseMethodDescriptor (yX8_take).desc).map (fun d => d.parameters.length) = some 1) ∧ 2 ≤ 21 := ⟨tb_t 2 (by decide +kernel) (by decide +kernel), tb_t 546 rfl (by decide +kernel), ⟨by decide +kernel, by decide +kernel, by decide +kernel⟩, by decide⟩
theorem vX8_take : Cond.instanceMethod yX8_take ∈ tb ∧ Cond.selects (yX8_take).cls yX8_take yX8_take ∈ tb := ⟨tb_t 544 (by decide +kernel) (by decide +kernel), tb_t 545 (by decide +kernel) (by decide +kernel)⟩
abbrev mX8_takeDigit : Mt := (yX8_takeDigit, cX8_takeDigit, 1, (some (.int)))
set_option maxRecDepth 100000 in
theorem kX8_takeDigit : Cond.initialized (yX8_takeDigit).cls ∈ tb ∧ Cond.code yX8_takeDigit cX8_takeDigit 1 (some (.int)) ∈ tb ∧ ((yX8_takeDigit).cls ≠ "java/lang/invoke/MethodHandle" ∧ (yX8_takeDigit).cls ≠ "java/lang/invoke/VarHandle" ∧ (parseMethodDescriptor (yX8_takeDigit).desc).map (fun d => d.parameters.length) = some 0) ∧ 1 ≤ 21 := ⟨tb_t 2 (by decide +kernel) (by decide +kernel), tb_t 627 rfl (by decide +kernel), ⟨by decide +kernel, by decide +kernel, by decide +kernel⟩, by decide⟩
theorem vX8_takeDigit : Cond.instanceMethod yX8_takeDigit ∈ tb ∧ Cond.selects (yX8_takeDigit).cls yX8_takeDigit yX8_takeDigit ∈ tb := ⟨tb_t 625 (by decide +kernel) (by decide +kernel), tb_t 626 (by decide +kernel) (by decide +kernel)⟩
abbrev mX8_takeNumber : Mt := (yX8_takeNumber, cX8_takeNumber, 4, (some (.int)))
set_option maxRecDepth 100000 in
theorem kX8_takeNumber : Cond.initialized (yX8_takeNumber).cls ∈ tb ∧ Cond.code yX8_takeNumber cX8_takeNumber 4 (some (.int)) ∈ tb ∧ ((yX8_takeNumber).cls ≠ "java/lang/invoke/MethodHandle" ∧ (yX8_takeNumber).cls ≠ "java/lang/invoke/VarHandle" ∧ (parseMethodDescriptor (yX8_takeNumber).desc).map (fun d => d.parameters.length) = some 1) ∧ 4 ≤ 21 := ⟨tb_t 2 (by decide +kernel) (by decide +kernel), tb_t 513 rfl (by decide +kernel), ⟨by decide +kernel, by decide +kernel, by decide +kernel⟩, by decide⟩
theorem vX8_takeNumber : Cond.instanceMethod yX8_takeNumber ∈ tb ∧ Cond.selects (yX8_takeNumber).cls yX8_takeNumber yX8_takeNumber ∈ tb := ⟨tb_t 511 (by decide +kernel) (by decide +kernel), tb_t 512 (by decide +kernel) (by decide +kernel)⟩
abbrev mX9_bareAmong : Mt := (yX9_bareAmong, cX9_bareAmong, 4, (some (.int)))
set_option maxRecDepth 100000 in
theorem kX9_bareAmong : Cond.initialized (yX9_bareAmong).cls ∈ tb ∧ Cond.code yX9_bareAmong cX9_bareAmong 4 (some (.int)) ∈ tb ∧ ((yX9_bareAmong).cls ≠ "java/lang/invoke/MethodHandle" ∧ (yX9_bareAmong).cls ≠ "java/lang/invoke/VarHandle" ∧ (parseMethodDescriptor (yX9_bareAmong).desc).map (fun d => d.parameters.length) = some 1) ∧ 4 ≤ 21 := ⟨tb_t 3 (by decide +kernel) (by decide +kernel), tb_t 772 rfl (by decide +kernel), ⟨by decide +kernel, by decide +kernel, by decide +kernel⟩, by decide⟩
theorem vX9_bareAmong : Cond.instanceMethod yX9_bareAmong ∈ tb ∧ Cond.selects (yX9_bareAmong).cls yX9_bareAmong yX9_bareAmong ∈ tb := ⟨tb_t 770 (by decide +kernel) (by decide +kernel), tb_t 771 (by decide +kernel) (by decide +kernel)⟩
abbrev mX9_become : Mt := (yX9_become, cX9_become, 3, none)
set_option maxRecDepth 100000 in
theorem kX9_become : Cond.initialized (yX9_become).cls ∈ tb ∧ Cond.code yX9_become cX9_become 3 none ∈ tb ∧ ((yX9_become).cls ≠ "java/lang/invoke/MethodHandle" ∧ (yX9_become).cls ≠ "java/lang/invoke/VarHandle" ∧ (parseMethodDescriptor (yX9_become).desc).map (fun d => d.parameters.length) = some 1) ∧ 3 ≤ 21 := ⟨tb_t 3 (by decide +kernel) (by decide +kernel), tb_t 640 rfl (by decide +kernel), ⟨by decide +kernel, by decide +kernel, by decide +kernel⟩, by decide⟩
theorem vX9_become : Cond.instanceMethod yX9_become ∈ tb ∧ Cond.selects (yX9_become).cls yX9_become yX9_become ∈ tb := ⟨tb_t 638 (by decide +kernel) (by decide +kernel), tb_t 639 (by decide +kernel) (by decide +kernel)⟩
abbrev mX9_copyRow : Mt := (yX9_copyRow, cX9_copyRow, 2, none)
set_option maxRecDepth 100000 in
theorem kX9_copyRow : Cond.initialized (yX9_copyRow).cls ∈ tb ∧ Cond.code yX9_copyRow cX9_copyRow 2 none ∈ tb ∧ ((yX9_copyRow).cls ≠ "java/lang/invoke/MethodHandle" ∧ (yX9_copyRow).cls ≠ "java/lang/invoke/VarHandle" ∧ (parseMethodDescriptor (yX9_copyRow).desc).map (fun d => d.parameters.length) = some 2) ∧ 2 ≤ 21 := ⟨tb_t 3 (by decide +kernel) (by decide +kernel), tb_t 413 rfl (by decide +kernel), ⟨by decide +kernel, by decide +kernel, by decide +kernel⟩, by decide⟩
theorem sX9_copyRow : Cond.static yX9_copyRow ∈ tb := tb_t 412 (by decide +kernel) (by decide +kernel)
abbrev mX9_groupOf : Mt := (yX9_groupOf, cX9_groupOf, 7, (some (.int)))
set_option maxRecDepth 100000 in
theorem kX9_groupOf : Cond.initialized (yX9_groupOf).cls ∈ tb ∧ Cond.code yX9_groupOf cX9_groupOf 7 (some (.int)) ∈ tb ∧ ((yX9_groupOf).cls ≠ "java/lang/invoke/MethodHandle" ∧ (yX9_groupOf).cls ≠ "java/lang/invoke/VarHandle" ∧ (parseMethodDescriptor (yX9_groupOf).desc).map (fun d => d.parameters.length) = some 2) ∧ 7 ≤ 21 := ⟨tb_t 3 (by decide +kernel) (by decide +kernel), tb_t 937 rfl (by decide +kernel), ⟨by decide +kernel, by decide +kernel, by decide +kernel⟩, by decide⟩
theorem vX9_groupOf : Cond.instanceMethod yX9_groupOf ∈ tb ∧ Cond.selects (yX9_groupOf).cls yX9_groupOf yX9_groupOf ∈ tb := ⟨tb_t 935 (by decide +kernel) (by decide +kernel), tb_t 936 (by decide +kernel) (by decide +kernel)⟩
abbrev mX9_hasPipe : Mt := (yX9_hasPipe, cX9_hasPipe, 2, (some (.boolean)))
set_option maxRecDepth 100000 in
theorem kX9_hasPipe : Cond.initialized (yX9_hasPipe).cls ∈ tb ∧ Cond.code yX9_hasPipe cX9_hasPipe 2 (some (.boolean)) ∈ tb ∧ ((yX9_hasPipe).cls ≠ "java/lang/invoke/MethodHandle" ∧ (yX9_hasPipe).cls ≠ "java/lang/invoke/VarHandle" ∧ (parseMethodDescriptor (yX9_hasPipe).desc).map (fun d => d.parameters.length) = some 1) ∧ 2 ≤ 21 := ⟨tb_t 3 (by decide +kernel) (by decide +kernel), tb_t 680 rfl (by decide +kernel), ⟨by decide +kernel, by decide +kernel, by decide +kernel⟩, by decide⟩
theorem vX9_hasPipe : Cond.instanceMethod yX9_hasPipe ∈ tb ∧ Cond.selects (yX9_hasPipe).cls yX9_hasPipe yX9_hasPipe ∈ tb := ⟨tb_t 678 (by decide +kernel) (by decide +kernel), tb_t 679 (by decide +kernel) (by decide +kernel)⟩
abbrev mX9_hasPond : Mt := (yX9_hasPond, cX9_hasPond, 2, (some (.boolean)))
set_option maxRecDepth 100000 in
theorem kX9_hasPond : Cond.initialized (yX9_hasPond).cls ∈ tb ∧ Cond.code yX9_hasPond cX9_hasPond 2 (some (.boolean)) ∈ tb ∧ ((yX9_hasPond).cls ≠ "java/lang/invoke/MethodHandle" ∧ (yX9_hasPond).cls ≠ "java/lang/invoke/VarHandle" ∧ (parseMethodDescriptor (yX9_hasPond).desc).map (fun d => d.parameters.length) = some 1) ∧ 2 ≤ 21 := ⟨tb_t 3 (by decide +kernel) (by decide +kernel), tb_t 538 rfl (by decide +kernel), ⟨by decide +kernel, by decide +kernel, by decide +kernel⟩, by decide⟩
theorem vX9_hasPond : Cond.instanceMethod yX9_hasPond ∈ tb ∧ Cond.selects (yX9_hasPond).cls yX9_hasPond yX9_hasPond ∈ tb := ⟨tb_t 536 (by decide +kernel) (by decide +kernel), tb_t 537 (by decide +kernel) (by decide +kernel)⟩
abbrev mX9_isTold : Mt := (yX9_isTold, cX9_isTold, 1, (some (.boolean)))
set_option maxRecDepth 100000 in
theorem kX9_isTold : Cond.initialized (yX9_isTold).cls ∈ tb ∧ Cond.code yX9_isTold cX9_isTold 1 (some (.boolean)) ∈ tb ∧ ((yX9_isTold).cls ≠ "java/lang/invoke/MethodHandle" ∧ (yX9_isTold).cls ≠ "java/lang/invoke/VarHandle" ∧ (parseMethodDescriptor (yX9_isTold).desc).map (fun d => d.parameters.length) = some 0) ∧ 1 ≤ 21 := ⟨tb_t 3 (by decide +kernel) (by decide +kernel), tb_t 542 rfl (by decide +kernel), ⟨by decide +kernel, by decide +kernel, by decide +kernel⟩, by decide⟩
theorem vX9_isTold : Cond.instanceMethod yX9_isTold ∈ tb ∧ Cond.selects (yX9_isTold).cls yX9_isTold yX9_isTold ∈ tb := ⟨tb_t 540 (by decide +kernel) (by decide +kernel), tb_t 541 (by decide +kernel) (by decide +kernel)⟩
abbrev mX9_litAmong : Mt := (yX9_litAmong, cX9_litAmong, 4, (some (.int)))
set_option maxRecDepth 100000 in
theorem kX9_litAmong : Cond.initialized (yX9_litAmong).cls ∈ tb ∧ Cond.code yX9_litAmong cX9_litAmong 4 (some (.int)) ∈ tb ∧ ((yX9_litAmong).cls ≠ "java/lang/invoke/MethodHandle" ∧ (yX9_litAmong).cls ≠ "java/lang/invoke/VarHandle" ∧ (parseMethodDescriptor (yX9_litAmong).desc).map (fun d => d.parameters.length) = some 1) ∧ 4 ≤ 21 := ⟨tb_t 3 (by decide +kernel) (by decide +kernel), tb_t 1050 rfl (by decide +kernel), ⟨by decide +kernel, by decide +kernel, by decide +kernel⟩, by decide⟩
theorem vX9_litAmong : Cond.instanceMethod yX9_litAmong ∈ tb ∧ Cond.selects (yX9_litAmong).cls yX9_litAmong yX9_litAmong ∈ tb := ⟨tb_t 1048 (by decide +kernel) (by decide +kernel), tb_t 1049 (by decide +kernel) (by decide +kernel)⟩
abbrev mX9_readClause : Mt := (yX9_readClause, cX9_readClause, 3, (some (.boolean)))
set_option maxRecDepth 100000 in
theorem kX9_readClause : Cond.initialized (yX9_readClause).cls ∈ tb ∧ Cond.code yX9_readClause cX9_readClause 3 (some (.boolean)) ∈ tb ∧ ((yX9_readClause).cls ≠ "java/lang/invoke/MethodHandle" ∧ (yX9_readClause).cls ≠ "java/lang/invoke/VarHandle" ∧ (parseMethodDescriptor (yX9_readClause).desc).map (fun d => d.parameters.length) = some 1) ∧ 3 ≤ 21 := ⟨tb_t 3 (by decide +kernel) (by decide +kernel), tb_t 423 rfl (by decide +kernel), ⟨by decide +kernel, by decide +kernel, by decide +kernel⟩, by decide⟩
theorem vX9_readClause : Cond.instanceMethod yX9_readClause ∈ tb ∧ Cond.selects (yX9_readClause).cls yX9_readClause yX9_readClause ∈ tb := ⟨tb_t 422 (by decide +kernel) (by decide +kernel), tb_p 0 (by decide +kernel) (by decide +kernel)⟩
abbrev mX9_readFrom : Mt := (yX9_readFrom, cX9_readFrom, 3, (some (.boolean)))
set_option maxRecDepth 100000 in
theorem kX9_readFrom : Cond.initialized (yX9_readFrom).cls ∈ tb ∧ Cond.code yX9_readFrom cX9_readFrom 3 (some (.boolean)) ∈ tb ∧ ((yX9_readFrom).cls ≠ "java/lang/invoke/MethodHandle" ∧ (yX9_readFrom).cls ≠ "java/lang/invoke/VarHandle" ∧ (parseMethodDescriptor (yX9_readFrom).desc).map (fun d => d.parameters.length) = some 1) ∧ 3 ≤ 21 := ⟨tb_t 3 (by decide +kernel) (by decide +kernel), tb_t 408 rfl (by decide +kernel), ⟨by decide +kernel, by decide +kernel, by decide +kernel⟩, by decide⟩
theorem vX9_readFrom : Cond.instanceMethod yX9_readFrom ∈ tb ∧ Cond.selects (yX9_readFrom).cls yX9_readFrom yX9_readFrom ∈ tb := ⟨tb_t 406 (by decide +kernel) (by decide +kernel), tb_t 407 (by decide +kernel) (by decide +kernel)⟩
abbrev mX9_readItems : Mt := (yX9_readItems, cX9_readItems, 9, (some (.boolean)))
set_option maxRecDepth 100000 in
theorem kX9_readItems : Cond.initialized (yX9_readItems).cls ∈ tb ∧ Cond.code yX9_readItems cX9_readItems 9 (some (.boolean)) ∈ tb ∧ ((yX9_readItems).cls ≠ "java/lang/invoke/MethodHandle" ∧ (yX9_readItems).cls ≠ "java/lang/invoke/VarHandle" ∧ (parseMethodDescriptor (yX9_readItems).desc).map (fun d => d.parameters.length) = some 5) ∧ 9 ≤ 21 := ⟨tb_t 3 (by decide +kernel) (by decide +kernel), tb_t 434 rfl (by decide +kernel), ⟨by decide +kernel, by decide +kernel, by decide +kernel⟩, by decide⟩
theorem sX9_readItems : Cond.static yX9_readItems ∈ tb := tb_t 433 (by decide +kernel) (by decide +kernel)
abbrev mX9_stands : Mt := (yX9_stands, cX9_stands, 4, (some (.boolean)))
set_option maxRecDepth 100000 in
theorem kX9_stands : Cond.initialized (yX9_stands).cls ∈ tb ∧ Cond.code yX9_stands cX9_stands 4 (some (.boolean)) ∈ tb ∧ ((yX9_stands).cls ≠ "java/lang/invoke/MethodHandle" ∧ (yX9_stands).cls ≠ "java/lang/invoke/VarHandle" ∧ (parseMethodDescriptor (yX9_stands).desc).map (fun d => d.parameters.length) = some 0) ∧ 4 ≤ 21 := ⟨tb_t 3 (by decide +kernel) (by decide +kernel), tb_t 534 rfl (by decide +kernel), ⟨by decide +kernel, by decide +kernel, by decide +kernel⟩, by decide⟩
theorem vX9_stands : Cond.instanceMethod yX9_stands ∈ tb ∧ Cond.selects (yX9_stands).cls yX9_stands yX9_stands ∈ tb := ⟨tb_t 533 (by decide +kernel) (by decide +kernel), tb_p 1 (by decide +kernel) (by decide +kernel)⟩
abbrev mX9_sumOfPonds : Mt := (yX9_sumOfPonds, cX9_sumOfPonds, 4, (some (.int)))
set_option maxRecDepth 100000 in
theorem kX9_sumOfPonds : Cond.initialized (yX9_sumOfPonds).cls ∈ tb ∧ Cond.code yX9_sumOfPonds cX9_sumOfPonds 4 (some (.int)) ∈ tb ∧ ((yX9_sumOfPonds).cls ≠ "java/lang/invoke/MethodHandle" ∧ (yX9_sumOfPonds).cls ≠ "java/lang/invoke/VarHandle" ∧ (parseMethodDescriptor (yX9_sumOfPonds).desc).map (fun d => d.parameters.length) = some 1) ∧ 4 ≤ 21 := ⟨tb_t 3 (by decide +kernel) (by decide +kernel), tb_t 1113 rfl (by decide +kernel), ⟨by decide +kernel, by decide +kernel, by decide +kernel⟩, by decide⟩
theorem vX9_sumOfPonds : Cond.instanceMethod yX9_sumOfPonds ∈ tb ∧ Cond.selects (yX9_sumOfPonds).cls yX9_sumOfPonds yX9_sumOfPonds ∈ tb := ⟨tb_t 1111 (by decide +kernel) (by decide +kernel), tb_t 1112 (by decide +kernel) (by decide +kernel)⟩
theorem fX8_9 : fOK RX8 9 8 0 2 := ⟨_, rfl, by decide, tb_t 40 (by decide +kernel) (by decide +kernel), rfl⟩
theorem fX11_106 : fOK RX11 106 8 1 0 := ⟨_, rfl, by decide, tb_t 41 (by decide +kernel) (by decide +kernel), rfl⟩
theorem fX8_15 : fOK RX8 15 8 1 0 := ⟨_, rfl, by decide, tb_t 42 (by decide +kernel) (by decide +kernel), rfl⟩
theorem fX4_22 : fOK RX4 22 8 2 0 := ⟨_, rfl, by decide, tb_t 43 (by decide +kernel) (by decide +kernel), rfl⟩
theorem fX7_31 : fOK RX7 31 8 2 0 := ⟨_, rfl, by decide, tb_t 44 (by decide +kernel) (by decide +kernel), rfl⟩
theorem fX8_19 : fOK RX8 19 8 2 0 := ⟨_, rfl, by decide, tb_t 45 (by decide +kernel) (by decide +kernel), rfl⟩
theorem fX11_122 : fOK RX11 122 8 2 0 := ⟨_, rfl, by decide, tb_t 46 (by decide +kernel) (by decide +kernel), rfl⟩
theorem fX9_46 : fOK RX9 46 8 2 0 := ⟨_, rfl, by decide, tb_t 47 (by decide +kernel) (by decide +kernel), rfl⟩
theorem wX9_11 : cV RX9 11 mJ0_length_8abf5 0 := ⟨⟨tb_t 63 (by decide +kernel) (by decide +kernel), kJ0_length_8abf5.1, kJ0_length_8abf5.2.1, kJ0_length_8abf5.2.2.1, kJ0_length_8abf5.2.2.2⟩, vJ0_length_8abf5⟩
theorem wJ0_335 : cV RJ0 335 mJ0_coder_7d493 0 := ⟨⟨tb_t 67 (by decide +kernel) (by decide +kernel), kJ0_coder_7d493.1, kJ0_coder_7d493.2.1, kJ0_coder_7d493.2.2.1, kJ0_coder_7d493.2.2.2⟩, vJ0_coder_7d493⟩
theorem gJ0_38 : Cond.fieldLink RJ0 38 "java/lang/String" "COMPACT_STRINGS" "Z" ∈ tb := tb_t 71 (by decide +kernel) (by decide +kernel)
theorem fX9_17 : fOK RX9 17 9 0 2 := ⟨_, rfl, by decide, tb_t 77 (by decide +kernel) (by decide +kernel), rfl⟩
theorem fX6_41 : fOK RX6 41 9 0 2 := ⟨_, rfl, by decide, tb_t 78 (by decide +kernel) (by decide +kernel), rfl⟩
theorem fX11_138 : fOK RX11 138 9 0 2 := ⟨_, rfl, by decide, tb_t 79 (by decide +kernel) (by decide +kernel), rfl⟩
theorem fX2_97 : fOK RX2 97 9 0 2 := ⟨_, rfl, by decide, tb_t 80 (by decide +kernel) (by decide +kernel), rfl⟩
theorem fX9_27 : fOK RX9 27 9 1 2 := ⟨_, rfl, by decide, tb_t 81 (by decide +kernel) (by decide +kernel), rfl⟩
theorem fX2_36 : fOK RX2 36 9 1 2 := ⟨_, rfl, by decide, tb_t 82 (by decide +kernel) (by decide +kernel), rfl⟩
theorem fX6_69 : fOK RX6 69 9 1 2 := ⟨_, rfl, by decide, tb_t 83 (by decide +kernel) (by decide +kernel), rfl⟩
theorem fX10_31 : fOK RX10 31 9 1 2 := ⟨_, rfl, by decide, tb_t 84 (by decide +kernel) (by decide +kernel), rfl⟩
theorem fX11_158 : fOK RX11 158 9 1 2 := ⟨_, rfl, by decide, tb_t 85 (by decide +kernel) (by decide +kernel), rfl⟩
theorem fX9_32 : fOK RX9 32 9 2 2 := ⟨_, rfl, by decide, tb_t 86 (by decide +kernel) (by decide +kernel), rfl⟩
theorem fX2_26 : fOK RX2 26 9 2 2 := ⟨_, rfl, by decide, tb_t 87 (by decide +kernel) (by decide +kernel), rfl⟩
theorem fX10_38 : fOK RX10 38 9 2 2 := ⟨_, rfl, by decide, tb_t 88 (by decide +kernel) (by decide +kernel), rfl⟩
theorem fX11_172 : fOK RX11 172 9 2 2 := ⟨_, rfl, by decide, tb_t 89 (by decide +kernel) (by decide +kernel), rfl⟩
theorem fX6_125 : fOK RX6 125 9 2 2 := ⟨_, rfl, by decide, tb_t 90 (by decide +kernel) (by decide +kernel), rfl⟩
theorem fX9_51 : fOK RX9 51 9 3 0 := ⟨_, rfl, by decide, tb_t 91 (by decide +kernel) (by decide +kernel), rfl⟩
theorem fX9_35 : fOK RX9 35 9 4 0 := ⟨_, rfl, by decide, tb_t 92 (by decide +kernel) (by decide +kernel), rfl⟩
theorem fX5_29 : fOK RX5 29 9 4 0 := ⟨_, rfl, by decide, tb_t 93 (by decide +kernel) (by decide +kernel), rfl⟩
theorem fX2_75 : fOK RX2 75 9 4 0 := ⟨_, rfl, by decide, tb_t 94 (by decide +kernel) (by decide +kernel), rfl⟩
theorem fX6_119 : fOK RX6 119 9 4 0 := ⟨_, rfl, by decide, tb_t 95 (by decide +kernel) (by decide +kernel), rfl⟩
theorem fX11_269 : fOK RX11 269 9 4 0 := ⟨_, rfl, by decide, tb_t 96 (by decide +kernel) (by decide +kernel), rfl⟩
theorem fX9_39 : fOK RX9 39 9 5 0 := ⟨_, rfl, by decide, tb_t 97 (by decide +kernel) (by decide +kernel), rfl⟩
theorem fX2_64 : fOK RX2 64 9 5 0 := ⟨_, rfl, by decide, tb_t 98 (by decide +kernel) (by decide +kernel), rfl⟩
theorem fX10_35 : fOK RX10 35 9 5 0 := ⟨_, rfl, by decide, tb_t 99 (by decide +kernel) (by decide +kernel), rfl⟩
theorem fX6_98 : fOK RX6 98 9 5 0 := ⟨_, rfl, by decide, tb_t 100 (by decide +kernel) (by decide +kernel), rfl⟩
theorem fX11_356 : fOK RX11 356 9 5 0 := ⟨_, rfl, by decide, tb_t 101 (by decide +kernel) (by decide +kernel), rfl⟩
theorem wX3_17 : cV RX3 17 mJ0_length_8abf5 0 := ⟨⟨tb_t 129 (by decide +kernel) (by decide +kernel), kJ0_length_8abf5.1, kJ0_length_8abf5.2.1, kJ0_length_8abf5.2.2.1, kJ0_length_8abf5.2.2.2⟩, vJ0_length_8abf5⟩
theorem fX3_9 : fOK RX3 9 3 0 2 := ⟨_, rfl, by decide, tb_t 130 (by decide +kernel) (by decide +kernel), rfl⟩
theorem fX4_28 : fOK RX4 28 3 1 0 := ⟨_, rfl, by decide, tb_t 131 (by decide +kernel) (by decide +kernel), rfl⟩
theorem fX3_35 : fOK RX3 35 3 1 0 := ⟨_, rfl, by decide, tb_t 132 (by decide +kernel) (by decide +kernel), rfl⟩
theorem fX3_23 : fOK RX3 23 3 2 2 := ⟨_, rfl, by decide, tb_t 133 (by decide +kernel) (by decide +kernel), rfl⟩
theorem fX3_26 : fOK RX3 26 3 3 2 := ⟨_, rfl, by decide, tb_t 134 (by decide +kernel) (by decide +kernel), rfl⟩
theorem fX4_12 : fOK RX4 12 4 0 2 := ⟨_, rfl, by decide, tb_t 144 (by decide +kernel) (by decide +kernel), rfl⟩
theorem fX11_382 : fOK RX11 382 4 0 2 := ⟨_, rfl, by decide, tb_t 145 (by decide +kernel) (by decide +kernel), rfl⟩
theorem fX4_18 : fOK RX4 18 4 1 2 := ⟨_, rfl, by decide, tb_t 146 (by decide +kernel) (by decide +kernel), rfl⟩
theorem fX2_11 : fOK RX2 11 2 0 2 := ⟨_, rfl, by decide, tb_t 161 (by decide +kernel) (by decide +kernel), rfl⟩
theorem fX11_378 : fOK RX11 378 2 0 2 := ⟨_, rfl, by decide, tb_t 162 (by decide +kernel) (by decide +kernel), rfl⟩
theorem fX2_51 : fOK RX2 51 2 1 0 := ⟨_, rfl, by decide, tb_t 163 (by decide +kernel) (by decide +kernel), rfl⟩
theorem fX11_175 : fOK RX11 175 2 1 0 := ⟨_, rfl, by decide, tb_t 164 (by decide +kernel) (by decide +kernel), rfl⟩
theorem fX2_17 : fOK RX2 17 2 2 0 := ⟨_, rfl, by decide, tb_t 165 (by decide +kernel) (by decide +kernel), rfl⟩
theorem fX11_178 : fOK RX11 178 2 2 0 := ⟨_, rfl, by decide, tb_t 166 (by decide +kernel) (by decide +kernel), rfl⟩
theorem fX2_21 : fOK RX2 21 2 3 2 := ⟨_, rfl, by decide, tb_t 167 (by decide +kernel) (by decide +kernel), rfl⟩
theorem fX7_9 : fOK RX7 9 7 0 2 := ⟨_, rfl, by decide, tb_t 184 (by decide +kernel) (by decide +kernel), rfl⟩
theorem fX6_81 : fOK RX6 81 7 0 2 := ⟨_, rfl, by decide, tb_t 185 (by decide +kernel) (by decide +kernel), rfl⟩
theorem fX11_241 : fOK RX11 241 7 0 2 := ⟨_, rfl, by decide, tb_t 186 (by decide +kernel) (by decide +kernel), rfl⟩
theorem fX7_15 : fOK RX7 15 7 1 2 := ⟨_, rfl, by decide, tb_t 187 (by decide +kernel) (by decide +kernel), rfl⟩
theorem fX6_84 : fOK RX6 84 7 1 2 := ⟨_, rfl, by decide, tb_t 188 (by decide +kernel) (by decide +kernel), rfl⟩
theorem fX11_244 : fOK RX11 244 7 1 2 := ⟨_, rfl, by decide, tb_t 189 (by decide +kernel) (by decide +kernel), rfl⟩
theorem fX7_18 : fOK RX7 18 7 2 2 := ⟨_, rfl, by decide, tb_t 190 (by decide +kernel) (by decide +kernel), rfl⟩
theorem fX6_87 : fOK RX6 87 7 2 2 := ⟨_, rfl, by decide, tb_t 191 (by decide +kernel) (by decide +kernel), rfl⟩
theorem fX11_247 : fOK RX11 247 7 2 2 := ⟨_, rfl, by decide, tb_t 192 (by decide +kernel) (by decide +kernel), rfl⟩
theorem fX7_27 : fOK RX7 27 7 3 0 := ⟨_, rfl, by decide, tb_t 193 (by decide +kernel) (by decide +kernel), rfl⟩
theorem fX6_76 : fOK RX6 76 7 3 0 := ⟨_, rfl, by decide, tb_t 194 (by decide +kernel) (by decide +kernel), rfl⟩
theorem fX11_223 : fOK RX11 223 7 3 0 := ⟨_, rfl, by decide, tb_t 195 (by decide +kernel) (by decide +kernel), rfl⟩
theorem fX10_9 : fOK RX10 9 10 0 2 := ⟨_, rfl, by decide, tb_t 211 (by decide +kernel) (by decide +kernel), rfl⟩
theorem fX2_39 : fOK RX2 39 10 0 2 := ⟨_, rfl, by decide, tb_t 212 (by decide +kernel) (by decide +kernel), rfl⟩
theorem fX6_73 : fOK RX6 73 10 0 2 := ⟨_, rfl, by decide, tb_t 213 (by decide +kernel) (by decide +kernel), rfl⟩
theorem fX11_149 : fOK RX11 149 10 0 2 := ⟨_, rfl, by decide, tb_t 214 (by decide +kernel) (by decide +kernel), rfl⟩
theorem fX9_113 : fOK RX9 113 10 0 2 := ⟨_, rfl, by decide, tb_t 215 (by decide +kernel) (by decide +kernel), rfl⟩
theorem fX10_15 : fOK RX10 15 10 1 2 := ⟨_, rfl, by decide, tb_t 216 (by decide +kernel) (by decide +kernel), rfl⟩
theorem fX2_88 : fOK RX2 88 10 1 2 := ⟨_, rfl, by decide, tb_t 217 (by decide +kernel) (by decide +kernel), rfl⟩
theorem fX11_152 : fOK RX11 152 10 1 2 := ⟨_, rfl, by decide, tb_t 218 (by decide +kernel) (by decide +kernel), rfl⟩
theorem fX6_143 : fOK RX6 143 10 1 2 := ⟨_, rfl, by decide, tb_t 219 (by decide +kernel) (by decide +kernel), rfl⟩
theorem fX10_18 : fOK RX10 18 10 2 2 := ⟨_, rfl, by decide, tb_t 220 (by decide +kernel) (by decide +kernel), rfl⟩
theorem fX2_91 : fOK RX2 91 10 2 2 := ⟨_, rfl, by decide, tb_t 221 (by decide +kernel) (by decide +kernel), rfl⟩
theorem fX11_155 : fOK RX11 155 10 2 2 := ⟨_, rfl, by decide, tb_t 222 (by decide +kernel) (by decide +kernel), rfl⟩
theorem fX6_146 : fOK RX6 146 10 2 2 := ⟨_, rfl, by decide, tb_t 223 (by decide +kernel) (by decide +kernel), rfl⟩
theorem fX6_37 : fOK RX6 37 10 3 0 := ⟨_, rfl, by decide, tb_t 224 (by decide +kernel) (by decide +kernel), rfl⟩
theorem fX10_21 : fOK RX10 21 10 3 0 := ⟨_, rfl, by decide, tb_t 225 (by decide +kernel) (by decide +kernel), rfl⟩
theorem fX11_250 : fOK RX11 250 10 3 0 := ⟨_, rfl, by decide, tb_t 226 (by decide +kernel) (by decide +kernel), rfl⟩
theorem fX10_41 : fOK RX10 41 10 4 0 := ⟨_, rfl, by decide, tb_t 227 (by decide +kernel) (by decide +kernel), rfl⟩
theorem fX2_94 : fOK RX2 94 10 4 0 := ⟨_, rfl, by decide, tb_t 228 (by decide +kernel) (by decide +kernel), rfl⟩
theorem fX11_362 : fOK RX11 362 10 4 0 := ⟨_, rfl, by decide, tb_t 229 (by decide +kernel) (by decide +kernel), rfl⟩
theorem fX2_54 : fOK RX2 54 10 5 0 := ⟨_, rfl, by decide, tb_t 230 (by decide +kernel) (by decide +kernel), rfl⟩
theorem fX6_63 : fOK RX6 63 10 5 0 := ⟨_, rfl, by decide, tb_t 231 (by decide +kernel) (by decide +kernel), rfl⟩
theorem fX10_44 : fOK RX10 44 10 5 0 := ⟨_, rfl, by decide, tb_t 232 (by decide +kernel) (by decide +kernel), rfl⟩
theorem fX11_192 : fOK RX11 192 10 5 0 := ⟨_, rfl, by decide, tb_t 233 (by decide +kernel) (by decide +kernel), rfl⟩
theorem fX1_15 : fOK RX1 15 1 0 0 := ⟨_, rfl, by decide, tb_t 253 (by decide +kernel) (by decide +kernel), rfl⟩
theorem fX0_28 : fOK RX0 28 1 0 0 := ⟨_, rfl, by decide, tb_t 254 (by decide +kernel) (by decide +kernel), rfl⟩
theorem fX11_375 : fOK RX11 375 1 0 0 := ⟨_, rfl, by decide, tb_t 255 (by decide +kernel) (by decide +kernel), rfl⟩
theorem fX1_11 : fOK RX1 11 1 1 2 := ⟨_, rfl, by decide, tb_t 256 (by decide +kernel) (by decide +kernel), rfl⟩
theorem fX0_17 : fOK RX0 17 0 0 0 := ⟨_, rfl, by decide, tb_t 268 (by decide +kernel) (by decide +kernel), rfl⟩
theorem fX11_213 : fOK RX11 213 0 0 0 := ⟨_, rfl, by decide, tb_t 269 (by decide +kernel) (by decide +kernel), rfl⟩
theorem fX0_21 : fOK RX0 21 0 1 0 := ⟨_, rfl, by decide, tb_t 270 (by decide +kernel) (by decide +kernel), rfl⟩
theorem fX0_13 : fOK RX0 13 0 2 2 := ⟨_, rfl, by decide, tb_t 271 (by decide +kernel) (by decide +kernel), rfl⟩
theorem fX5_25 : fOK RX5 25 5 0 0 := ⟨_, rfl, by decide, tb_t 285 (by decide +kernel) (by decide +kernel), rfl⟩
theorem fX11_293 : fOK RX11 293 5 0 0 := ⟨_, rfl, by decide, tb_t 286 (by decide +kernel) (by decide +kernel), rfl⟩
theorem fX5_9 : fOK RX5 9 5 1 2 := ⟨_, rfl, by decide, tb_t 287 (by decide +kernel) (by decide +kernel), rfl⟩
theorem fX5_15 : fOK RX5 15 5 2 2 := ⟨_, rfl, by decide, tb_t 288 (by decide +kernel) (by decide +kernel), rfl⟩
theorem fX5_18 : fOK RX5 18 5 3 2 := ⟨_, rfl, by decide, tb_t 289 (by decide +kernel) (by decide +kernel), rfl⟩
theorem fX5_21 : fOK RX5 21 5 4 2 := ⟨_, rfl, by decide, tb_t 290 (by decide +kernel) (by decide +kernel), rfl⟩
theorem fX6_12 : fOK RX6 12 6 0 2 := ⟨_, rfl, by decide, tb_t 310 (by decide +kernel) (by decide +kernel), rfl⟩
theorem fX11_234 : fOK RX11 234 6 0 2 := ⟨_, rfl, by decide, tb_t 311 (by decide +kernel) (by decide +kernel), rfl⟩
theorem fX6_18 : fOK RX6 18 6 1 2 := ⟨_, rfl, by decide, tb_t 312 (by decide +kernel) (by decide +kernel), rfl⟩
theorem fX11_317 : fOK RX11 317 6 1 2 := ⟨_, rfl, by decide, tb_t 313 (by decide +kernel) (by decide +kernel), rfl⟩
theorem fX6_22 : fOK RX6 22 6 2 2 := ⟨_, rfl, by decide, tb_t 314 (by decide +kernel) (by decide +kernel), rfl⟩
theorem fX6_26 : fOK RX6 26 6 3 2 := ⟨_, rfl, by decide, tb_t 315 (by decide +kernel) (by decide +kernel), rfl⟩
theorem fX6_30 : fOK RX6 30 6 4 2 := ⟨_, rfl, by decide, tb_t 316 (by decide +kernel) (by decide +kernel), rfl⟩
theorem fX11_10 : fOK RX11 10 11 0 2 := ⟨_, rfl, by decide, tb_t 328 (by decide +kernel) (by decide +kernel), rfl⟩
theorem fX11_19 : fOK RX11 19 11 1 2 := ⟨_, rfl, by decide, tb_t 329 (by decide +kernel) (by decide +kernel), rfl⟩
theorem fX11_23 : fOK RX11 23 11 2 2 := ⟨_, rfl, by decide, tb_t 330 (by decide +kernel) (by decide +kernel), rfl⟩
theorem fX11_31 : fOK RX11 31 11 3 2 := ⟨_, rfl, by decide, tb_t 331 (by decide +kernel) (by decide +kernel), rfl⟩
theorem fX11_40 : fOK RX11 40 11 4 2 := ⟨_, rfl, by decide, tb_t 332 (by decide +kernel) (by decide +kernel), rfl⟩
theorem fX11_46 : fOK RX11 46 11 5 2 := ⟨_, rfl, by decide, tb_t 333 (by decide +kernel) (by decide +kernel), rfl⟩
theorem fX11_51 : fOK RX11 51 11 6 2 := ⟨_, rfl, by decide, tb_t 334 (by decide +kernel) (by decide +kernel), rfl⟩
theorem fX11_359 : fOK RX11 359 11 7 0 := ⟨_, rfl, by decide, tb_t 335 (by decide +kernel) (by decide +kernel), rfl⟩
theorem fX11_58 : fOK RX11 58 11 8 2 := ⟨_, rfl, by decide, tb_t 336 (by decide +kernel) (by decide +kernel), rfl⟩
theorem fX11_65 : fOK RX11 65 11 9 2 := ⟨_, rfl, by decide, tb_t 337 (by decide +kernel) (by decide +kernel), rfl⟩
theorem fX11_72 : fOK RX11 72 11 10 2 := ⟨_, rfl, by decide, tb_t 338 (by decide +kernel) (by decide +kernel), rfl⟩
theorem fX11_76 : fOK RX11 76 11 11 2 := ⟨_, rfl, by decide, tb_t 339 (by decide +kernel) (by decide +kernel), rfl⟩
theorem fX11_79 : fOK RX11 79 11 12 2 := ⟨_, rfl, by decide, tb_t 340 (by decide +kernel) (by decide +kernel), rfl⟩
theorem fX11_349 : fOK RX11 349 11 13 0 := ⟨_, rfl, by decide, tb_t 341 (by decide +kernel) (by decide +kernel), rfl⟩
theorem fX11_85 : fOK RX11 85 11 14 2 := ⟨_, rfl, by decide, tb_t 342 (by decide +kernel) (by decide +kernel), rfl⟩
theorem fX11_94 : fOK RX11 94 11 15 2 := ⟨_, rfl, by decide, tb_t 343 (by decide +kernel) (by decide +kernel), rfl⟩
theorem fX11_98 : fOK RX11 98 11 16 0 := ⟨_, rfl, by decide, tb_t 344 (by decide +kernel) (by decide +kernel), rfl⟩
theorem fX11_181 : fOK RX11 181 11 17 0 := ⟨_, rfl, by decide, tb_t 345 (by decide +kernel) (by decide +kernel), rfl⟩
theorem fX11_199 : fOK RX11 199 11 18 1 := ⟨_, rfl, by decide, tb_t 346 (by decide +kernel) (by decide +kernel), rfl⟩
theorem wX11_102 : cS RX11 102 mX8_filledBytes 1 := ⟨⟨tb_t 390 (by decide +kernel) (by decide +kernel), kX8_filledBytes.1, kX8_filledBytes.2.1, kX8_filledBytes.2.2.1, kX8_filledBytes.2.2.2⟩, sX8_filledBytes⟩
theorem wX11_109 : cV RX11 109 mX8_put 1 := ⟨⟨tb_t 393 (by decide +kernel) (by decide +kernel), kX8_put.1, kX8_put.2.1, kX8_put.2.2.1, kX8_put.2.2.2⟩, vX8_put⟩
theorem wX11_113 : cV RX11 113 mX9_readFrom 1 := ⟨⟨tb_t 405 (by decide +kernel) (by decide +kernel), kX9_readFrom.1, kX9_readFrom.2.1, kX9_readFrom.2.2.1, kX9_readFrom.2.2.2⟩, vX9_readFrom⟩
theorem wX9_42 : cS RX9 42 mX9_copyRow 2 := ⟨⟨tb_t 411 (by decide +kernel) (by decide +kernel), kX9_copyRow.1, kX9_copyRow.2.1, kX9_copyRow.2.2.1, kX9_copyRow.2.2.2⟩, sX9_copyRow⟩
theorem wX9_118 : mL RX9 118 Lib.Math.min.name Lib.Math.min.code 2 .int := ⟨tb_t 414 (by decide +kernel) (by decide +kernel), tb_t 415 (by decide +kernel) (by decide +kernel), tb_t 15 (by decide +kernel) (by decide +kernel), tb_t 416 (by decide +kernel) (by decide +kernel)⟩
theorem wX9_124 : aL RX9 124 := ⟨tb_t 417 (by decide +kernel) (by decide +kernel), tb_t 419 (by decide +kernel) (by decide +kernel), tb_t 418 (by decide +kernel) (by decide +kernel), tb_t 16 (by decide +kernel) (by decide +kernel)⟩
theorem wX9_57 : cV RX9 57 mX9_readClause 1 := ⟨⟨tb_t 420 (by decide +kernel) (by decide +kernel), kX9_readClause.1, kX9_readClause.2.1, kX9_readClause.2.2.1, kX9_readClause.2.2.2⟩, vX9_readClause⟩
theorem wX9_61 : cV RX9 61 mX8_look 0 := ⟨⟨tb_t 424 (by decide +kernel) (by decide +kernel), kX8_look.1, kX8_look.2.1, kX8_look.2.2.1, kX8_look.2.2.2⟩, vX8_look⟩
theorem wX9_78 : cS RX9 78 mX9_readItems 5 := ⟨⟨tb_t 432 (by decide +kernel) (by decide +kernel), kX9_readItems.1, kX9_readItems.2.1, kX9_readItems.2.2.1, kX9_readItems.2.2.2⟩, sX9_readItems⟩
theorem wX9_100 : cV RX9 100 mJ0_indexOf_0f7a4 1 := ⟨⟨tb_t 435 (by decide +kernel) (by decide +kernel), kJ0_indexOf_0f7a4.1, kJ0_indexOf_0f7a4.2.1, kJ0_indexOf_0f7a4.2.2.1, kJ0_indexOf_0f7a4.2.2.2⟩, vJ0_indexOf_0f7a4⟩
theorem wJ0_633 : cV RJ0 633 mJ0_indexOf_7cf53 2 := ⟨⟨tb_t 439 (by decide +kernel) (by decide +kernel), kJ0_indexOf_7cf53.1, kJ0_indexOf_7cf53.2.1, kJ0_indexOf_7cf53.2.2.1, kJ0_indexOf_7cf53.2.2.2⟩, vJ0_indexOf_7cf53⟩
theorem wJ0_492 : cV RJ0 492 mJ0_isLatin1_aae02 0 := ⟨⟨tb_t 443 (by decide +kernel) (by decide +kernel), kJ0_isLatin1_aae02.1, kJ0_isLatin1_aae02.2.1, kJ0_isLatin1_aae02.2.2.1, kJ0_isLatin1_aae02.2.2.2⟩, vJ0_isLatin1_aae02⟩
theorem wJ0_505 : cV RJ0 505 mJ0_length_8abf5 0 := ⟨⟨tb_t 447 (by decide +kernel) (by decide +kernel), kJ0_length_8abf5.1, kJ0_length_8abf5.2.1, kJ0_length_8abf5.2.2.1, kJ0_length_8abf5.2.2.2⟩, vJ0_length_8abf5⟩
theorem wJ0_637 : cS RJ0 637 mJ1_indexOf_4cfef 4 := ⟨⟨tb_t 448 (by decide +kernel) (by decide +kernel), kJ1_indexOf_4cfef.1, kJ1_indexOf_4cfef.2.1, kJ1_indexOf_4cfef.2.2.1, kJ1_indexOf_4cfef.2.2.2⟩, sJ1_indexOf_4cfef⟩
theorem wJ1_88 : cS RJ1 88 mJ1_canEncode_9a6ad 1 := ⟨⟨tb_t 451 (by decide +kernel) (by decide +kernel), kJ1_canEncode_9a6ad.1, kJ1_canEncode_9a6ad.2.1, kJ1_canEncode_9a6ad.2.2.1, kJ1_canEncode_9a6ad.2.2.2⟩, sJ1_canEncode_9a6ad⟩
theorem wJ1_92 : mL RJ1 92 Lib.Math.max.name Lib.Math.max.code 2 .int := ⟨tb_t 454 (by decide +kernel) (by decide +kernel), tb_t 455 (by decide +kernel) (by decide +kernel), tb_t 15 (by decide +kernel) (by decide +kernel), tb_t 456 (by decide +kernel) (by decide +kernel)⟩
theorem wJ1_38 : mL RJ1 38 Lib.Math.min.name Lib.Math.min.code 2 .int := ⟨tb_t 457 (by decide +kernel) (by decide +kernel), tb_t 415 (by decide +kernel) (by decide +kernel), tb_t 15 (by decide +kernel) (by decide +kernel), tb_t 416 (by decide +kernel) (by decide +kernel)⟩
theorem wJ1_95 : cS RJ1 95 mJ1_indexOfChar_4cfef 4 := ⟨⟨tb_t 458 (by decide +kernel) (by decide +kernel), kJ1_indexOfChar_4cfef.1, kJ1_indexOfChar_4cfef.2.1, kJ1_indexOfChar_4cfef.2.2.1, kJ1_indexOfChar_4cfef.2.2.2⟩, sJ1_indexOfChar_4cfef⟩
theorem gJ0_1053 : Cond.fieldLink RJ0 1053 "jdk/internal/util/Preconditions" "SIOOBE_FORMATTER" "Ljava/util/function/BiFunction;" ∈ tb := tb_t 479 (by decide +kernel) (by decide +kernel)
theorem wJ0_1062 : cS RJ0 1062 mJ3_checkFromToIndex_8c36e 4 := ⟨⟨tb_t 481 (by decide +kernel) (by decide +kernel), kJ3_checkFromToIndex_8c36e.1, kJ3_checkFromToIndex_8c36e.2.1, kJ3_checkFromToIndex_8c36e.2.2.1, kJ3_checkFromToIndex_8c36e.2.2.2⟩, sJ3_checkFromToIndex_8c36e⟩
theorem wX9_104 : cV RX9 104 mX8_takeNumber 1 := ⟨⟨tb_t 510 (by decide +kernel) (by decide +kernel), kX8_takeNumber.1, kX8_takeNumber.2.1, kX8_takeNumber.2.2.1, kX8_takeNumber.2.2.2⟩, vX8_takeNumber⟩
theorem wX8_22 : cV RX8 22 mX8_look 0 := ⟨⟨tb_t 514 (by decide +kernel) (by decide +kernel), kX8_look.1, kX8_look.2.1, kX8_look.2.2.1, kX8_look.2.2.2⟩, vX8_look⟩
theorem wX8_26 : cV RX8 26 mX8_isOnDigit 0 := ⟨⟨tb_t 515 (by decide +kernel) (by decide +kernel), kX8_isOnDigit.1, kX8_isOnDigit.2.1, kX8_isOnDigit.2.2.1, kX8_isOnDigit.2.2.2⟩, vX8_isOnDigit⟩
theorem wX9_64 : cV RX9 64 mX9_stands 0 := ⟨⟨tb_t 531 (by decide +kernel) (by decide +kernel), kX9_stands.1, kX9_stands.2.1, kX9_stands.2.2.1, kX9_stands.2.2.2⟩, vX9_stands⟩
theorem wX9_107 : cV RX9 107 mX9_hasPond 1 := ⟨⟨tb_t 535 (by decide +kernel) (by decide +kernel), kX9_hasPond.1, kX9_hasPond.2.1, kX9_hasPond.2.2.1, kX9_hasPond.2.2.2⟩, vX9_hasPond⟩
theorem wX9_110 : cV RX9 110 mX9_isTold 0 := ⟨⟨tb_t 539 (by decide +kernel) (by decide +kernel), kX9_isTold.1, kX9_isTold.2.1, kX9_isTold.2.2.1, kX9_isTold.2.2.2⟩, vX9_isTold⟩
theorem wX9_68 : cV RX9 68 mX8_take 1 := ⟨⟨tb_t 543 (by decide +kernel) (by decide +kernel), kX8_take.1, kX8_take.2.1, kX8_take.2.2.1, kX8_take.2.2.2⟩, vX8_take⟩
theorem wX11_117 : cV RX11 117 mX4_readLaw 0 := ⟨⟨tb_t 547 (by decide +kernel) (by decide +kernel), kX4_readLaw.1, kX4_readLaw.2.1, kX4_readLaw.2.2.1, kX4_readLaw.2.2.2⟩, vX4_readLaw⟩
theorem wX4_31 : cV RX4 31 mX4_readClause 0 := ⟨⟨tb_t 551 (by decide +kernel) (by decide +kernel), kX4_readClause.1, kX4_readClause.2.1, kX4_readClause.2.2.1, kX4_readClause.2.2.2⟩, vX4_readClause⟩
theorem wX4_39 : cV RX4 39 mX8_take 1 := ⟨⟨tb_t 555 (by decide +kernel) (by decide +kernel), kX8_take.1, kX8_take.2.1, kX8_take.2.2.1, kX8_take.2.2.2⟩, vX8_take⟩
theorem wX4_35 : cV RX4 35 mX8_look 0 := ⟨⟨tb_t 556 (by decide +kernel) (by decide +kernel), kX8_look.1, kX8_look.2.1, kX8_look.2.2.1, kX8_look.2.2.2⟩, vX8_look⟩
theorem wX4_43 : cV RX4 43 mX4_readSum 1 := ⟨⟨tb_t 557 (by decide +kernel) (by decide +kernel), kX4_readSum.1, kX4_readSum.2.1, kX4_readSum.2.2.1, kX4_readSum.2.2.2⟩, vX4_readSum⟩
theorem wX4_76 : cV RX4 76 mX4_readTerm 1 := ⟨⟨tb_t 561 (by decide +kernel) (by decide +kernel), kX4_readTerm.1, kX4_readTerm.2.1, kX4_readTerm.2.2.1, kX4_readTerm.2.2.2⟩, vX4_readTerm⟩
theorem wX4_79 : cV RX4 79 mX4_readAtom 1 := ⟨⟨tb_t 565 (by decide +kernel) (by decide +kernel), kX4_readAtom.1, kX4_readAtom.2.1, kX4_readAtom.2.2.1, kX4_readAtom.2.2.2⟩, vX4_readAtom⟩
theorem wX4_84 : cV RX4 84 mJ0_indexOf_0f7a4 1 := ⟨⟨tb_t 570 (by decide +kernel) (by decide +kernel), kJ0_indexOf_0f7a4.1, kJ0_indexOf_0f7a4.2.1, kJ0_indexOf_0f7a4.2.2.1, kJ0_indexOf_0f7a4.2.2.2⟩, vJ0_indexOf_0f7a4⟩
theorem wX4_90 : cV RX4 90 mX3_putLetter 1 := ⟨⟨tb_t 571 (by decide +kernel) (by decide +kernel), kX3_putLetter.1, kX3_putLetter.2.1, kX3_putLetter.2.2.1, kX3_putLetter.2.2.2⟩, vX3_putLetter⟩
theorem wX3_39 : cV RX3 39 mX3_put 1 := ⟨⟨tb_t 575 (by decide +kernel) (by decide +kernel), kX3_put.1, kX3_put.2.1, kX3_put.2.2.1, kX3_put.2.2.2⟩, vX3_put⟩
theorem wX4_93 : cV RX4 93 mX8_takeNumber 1 := ⟨⟨tb_t 579 (by decide +kernel) (by decide +kernel), kX8_takeNumber.1, kX8_takeNumber.2.1, kX8_takeNumber.2.2.1, kX8_takeNumber.2.2.2⟩, vX8_takeNumber⟩
theorem wX4_49 : cV RX4 49 mX3_put 1 := ⟨⟨tb_t 580 (by decide +kernel) (by decide +kernel), kX3_put.1, kX3_put.2.1, kX3_put.2.2.1, kX3_put.2.2.2⟩, vX3_put⟩
theorem wX4_46 : cV RX4 46 mX4_comparison 0 := ⟨⟨tb_t 581 (by decide +kernel) (by decide +kernel), kX4_comparison.1, kX4_comparison.2.1, kX4_comparison.2.2.1, kX4_comparison.2.2.2⟩, vX4_comparison⟩
theorem wX4_53 : cV RX4 53 mX4_readUnit 2 := ⟨⟨tb_t 585 (by decide +kernel) (by decide +kernel), kX4_readUnit.1, kX4_readUnit.2.1, kX4_readUnit.2.2.1, kX4_readUnit.2.2.2⟩, vX4_readUnit⟩
theorem wX4_72 : cV RX4 72 mX4_readNested 2 := ⟨⟨tb_t 589 (by decide +kernel) (by decide +kernel), kX4_readNested.1, kX4_readNested.2.1, kX4_readNested.2.2.1, kX4_readNested.2.2.2⟩, vX4_readNested⟩
theorem wX4_57 : cV RX4 57 mX4_readMoreTruths 1 := ⟨⟨tb_t 593 (by decide +kernel) (by decide +kernel), kX4_readMoreTruths.1, kX4_readMoreTruths.2.1, kX4_readMoreTruths.2.2.1, kX4_readMoreTruths.2.2.2⟩, vX4_readMoreTruths⟩
theorem wX4_69 : cV RX4 69 mX4_readMoreUnits 1 := ⟨⟨tb_t 597 (by decide +kernel) (by decide +kernel), kX4_readMoreUnits.1, kX4_readMoreUnits.2.1, kX4_readMoreUnits.2.2.1, kX4_readMoreUnits.2.2.2⟩, vX4_readMoreUnits⟩
theorem wX4_60 : cV RX4 60 mX4_readAnswer 0 := ⟨⟨tb_t 601 (by decide +kernel) (by decide +kernel), kX4_readAnswer.1, kX4_readAnswer.2.1, kX4_readAnswer.2.2.1, kX4_readAnswer.2.2.2⟩, vX4_readAnswer⟩
theorem wX4_63 : cV RX4 63 mX3_putSkip 0 := ⟨⟨tb_t 605 (by decide +kernel) (by decide +kernel), kX3_putSkip.1, kX3_putSkip.2.1, kX3_putSkip.2.2.1, kX3_putSkip.2.2.2⟩, vX3_putSkip⟩
theorem wX4_66 : cV RX4 66 mX3_endSkip 1 := ⟨⟨tb_t 609 (by decide +kernel) (by decide +kernel), kX3_endSkip.1, kX3_endSkip.2.1, kX3_endSkip.2.2.1, kX3_endSkip.2.2.2⟩, vX3_endSkip⟩
theorem wX11_121 : cV RX11 121 mX7_readFrom 1 := ⟨⟨tb_t 613 (by decide +kernel) (by decide +kernel), kX7_readFrom.1, kX7_readFrom.2.1, kX7_readFrom.2.2.1, kX7_readFrom.2.2.2⟩, vX7_readFrom⟩
theorem wX7_36 : cV RX7 36 mX7_readStep 2 := ⟨⟨tb_t 617 (by decide +kernel) (by decide +kernel), kX7_readStep.1, kX7_readStep.2.1, kX7_readStep.2.2.1, kX7_readStep.2.2.2⟩, vX7_readStep⟩
theorem wX7_40 : cV RX7 40 mX8_look 0 := ⟨⟨tb_t 621 (by decide +kernel) (by decide +kernel), kX8_look.1, kX8_look.2.1, kX8_look.2.2.1, kX8_look.2.2.2⟩, vX8_look⟩
theorem wX7_50 : cV RX7 50 mJ0_indexOf_0f7a4 1 := ⟨⟨tb_t 623 (by decide +kernel) (by decide +kernel), kJ0_indexOf_0f7a4.1, kJ0_indexOf_0f7a4.2.1, kJ0_indexOf_0f7a4.2.2.1, kJ0_indexOf_0f7a4.2.2.2⟩, vJ0_indexOf_0f7a4⟩
theorem wX7_56 : cV RX7 56 mX8_takeDigit 0 := ⟨⟨tb_t 624 (by decide +kernel) (by decide +kernel), kX8_takeDigit.1, kX8_takeDigit.2.1, kX8_takeDigit.2.2.1, kX8_takeDigit.2.2.2⟩, vX8_takeDigit⟩
theorem wX7_44 : cV RX7 44 mX8_take 1 := ⟨⟨tb_t 628 (by decide +kernel) (by decide +kernel), kX8_take.1, kX8_take.2.1, kX8_take.2.2.1, kX8_take.2.2.2⟩, vX8_take⟩
theorem wX11_125 : cV RX11 125 mX11_settleTown 0 := ⟨⟨tb_t 633 (by decide +kernel) (by decide +kernel), kX11_settleTown.1, kX11_settleTown.2.1, kX11_settleTown.2.2.1, kX11_settleTown.2.2.2⟩, vX11_settleTown⟩
theorem wX11_370 : cV RX11 370 mX9_become 1 := ⟨⟨tb_t 637 (by decide +kernel) (by decide +kernel), kX9_become.1, kX9_become.2.1, kX9_become.2.2.1, kX9_become.2.2.2⟩, vX9_become⟩
theorem wX11_372 : cV RX11 372 mX10_begin 1 := ⟨⟨tb_t 641 (by decide +kernel) (by decide +kernel), kX10_begin.1, kX10_begin.2.1, kX10_begin.2.2.1, kX10_begin.2.2.2⟩, vX10_begin⟩
theorem wX10_25 : cV RX10 25 mX9_hasPond 1 := ⟨⟨tb_t 645 (by decide +kernel) (by decide +kernel), kX9_hasPond.1, kX9_hasPond.2.1, kX9_hasPond.2.2.1, kX9_hasPond.2.2.2⟩, vX9_hasPond⟩
theorem wX11_353 : cV RX11 353 mX0_forget 0 := ⟨⟨tb_t 646 (by decide +kernel) (by decide +kernel), kX0_forget.1, kX0_forget.2.1, kX0_forget.2.2.1, kX0_forget.2.2.2⟩, vX0_forget⟩
theorem wX11_129 : cV RX11 129 mX11_keepLaw 0 := ⟨⟨tb_t 650 (by decide +kernel) (by decide +kernel), kX11_keepLaw.1, kX11_keepLaw.2.1, kX11_keepLaw.2.2.1, kX11_keepLaw.2.2.2⟩, vX11_keepLaw⟩
theorem wX11_386 : cV RX11 386 mX3_become 1 := ⟨⟨tb_t 654 (by decide +kernel) (by decide +kernel), kX3_become.1, kX3_become.2.1, kX3_become.2.2.1, kX3_become.2.2.2⟩, vX3_become⟩
theorem wX3_29 : aL RX3 29 := ⟨tb_t 658 (by decide +kernel) (by decide +kernel), tb_t 419 (by decide +kernel) (by decide +kernel), tb_t 418 (by decide +kernel) (by decide +kernel), tb_t 16 (by decide +kernel) (by decide +kernel)⟩
theorem wX11_132 : cV RX11 132 mX11_keepPlan 0 := ⟨⟨tb_t 659 (by decide +kernel) (by decide +kernel), kX11_keepPlan.1, kX11_keepPlan.2.1, kX11_keepPlan.2.2.1, kX11_keepPlan.2.2.2⟩, vX11_keepPlan⟩
theorem wX11_391 : cV RX11 391 mX7_become 1 := ⟨⟨tb_t 663 (by decide +kernel) (by decide +kernel), kX7_become.1, kX7_become.2.1, kX7_become.2.2.1, kX7_become.2.2.2⟩, vX7_become⟩
theorem wX7_21 : aL RX7 21 := ⟨tb_t 667 (by decide +kernel) (by decide +kernel), tb_t 419 (by decide +kernel) (by decide +kernel), tb_t 418 (by decide +kernel) (by decide +kernel), tb_t 16 (by decide +kernel) (by decide +kernel)⟩
theorem wX11_135 : cV RX11 135 mX9_isTold 0 := ⟨⟨tb_t 672 (by decide +kernel) (by decide +kernel), kX9_isTold.1, kX9_isTold.2.1, kX9_isTold.2.2.1, kX9_isTold.2.2.2⟩, vX9_isTold⟩
theorem wX11_162 : cV RX11 162 mX9_hasPipe 1 := ⟨⟨tb_t 677 (by decide +kernel) (by decide +kernel), kX9_hasPipe.1, kX9_hasPipe.2.1, kX9_hasPipe.2.2.1, kX9_hasPipe.2.2.2⟩, vX9_hasPipe⟩
theorem wX11_165 : cV RX11 165 mX10_isOpen 1 := ⟨⟨tb_t 681 (by decide +kernel) (by decide +kernel), kX10_isOpen.1, kX10_isOpen.2.1, kX10_isOpen.2.2.1, kX10_isOpen.2.2.2⟩, vX10_isOpen⟩
theorem wX11_168 : cV RX11 168 mX2_flowThrough 2 := ⟨⟨tb_t 685 (by decide +kernel) (by decide +kernel), kX2_flowThrough.1, kX2_flowThrough.2.1, kX2_flowThrough.2.2.1, kX2_flowThrough.2.2.2⟩, vX2_flowThrough⟩
theorem wX2_32 : cV RX2 32 mX2_higherEnd 2 := ⟨⟨tb_t 689 (by decide +kernel) (by decide +kernel), kX2_higherEnd.1, kX2_higherEnd.2.1, kX2_higherEnd.2.2.1, kX2_higherEnd.2.2.2⟩, vX2_higherEnd⟩
theorem wX2_45 : mL RX2 45 Lib.Math.min.name Lib.Math.min.code 2 .int := ⟨tb_t 693 (by decide +kernel) (by decide +kernel), tb_t 415 (by decide +kernel) (by decide +kernel), tb_t 15 (by decide +kernel) (by decide +kernel), tb_t 416 (by decide +kernel) (by decide +kernel)⟩
theorem wX2_57 : cV RX2 57 mX3_worth 6 := ⟨⟨tb_t 694 (by decide +kernel) (by decide +kernel), kX3_worth.1, kX3_worth.2.1, kX3_worth.2.2.1, kX3_worth.2.2.2⟩, vX3_worth⟩
theorem wX3_43 : cS RX3 43 mX3_worked 3 := ⟨⟨tb_t 698 (by decide +kernel) (by decide +kernel), kX3_worked.1, kX3_worked.2.1, kX3_worked.2.2.1, kX3_worked.2.2.2⟩, sX3_worked⟩
theorem lX3_47 : Jvm.Cond.constantLong RX3 47 (1000000) ∈ tb := tb_t 701 (by decide +kernel) (by decide +kernel)
theorem lX3_49 : Jvm.Cond.constant RX3 49 (1000000) ∈ tb := tb_t 702 (by decide +kernel) (by decide +kernel)
theorem lX3_50 : Jvm.Cond.constantLong RX3 50 (-1000000) ∈ tb := tb_t 703 (by decide +kernel) (by decide +kernel)
theorem lX3_52 : Jvm.Cond.constant RX3 52 (-1000000) ∈ tb := tb_t 704 (by decide +kernel) (by decide +kernel)
theorem wX2_61 : mL RX2 61 Lib.Math.max.name Lib.Math.max.code 2 .int := ⟨tb_t 705 (by decide +kernel) (by decide +kernel), tb_t 455 (by decide +kernel) (by decide +kernel), tb_t 15 (by decide +kernel) (by decide +kernel), tb_t 456 (by decide +kernel) (by decide +kernel)⟩
theorem wX11_184 : cV RX11 184 mX11_act 3 := ⟨⟨tb_t 718 (by decide +kernel) (by decide +kernel), kX11_act.1, kX11_act.2.1, kX11_act.2.2.1, kX11_act.2.2.2⟩, vX11_act⟩
theorem wX11_195 : cV RX11 195 mX6_canBe 4 := ⟨⟨tb_t 722 (by decide +kernel) (by decide +kernel), kX6_canBe.1, kX6_canBe.2.1, kX6_canBe.2.2.1, kX6_canBe.2.2.2⟩, vX6_canBe⟩
theorem wX6_52 : cV RX6 52 mX9_hasPipe 1 := ⟨⟨tb_t 726 (by decide +kernel) (by decide +kernel), kX9_hasPipe.1, kX9_hasPipe.2.1, kX9_hasPipe.2.2.1, kX9_hasPipe.2.2.2⟩, vX9_hasPipe⟩
theorem wX6_56 : cV RX6 56 mX10_isOpen 1 := ⟨⟨tb_t 727 (by decide +kernel) (by decide +kernel), kX10_isOpen.1, kX10_isOpen.2.1, kX10_isOpen.2.2.1, kX10_isOpen.2.2.2⟩, vX10_isOpen⟩
theorem wX6_59 : cV RX6 59 mX9_isTold 0 := ⟨⟨tb_t 728 (by decide +kernel) (by decide +kernel), kX9_isTold.1, kX9_isTold.2.1, kX9_isTold.2.2.1, kX9_isTold.2.2.2⟩, vX9_isTold⟩
theorem wX6_66 : cV RX6 66 mX9_hasPond 1 := ⟨⟨tb_t 729 (by decide +kernel) (by decide +kernel), kX9_hasPond.1, kX9_hasPond.2.1, kX9_hasPond.2.2.1, kX9_hasPond.2.2.2⟩, vX9_hasPond⟩
theorem wX11_188 : cV RX11 188 mX0_remember 2 := ⟨⟨tb_t 730 (by decide +kernel) (by decide +kernel), kX0_remember.1, kX0_remember.2.1, kX0_remember.2.2.1, kX0_remember.2.2.2⟩, vX0_remember⟩
theorem wX0_24 : cV RX0 24 mX10_writeTo 2 := ⟨⟨tb_t 734 (by decide +kernel) (by decide +kernel), kX10_writeTo.1, kX10_writeTo.2.1, kX10_writeTo.2.2.1, kX10_writeTo.2.2.2⟩, vX10_writeTo⟩
theorem wX10_47 : aL RX10 47 := ⟨tb_t 738 (by decide +kernel) (by decide +kernel), tb_t 419 (by decide +kernel) (by decide +kernel), tb_t 418 (by decide +kernel) (by decide +kernel), tb_t 16 (by decide +kernel) (by decide +kernel)⟩
theorem wX0_33 : mL RX0 33 Lib.Math.min.name Lib.Math.min.code 2 .int := ⟨tb_t 739 (by decide +kernel) (by decide +kernel), tb_t 415 (by decide +kernel) (by decide +kernel), tb_t 15 (by decide +kernel) (by decide +kernel), tb_t 416 (by decide +kernel) (by decide +kernel)⟩
theorem wX11_394 : cV RX11 394 mX10_take 3 := ⟨⟨tb_t 740 (by decide +kernel) (by decide +kernel), kX10_take.1, kX10_take.2.1, kX10_take.2.2.1, kX10_take.2.2.2⟩, vX10_take⟩
theorem wX11_206 : cV RX11 206 mX11_passDay 1 := ⟨⟨tb_t 744 (by decide +kernel) (by decide +kernel), kX11_passDay.1, kX11_passDay.2.1, kX11_passDay.2.2.1, kX11_passDay.2.2.2⟩, vX11_passDay⟩
theorem wX11_398 : cV RX11 398 mX2_passDay 2 := ⟨⟨tb_t 748 (by decide +kernel) (by decide +kernel), kX2_passDay.1, kX2_passDay.2.1, kX2_passDay.2.2.1, kX2_passDay.2.2.2⟩, vX2_passDay⟩
theorem wX2_67 : cV RX2 67 mX10_isOpen 1 := ⟨⟨tb_t 752 (by decide +kernel) (by decide +kernel), kX10_isOpen.1, kX10_isOpen.2.1, kX10_isOpen.2.2.1, kX10_isOpen.2.2.2⟩, vX10_isOpen⟩
theorem wX2_71 : cV RX2 71 mX2_carry 2 := ⟨⟨tb_t 753 (by decide +kernel) (by decide +kernel), kX2_carry.1, kX2_carry.2.1, kX2_carry.2.2.1, kX2_carry.2.2.2⟩, vX2_carry⟩
theorem wX2_85 : cV RX2 85 mX2_flowThrough 2 := ⟨⟨tb_t 757 (by decide +kernel) (by decide +kernel), kX2_flowThrough.1, kX2_flowThrough.2.1, kX2_flowThrough.2.2.1, kX2_flowThrough.2.2.2⟩, vX2_flowThrough⟩
theorem wX2_78 : cV RX2 78 mX2_weather 3 := ⟨⟨tb_t 758 (by decide +kernel) (by decide +kernel), kX2_weather.1, kX2_weather.2.1, kX2_weather.2.2.1, kX2_weather.2.2.2⟩, vX2_weather⟩
theorem wX2_82 : cV RX2 82 mX2_live 2 := ⟨⟨tb_t 762 (by decide +kernel) (by decide +kernel), kX2_live.1, kX2_live.2.1, kX2_live.2.2.1, kX2_live.2.2.2⟩, vX2_live⟩
theorem wX11_338 : cS RX11 338 mX10_sumOf 1 := ⟨⟨tb_t 766 (by decide +kernel) (by decide +kernel), kX10_sumOf.1, kX10_sumOf.2.1, kX10_sumOf.2.2.1, kX10_sumOf.2.2.2⟩, sX10_sumOf⟩
theorem wX11_237 : cV RX11 237 mX9_bareAmong 1 := ⟨⟨tb_t 769 (by decide +kernel) (by decide +kernel), kX9_bareAmong.1, kX9_bareAmong.2.1, kX9_bareAmong.2.2.1, kX9_bareAmong.2.2.2⟩, vX9_bareAmong⟩
theorem wX11_401 : cV RX11 401 mX1_add 3 := ⟨⟨tb_t 773 (by decide +kernel) (by decide +kernel), kX1_add.1, kX1_add.2.1, kX1_add.2.2.1, kX1_add.2.2.2⟩, vX1_add⟩
theorem wX11_142 : cV RX11 142 mX9_hasPond 1 := ⟨⟨tb_t 785 (by decide +kernel) (by decide +kernel), kX9_hasPond.1, kX9_hasPond.2.1, kX9_hasPond.2.2.1, kX9_hasPond.2.2.2⟩, vX9_hasPond⟩
theorem wX11_203 : cV RX11 203 mX11_rainOfDraws 0 := ⟨⟨tb_t 794 (by decide +kernel) (by decide +kernel), kX11_rainOfDraws.1, kX11_rainOfDraws.2.1, kX11_rainOfDraws.2.2.1, kX11_rainOfDraws.2.2.2⟩, vX11_rainOfDraws⟩
theorem wX11_403 : cV RX11 403 mX11_draw 1 := ⟨⟨tb_t 798 (by decide +kernel) (by decide +kernel), kX11_draw.1, kX11_draw.2.1, kX11_draw.2.2.1, kX11_draw.2.2.2⟩, vX11_draw⟩
theorem lX11_406 : Jvm.Cond.constantLong RX11 406 (6364136223846793005) ∈ tb := tb_t 802 (by decide +kernel) (by decide +kernel)
theorem lX11_408 : Jvm.Cond.constantLong RX11 408 (1442695040888963407) ∈ tb := tb_t 803 (by decide +kernel) (by decide +kernel)
theorem wX11_209 : cV RX11 209 mX0_takeBack 2 := ⟨⟨tb_t 808 (by decide +kernel) (by decide +kernel), kX0_takeBack.1, kX0_takeBack.2.1, kX0_takeBack.2.2.1, kX0_takeBack.2.2.2⟩, vX0_takeBack⟩
theorem wX0_39 : cV RX0 39 mX10_readFrom 2 := ⟨⟨tb_t 812 (by decide +kernel) (by decide +kernel), kX10_readFrom.1, kX10_readFrom.2.1, kX10_readFrom.2.2.1, kX10_readFrom.2.2.2⟩, vX10_readFrom⟩
theorem wX11_216 : cV RX11 216 mX1_entry 2 := ⟨⟨tb_t 820 (by decide +kernel) (by decide +kernel), kX1_entry.1, kX1_entry.2.1, kX1_entry.2.2.1, kX1_entry.2.2.2⟩, vX1_entry⟩
theorem wX1_31 : cV RX1 31 mX1_length 0 := ⟨⟨tb_t 824 (by decide +kernel) (by decide +kernel), kX1_length.1, kX1_length.2.1, kX1_length.2.2.1, kX1_length.2.2.2⟩, vX1_length⟩
theorem wX1_19 : mL RX1 19 Lib.Math.min.name Lib.Math.min.code 2 .int := ⟨tb_t 828 (by decide +kernel) (by decide +kernel), tb_t 415 (by decide +kernel) (by decide +kernel), tb_t 15 (by decide +kernel) (by decide +kernel), tb_t 416 (by decide +kernel) (by decide +kernel)⟩
theorem wX11_220 : cV RX11 220 mX11_hasPlan 1 := ⟨⟨tb_t 833 (by decide +kernel) (by decide +kernel), kX11_hasPlan.1, kX11_hasPlan.2.1, kX11_hasPlan.2.2.1, kX11_hasPlan.2.2.2⟩, vX11_hasPlan⟩
theorem lX11_226 : Jvm.Cond.constant RX11 226 (-1000000) ∈ tb := tb_t 837 (by decide +kernel) (by decide +kernel)
theorem wX11_227 : cV RX11 227 mX7_partOfStep 2 := ⟨⟨tb_t 838 (by decide +kernel) (by decide +kernel), kX7_partOfStep.1, kX7_partOfStep.2.1, kX7_partOfStep.2.2.1, kX7_partOfStep.2.2.2⟩, vX7_partOfStep⟩
theorem wX11_230 : cV RX11 230 mX6_stepsThatCanBe 1 := ⟨⟨tb_t 846 (by decide +kernel) (by decide +kernel), kX6_stepsThatCanBe.1, kX6_stepsThatCanBe.2.1, kX6_stepsThatCanBe.2.2.1, kX6_stepsThatCanBe.2.2.2⟩, vX6_stepsThatCanBe⟩
theorem wX6_33 : cV RX6 33 mX10_become 1 := ⟨⟨tb_t 850 (by decide +kernel) (by decide +kernel), kX10_become.1, kX10_become.2.1, kX10_become.2.2.1, kX10_become.2.2.2⟩, vX10_become⟩
theorem wX6_90 : cV RX6 90 mX6_canBe 4 := ⟨⟨tb_t 854 (by decide +kernel) (by decide +kernel), kX6_canBe.1, kX6_canBe.2.1, kX6_canBe.2.2.1, kX6_canBe.2.2.2⟩, vX6_canBe⟩
theorem wX6_94 : cV RX6 94 mX10_take 3 := ⟨⟨tb_t 855 (by decide +kernel) (by decide +kernel), kX10_take.1, kX10_take.2.1, kX10_take.2.2.1, kX10_take.2.2.2⟩, vX10_take⟩
theorem wX6_46 : cV RX6 46 mX2_passDay 2 := ⟨⟨tb_t 856 (by decide +kernel) (by decide +kernel), kX2_passDay.1, kX2_passDay.2.1, kX2_passDay.2.2.1, kX2_passDay.2.2.2⟩, vX2_passDay⟩
theorem wX11_253 : cV RX11 253 mX6_after 2 := ⟨⟨tb_t 865 (by decide +kernel) (by decide +kernel), kX6_after.1, kX6_after.2.1, kX6_after.2.2.1, kX6_after.2.2.2⟩, vX6_after⟩
theorem wX11_257 : cV RX11 257 mX6_daysUntilDry 1 := ⟨⟨tb_t 873 (by decide +kernel) (by decide +kernel), kX6_daysUntilDry.1, kX6_daysUntilDry.2.1, kX6_daysUntilDry.2.2.1, kX6_daysUntilDry.2.2.2⟩, vX6_daysUntilDry⟩
theorem wX11_260 : cV RX11 260 mX11_isPlannable 1 := ⟨⟨tb_t 885 (by decide +kernel) (by decide +kernel), kX11_isPlannable.1, kX11_isPlannable.2.1, kX11_isPlannable.2.2.1, kX11_isPlannable.2.2.2⟩, vX11_isPlannable⟩
theorem wX11_263 : cV RX11 263 mX6_fewestKeys 1 := ⟨⟨tb_t 889 (by decide +kernel) (by decide +kernel), kX6_fewestKeys.1, kX6_fewestKeys.2.1, kX6_fewestKeys.2.2.1, kX6_fewestKeys.2.2.2⟩, vX6_fewestKeys⟩
theorem wX6_101 : cS RX6 101 mJ6_bitCount_0f7a4 1 := ⟨⟨tb_t 893 (by decide +kernel) (by decide +kernel), kJ6_bitCount_0f7a4.1, kJ6_bitCount_0f7a4.2.1, kJ6_bitCount_0f7a4.2.2.1, kJ6_bitCount_0f7a4.2.2.2⟩, sJ6_bitCount_0f7a4⟩
theorem lJ6_265 : Jvm.Cond.constant RJ6 265 (1431655765) ∈ tb := tb_t 896 (by decide +kernel) (by decide +kernel)
theorem lJ6_266 : Jvm.Cond.constant RJ6 266 (858993459) ∈ tb := tb_t 897 (by decide +kernel) (by decide +kernel)
theorem lJ6_267 : Jvm.Cond.constant RJ6 267 (252645135) ∈ tb := tb_t 898 (by decide +kernel) (by decide +kernel)
theorem wX6_107 : cV RX6 107 mX6_staysDeep 2 := ⟨⟨tb_t 899 (by decide +kernel) (by decide +kernel), kX6_staysDeep.1, kX6_staysDeep.2.1, kX6_staysDeep.2.2.1, kX6_staysDeep.2.2.2⟩, vX6_staysDeep⟩
theorem wX6_111 : cV RX6 111 mX9_bareAmong 1 := ⟨⟨tb_t 903 (by decide +kernel) (by decide +kernel), kX9_bareAmong.1, kX9_bareAmong.2.1, kX9_bareAmong.2.2.1, kX9_bareAmong.2.2.2⟩, vX9_bareAmong⟩
theorem wX11_266 : cV RX11 266 mX6_keysThatKeepMost 1 := ⟨⟨tb_t 908 (by decide +kernel) (by decide +kernel), kX6_keysThatKeepMost.1, kX6_keysThatKeepMost.2.1, kX6_keysThatKeepMost.2.2.1, kX6_keysThatKeepMost.2.2.2⟩, vX6_keysThatKeepMost⟩
theorem wX6_115 : cV RX6 115 mX6_after 2 := ⟨⟨tb_t 912 (by decide +kernel) (by decide +kernel), kX6_after.1, kX6_after.2.1, kX6_after.2.2.1, kX6_after.2.2.2⟩, vX6_after⟩
theorem wX11_272 : cS RX11 272 mJ6_bitCount_0f7a4 1 := ⟨⟨tb_t 913 (by decide +kernel) (by decide +kernel), kJ6_bitCount_0f7a4.1, kJ6_bitCount_0f7a4.2.1, kJ6_bitCount_0f7a4.2.2.1, kJ6_bitCount_0f7a4.2.2.2⟩, sJ6_bitCount_0f7a4⟩
theorem wX11_277 : cV RX11 277 mX6_fewestThatLack 1 := ⟨⟨tb_t 918 (by decide +kernel) (by decide +kernel), kX6_fewestThatLack.1, kX6_fewestThatLack.2.1, kX6_fewestThatLack.2.2.1, kX6_fewestThatLack.2.2.2⟩, vX6_fewestThatLack⟩
theorem wX6_122 : cV RX6 122 mX6_lacks 2 := ⟨⟨tb_t 922 (by decide +kernel) (by decide +kernel), kX6_lacks.1, kX6_lacks.2.1, kX6_lacks.2.2.1, kX6_lacks.2.2.2⟩, vX6_lacks⟩
theorem wX11_280 : cV RX11 280 mX6_levelOfRest 1 := ⟨⟨tb_t 930 (by decide +kernel) (by decide +kernel), kX6_levelOfRest.1, kX6_levelOfRest.2.1, kX6_levelOfRest.2.2.1, kX6_levelOfRest.2.2.2⟩, vX6_levelOfRest⟩
theorem wX6_128 : cV RX6 128 mX9_groupOf 2 := ⟨⟨tb_t 934 (by decide +kernel) (by decide +kernel), kX9_groupOf.1, kX9_groupOf.2.1, kX9_groupOf.2.2.1, kX9_groupOf.2.2.2⟩, vX9_groupOf⟩
theorem wX6_132 : cV RX6 132 mX6_heldUpTo 2 := ⟨⟨tb_t 938 (by decide +kernel) (by decide +kernel), kX6_heldUpTo.1, kX6_heldUpTo.2.1, kX6_heldUpTo.2.2.1, kX6_heldUpTo.2.2.2⟩, vX6_heldUpTo⟩
theorem wX6_135 : mL RX6 135 Lib.Math.max.name Lib.Math.max.code 2 .int := ⟨tb_t 942 (by decide +kernel) (by decide +kernel), tb_t 455 (by decide +kernel) (by decide +kernel), tb_t 15 (by decide +kernel) (by decide +kernel), tb_t 456 (by decide +kernel) (by decide +kernel)⟩
theorem wX11_283 : cV RX11 283 mX9_groupOf 2 := ⟨⟨tb_t 947 (by decide +kernel) (by decide +kernel), kX9_groupOf.1, kX9_groupOf.2.1, kX9_groupOf.2.2.1, kX9_groupOf.2.2.2⟩, vX9_groupOf⟩
theorem wX11_286 : cV RX11 286 mX6_mostOpenApart 0 := ⟨⟨tb_t 952 (by decide +kernel) (by decide +kernel), kX6_mostOpenApart.1, kX6_mostOpenApart.2.1, kX6_mostOpenApart.2.2.1, kX6_mostOpenApart.2.2.2⟩, vX6_mostOpenApart⟩
theorem wX6_140 : cV RX6 140 mX6_keepsApart 1 := ⟨⟨tb_t 956 (by decide +kernel) (by decide +kernel), kX6_keepsApart.1, kX6_keepsApart.2.1, kX6_keepsApart.2.2.1, kX6_keepsApart.2.2.2⟩, vX6_keepsApart⟩
theorem wX11_289 : cV RX11 289 mX5_add 2 := ⟨⟨tb_t 964 (by decide +kernel) (by decide +kernel), kX5_add.1, kX5_add.2.1, kX5_add.2.2.1, kX5_add.2.2.2⟩, vX5_add⟩
theorem wX11_294 : cV RX11 294 mX5_waysThatFit 0 := ⟨⟨tb_t 972 (by decide +kernel) (by decide +kernel), kX5_waysThatFit.1, kX5_waysThatFit.2.1, kX5_waysThatFit.2.2.1, kX5_waysThatFit.2.2.2⟩, vX5_waysThatFit⟩
theorem wX5_38 : cV RX5 38 mX5_ways 0 := ⟨⟨tb_t 976 (by decide +kernel) (by decide +kernel), kX5_ways.1, kX5_ways.2.1, kX5_ways.2.2.1, kX5_ways.2.2.2⟩, vX5_ways⟩
theorem wX5_42 : cV RX5 42 mX5_wayAt 1 := ⟨⟨tb_t 980 (by decide +kernel) (by decide +kernel), kX5_wayAt.1, kX5_wayAt.2.1, kX5_wayAt.2.2.1, kX5_wayAt.2.2.2⟩, vX5_wayAt⟩
theorem wX5_46 : cV RX5 46 mX5_fits 1 := ⟨⟨tb_t 984 (by decide +kernel) (by decide +kernel), kX5_fits.1, kX5_fits.2.1, kX5_fits.2.2.1, kX5_fits.2.2.2⟩, vX5_fits⟩
theorem wX5_34 : cS RX5 34 mX5_gainBy 2 := ⟨⟨tb_t 988 (by decide +kernel) (by decide +kernel), kX5_gainBy.1, kX5_gainBy.2.1, kX5_gainBy.2.2.1, kX5_gainBy.2.2.2⟩, sX5_gainBy⟩
theorem wX11_297 : cV RX11 297 mX5_wayThatFits 1 := ⟨⟨tb_t 991 (by decide +kernel) (by decide +kernel), kX5_wayThatFits.1, kX5_wayThatFits.2.1, kX5_wayThatFits.2.2.1, kX5_wayThatFits.2.2.2⟩, vX5_wayThatFits⟩
theorem wX11_300 : cV RX11 300 mX5_nextToMeasure 0 := ⟨⟨tb_t 999 (by decide +kernel) (by decide +kernel), kX5_nextToMeasure.1, kX5_nextToMeasure.2.1, kX5_nextToMeasure.2.2.1, kX5_nextToMeasure.2.2.2⟩, vX5_nextToMeasure⟩
theorem wX5_50 : cV RX5 50 mX5_mostLeftBy 1 := ⟨⟨tb_t 1003 (by decide +kernel) (by decide +kernel), kX5_mostLeftBy.1, kX5_mostLeftBy.2.1, kX5_mostLeftBy.2.2.1, kX5_mostLeftBy.2.2.2⟩, vX5_mostLeftBy⟩
theorem wX5_53 : mL RX5 53 Lib.Math.max.name Lib.Math.max.code 2 .int := ⟨tb_t 1007 (by decide +kernel) (by decide +kernel), tb_t 455 (by decide +kernel) (by decide +kernel), tb_t 15 (by decide +kernel) (by decide +kernel), tb_t 456 (by decide +kernel) (by decide +kernel)⟩
theorem wX11_303 : cV RX11 303 mX6_wallsThatGive 0 := ⟨⟨tb_t 1012 (by decide +kernel) (by decide +kernel), kX6_wallsThatGive.1, kX6_wallsThatGive.2.1, kX6_wallsThatGive.2.2.1, kX6_wallsThatGive.2.2.2⟩, vX6_wallsThatGive⟩
theorem wX6_149 : mL RX6 149 Lib.Math.abs.name Lib.Math.abs.code 1 .int := ⟨tb_t 1016 (by decide +kernel) (by decide +kernel), tb_t 1017 (by decide +kernel) (by decide +kernel), tb_t 15 (by decide +kernel) (by decide +kernel), tb_t 1018 (by decide +kernel) (by decide +kernel)⟩
theorem wX11_306 : cV RX11 306 mX11_isFeud 5 := ⟨⟨tb_t 1023 (by decide +kernel) (by decide +kernel), kX11_isFeud.1, kX11_isFeud.2.1, kX11_isFeud.2.2.1, kX11_isFeud.2.2.2⟩, vX11_isFeud⟩
theorem wX11_310 : cV RX11 310 mX6_keysOfFeud 4 := ⟨⟨tb_t 1027 (by decide +kernel) (by decide +kernel), kX6_keysOfFeud.1, kX6_keysOfFeud.2.1, kX6_keysOfFeud.2.2.1, kX6_keysOfFeud.2.2.2⟩, vX6_keysOfFeud⟩
theorem wX11_314 : cV RX11 314 mX6_gapAfter 4 := ⟨⟨tb_t 1031 (by decide +kernel) (by decide +kernel), kX6_gapAfter.1, kX6_gapAfter.2.1, kX6_gapAfter.2.2.1, kX6_gapAfter.2.2.2⟩, vX6_gapAfter⟩
theorem wX11_320 : cV RX11 320 mX6_restAmongGaps 1 := ⟨⟨tb_t 1039 (by decide +kernel) (by decide +kernel), kX6_restAmongGaps.1, kX6_restAmongGaps.2.1, kX6_restAmongGaps.2.2.1, kX6_restAmongGaps.2.2.2⟩, vX6_restAmongGaps⟩
theorem wX11_323 : cV RX11 323 mX9_litAmong 1 := ⟨⟨tb_t 1047 (by decide +kernel) (by decide +kernel), kX9_litAmong.1, kX9_litAmong.2.1, kX9_litAmong.2.2.1, kX9_litAmong.2.2.2⟩, vX9_litAmong⟩
theorem wX11_326 : cV RX11 326 mX6_darkestPond 0 := ⟨⟨tb_t 1055 (by decide +kernel) (by decide +kernel), kX6_darkestPond.1, kX6_darkestPond.2.1, kX6_darkestPond.2.2.1, kX6_darkestPond.2.2.2⟩, vX6_darkestPond⟩
theorem wX11_329 : cV RX11 329 mX6_rentOf 1 := ⟨⟨tb_t 1063 (by decide +kernel) (by decide +kernel), kX6_rentOf.1, kX6_rentOf.2.1, kX6_rentOf.2.2.1, kX6_rentOf.2.2.2⟩, vX6_rentOf⟩
theorem wX11_332 : cV RX11 332 mX6_groups 0 := ⟨⟨tb_t 1075 (by decide +kernel) (by decide +kernel), kX6_groups.1, kX6_groups.2.1, kX6_groups.2.2.1, kX6_groups.2.2.2⟩, vX6_groups⟩
theorem wX11_335 : cV RX11 335 mX6_fullestPipe 0 := ⟨⟨tb_t 1083 (by decide +kernel) (by decide +kernel), kX6_fullestPipe.1, kX6_fullestPipe.2.1, kX6_fullestPipe.2.2.1, kX6_fullestPipe.2.2.2⟩, vX6_fullestPipe⟩
theorem wX6_152 : cV RX6 152 mX2_flowThrough 2 := ⟨⟨tb_t 1087 (by decide +kernel) (by decide +kernel), kX2_flowThrough.1, kX2_flowThrough.2.1, kX2_flowThrough.2.2.1, kX2_flowThrough.2.2.2⟩, vX2_flowThrough⟩
theorem wX11_342 : cV RX11 342 mX10_become 1 := ⟨⟨tb_t 1096 (by decide +kernel) (by decide +kernel), kX10_become.1, kX10_become.2.1, kX10_become.2.2.1, kX10_become.2.2.2⟩, vX10_become⟩
theorem wX11_346 : cV RX11 346 mX1_become 1 := ⟨⟨tb_t 1097 (by decide +kernel) (by decide +kernel), kX1_become.1, kX1_become.2.1, kX1_become.2.2.1, kX1_become.2.2.2⟩, vX1_become⟩
theorem wX1_25 : aL RX1 25 := ⟨tb_t 1101 (by decide +kernel) (by decide +kernel), tb_t 419 (by decide +kernel) (by decide +kernel), tb_t 418 (by decide +kernel) (by decide +kernel), tb_t 16 (by decide +kernel) (by decide +kernel)⟩
theorem wX11_365 : cV RX11 365 mX9_sumOfPonds 1 := ⟨⟨tb_t 1110 (by decide +kernel) (by decide +kernel), kX9_sumOfPonds.1, kX9_sumOfPonds.2.1, kX9_sumOfPonds.2.2.1, kX9_sumOfPonds.2.2.2⟩, vX9_sumOfPonds⟩
theorem wX11_368 : cV RX11 368 mX1_length 0 := ⟨⟨tb_t 1114 (by decide +kernel) (by decide +kernel), kX1_length.1, kX1_length.2.1, kX1_length.2.2.1, kX1_length.2.2.2⟩, vX1_length⟩
theorem fX12_96 : fOK RX12 96 12 0 0 := ⟨_, rfl, by decide, tb_t 1192 (by decide +kernel) (by decide +kernel), rfl⟩
theorem fX12_9 : fOK RX12 9 12 1 2 := ⟨_, rfl, by decide, tb_t 1193 (by decide +kernel) (by decide +kernel), rfl⟩
theorem fX12_13 : fOK RX12 13 12 2 2 := ⟨_, rfl, by decide, tb_t 1194 (by decide +kernel) (by decide +kernel), rfl⟩
theorem fX12_16 : fOK RX12 16 12 3 2 := ⟨_, rfl, by decide, tb_t 1195 (by decide +kernel) (by decide +kernel), rfl⟩
theorem fX12_20 : fOK RX12 20 12 4 2 := ⟨_, rfl, by decide, tb_t 1196 (by decide +kernel) (by decide +kernel), rfl⟩
theorem fX12_23 : fOK RX12 23 12 5 2 := ⟨_, rfl, by decide, tb_t 1197 (by decide +kernel) (by decide +kernel), rfl⟩
theorem fX12_109 : fOK RX12 109 12 6 0 := ⟨_, rfl, by decide, tb_t 1198 (by decide +kernel) (by decide +kernel), rfl⟩
theorem fX12_286 : fOK RX12 286 12 7 0 := ⟨_, rfl, by decide, tb_t 1199 (by decide +kernel) (by decide +kernel), rfl⟩
theorem fX12_125 : fOK RX12 125 12 8 0 := ⟨_, rfl, by decide, tb_t 1200 (by decide +kernel) (by decide +kernel), rfl⟩
theorem fX12_122 : fOK RX12 122 12 9 0 := ⟨_, rfl, by decide, tb_t 1201 (by decide +kernel) (by decide +kernel), rfl⟩
theorem fX12_119 : fOK RX12 119 12 10 0 := ⟨_, rfl, by decide, tb_t 1202 (by decide +kernel) (by decide +kernel), rfl⟩
theorem fX12_128 : fOK RX12 128 12 11 0 := ⟨_, rfl, by decide, tb_t 1203 (by decide +kernel) (by decide +kernel), rfl⟩
theorem fX12_131 : fOK RX12 131 12 12 0 := ⟨_, rfl, by decide, tb_t 1204 (by decide +kernel) (by decide +kernel), rfl⟩
theorem fX12_201 : fOK RX12 201 12 13 0 := ⟨_, rfl, by decide, tb_t 1205 (by decide +kernel) (by decide +kernel), rfl⟩
theorem fX12_204 : fOK RX12 204 12 14 0 := ⟨_, rfl, by decide, tb_t 1206 (by decide +kernel) (by decide +kernel), rfl⟩
theorem fX12_28 : fOK RX12 28 12 15 2 := ⟨_, rfl, by decide, tb_t 1207 (by decide +kernel) (by decide +kernel), rfl⟩
theorem fX12_34 : fOK RX12 34 12 16 2 := ⟨_, rfl, by decide, tb_t 1208 (by decide +kernel) (by decide +kernel), rfl⟩
theorem fX12_197 : fOK RX12 197 12 17 0 := ⟨_, rfl, by decide, tb_t 1209 (by decide +kernel) (by decide +kernel), rfl⟩
theorem fX12_37 : fOK RX12 37 12 18 2 := ⟨_, rfl, by decide, tb_t 1210 (by decide +kernel) (by decide +kernel), rfl⟩
theorem fX12_40 : fOK RX12 40 12 19 2 := ⟨_, rfl, by decide, tb_t 1211 (by decide +kernel) (by decide +kernel), rfl⟩
theorem fX12_43 : fOK RX12 43 12 20 2 := ⟨_, rfl, by decide, tb_t 1212 (by decide +kernel) (by decide +kernel), rfl⟩
theorem fX12_46 : fOK RX12 46 12 21 2 := ⟨_, rfl, by decide, tb_t 1213 (by decide +kernel) (by decide +kernel), rfl⟩
theorem fX12_49 : fOK RX12 49 12 22 2 := ⟨_, rfl, by decide, tb_t 1214 (by decide +kernel) (by decide +kernel), rfl⟩
theorem fX12_52 : fOK RX12 52 12 23 2 := ⟨_, rfl, by decide, tb_t 1215 (by decide +kernel) (by decide +kernel), rfl⟩
theorem fX12_55 : fOK RX12 55 12 24 2 := ⟨_, rfl, by decide, tb_t 1216 (by decide +kernel) (by decide +kernel), rfl⟩
theorem fX12_58 : fOK RX12 58 12 25 2 := ⟨_, rfl, by decide, tb_t 1217 (by decide +kernel) (by decide +kernel), rfl⟩
theorem fX12_294 : fOK RX12 294 12 26 0 := ⟨_, rfl, by decide, tb_t 1218 (by decide +kernel) (by decide +kernel), rfl⟩
theorem fX12_297 : fOK RX12 297 12 27 0 := ⟨_, rfl, by decide, tb_t 1219 (by decide +kernel) (by decide +kernel), rfl⟩
theorem fX12_245 : fOK RX12 245 12 28 0 := ⟨_, rfl, by decide, tb_t 1220 (by decide +kernel) (by decide +kernel), rfl⟩
theorem fX12_248 : fOK RX12 248 12 29 0 := ⟨_, rfl, by decide, tb_t 1221 (by decide +kernel) (by decide +kernel), rfl⟩
theorem fX12_289 : fOK RX12 289 12 30 0 := ⟨_, rfl, by decide, tb_t 1222 (by decide +kernel) (by decide +kernel), rfl⟩
theorem fX12_242 : fOK RX12 242 12 31 0 := ⟨_, rfl, by decide, tb_t 1223 (by decide +kernel) (by decide +kernel), rfl⟩
theorem fX12_61 : fOK RX12 61 12 32 2 := ⟨_, rfl, by decide, tb_t 1224 (by decide +kernel) (by decide +kernel), rfl⟩
theorem fX12_64 : fOK RX12 64 12 33 2 := ⟨_, rfl, by decide, tb_t 1225 (by decide +kernel) (by decide +kernel), rfl⟩
theorem fX12_67 : fOK RX12 67 12 34 0 := ⟨_, rfl, by decide, tb_t 1226 (by decide +kernel) (by decide +kernel), rfl⟩
theorem fX12_71 : fOK RX12 71 12 35 0 := ⟨_, rfl, by decide, tb_t 1227 (by decide +kernel) (by decide +kernel), rfl⟩
theorem fX12_374 : fOK RX12 374 12 36 0 := ⟨_, rfl, by decide, tb_t 1228 (by decide +kernel) (by decide +kernel), rfl⟩
theorem fX12_74 : fOK RX12 74 12 37 2 := ⟨_, rfl, by decide, tb_t 1229 (by decide +kernel) (by decide +kernel), rfl⟩
theorem fX12_78 : fOK RX12 78 12 38 2 := ⟨_, rfl, by decide, tb_t 1230 (by decide +kernel) (by decide +kernel), rfl⟩
theorem fX12_81 : fOK RX12 81 12 39 2 := ⟨_, rfl, by decide, tb_t 1231 (by decide +kernel) (by decide +kernel), rfl⟩
theorem fX12_306 : fOK RX12 306 12 40 0 := ⟨_, rfl, by decide, tb_t 1232 (by decide +kernel) (by decide +kernel), rfl⟩
theorem fX12_394 : fOK RX12 394 12 41 1 := ⟨_, rfl, by decide, tb_t 1233 (by decide +kernel) (by decide +kernel), rfl⟩
theorem fX12_84 : fOK RX12 84 12 42 2 := ⟨_, rfl, by decide, tb_t 1234 (by decide +kernel) (by decide +kernel), rfl⟩
theorem fX12_87 : fOK RX12 87 12 43 2 := ⟨_, rfl, by decide, tb_t 1235 (by decide +kernel) (by decide +kernel), rfl⟩
theorem fX12_90 : fOK RX12 90 12 44 2 := ⟨_, rfl, by decide, tb_t 1236 (by decide +kernel) (by decide +kernel), rfl⟩
theorem fX12_303 : fOK RX12 303 12 45 0 := ⟨_, rfl, by decide, tb_t 1237 (by decide +kernel) (by decide +kernel), rfl⟩
theorem fX12_93 : fOK RX12 93 12 46 2 := ⟨_, rfl, by decide, tb_t 1238 (by decide +kernel) (by decide +kernel), rfl⟩
theorem fX12_309 : fOK RX12 309 12 47 0 := ⟨_, rfl, by decide, tb_t 1239 (by decide +kernel) (by decide +kernel), rfl⟩
theorem wX12_111 : cS RX12 111 mX12_bytesIn 1 := ⟨⟨tb_t 1346 (by decide +kernel) (by decide +kernel), kX12_bytesIn.1, kX12_bytesIn.2.1, kX12_bytesIn.2.2.1, kX12_bytesIn.2.2.2⟩, sX12_bytesIn⟩
theorem wX12_115 : cV RX12 115 mX12_put 1 := ⟨⟨tb_t 1349 (by decide +kernel) (by decide +kernel), kX12_put.1, kX12_put.2.1, kX12_put.2.2.1, kX12_put.2.2.2⟩, vX12_put⟩
theorem lX12_275 : Jvm.Cond.constantLong RX12 275 (2) ∈ tb := tb_t 1361 (by decide +kernel) (by decide +kernel)
theorem wX12_217 : cS RX12 217 mX12_isIn 3 := ⟨⟨tb_t 1362 (by decide +kernel) (by decide +kernel), kX12_isIn.1, kX12_isIn.2.1, kX12_isIn.2.2.1, kX12_isIn.2.2.2⟩, sX12_isIn⟩
theorem wX12_277 : cV RX12 277 mX12_readTown 0 := ⟨⟨tb_t 1365 (by decide +kernel) (by decide +kernel), kX12_readTown.1, kX12_readTown.2.1, kX12_readTown.2.2.1, kX12_readTown.2.2.2⟩, vX12_readTown⟩
theorem wX12_207 : cV RX12 207 mX12_starts 3 := ⟨⟨tb_t 1369 (by decide +kernel) (by decide +kernel), kX12_starts.1, kX12_starts.2.1, kX12_starts.2.2.1, kX12_starts.2.2.2⟩, vX12_starts⟩
theorem wX12_221 : cS RX12 221 mX12_usual 2 := ⟨⟨tb_t 1373 (by decide +kernel) (by decide +kernel), kX12_usual.1, kX12_usual.2.1, kX12_usual.2.2.1, kX12_usual.2.2.2⟩, sX12_usual⟩
theorem wX12_261 : cV RX12 261 mX12_readClause 0 := ⟨⟨tb_t 1376 (by decide +kernel) (by decide +kernel), kX12_readClause.1, kX12_readClause.2.1, kX12_readClause.2.2.1, kX12_readClause.2.2.2⟩, vX12_readClause⟩
theorem wX12_138 : cV RX12 138 mX12_look 0 := ⟨⟨tb_t 1380 (by decide +kernel) (by decide +kernel), kX12_look.1, kX12_look.2.1, kX12_look.2.2.1, kX12_look.2.2.2⟩, vX12_look⟩
theorem wX12_134 : cV RX12 134 mX12_fails 0 := ⟨⟨tb_t 1384 (by decide +kernel) (by decide +kernel), kX12_fails.1, kX12_fails.2.1, kX12_fails.2.2.1, kX12_fails.2.2.2⟩, vX12_fails⟩
theorem wX12_253 : cV RX12 253 mX12_readItems 4 := ⟨⟨tb_t 1389 (by decide +kernel) (by decide +kernel), kX12_readItems.1, kX12_readItems.2.1, kX12_readItems.2.2.1, kX12_readItems.2.2.2⟩, vX12_readItems⟩
theorem wX12_99 : cV RX12 99 mJ0_length_8abf5 0 := ⟨⟨tb_t 1393 (by decide +kernel) (by decide +kernel), kJ0_length_8abf5.1, kJ0_length_8abf5.2.1, kJ0_length_8abf5.2.2.1, kJ0_length_8abf5.2.2.2⟩, vJ0_length_8abf5⟩
theorem wX12_225 : cS RX12 225 mX12_spotOf 2 := ⟨⟨tb_t 1394 (by decide +kernel) (by decide +kernel), kX12_spotOf.1, kX12_spotOf.2.1, kX12_spotOf.2.2.1, kX12_spotOf.2.2.2⟩, sX12_spotOf⟩
theorem wX12_105 : cV RX12 105 mJ0_charAt_5068e 1 := ⟨⟨tb_t 1397 (by decide +kernel) (by decide +kernel), kJ0_charAt_5068e.1, kJ0_charAt_5068e.2.1, kJ0_charAt_5068e.2.2.1, kJ0_charAt_5068e.2.2.2⟩, vJ0_charAt_5068e⟩
theorem wJ0_495 : cS RJ0 495 mJ1_charAt_3b067 2 := ⟨⟨tb_t 1401 (by decide +kernel) (by decide +kernel), kJ1_charAt_3b067.1, kJ1_charAt_3b067.2.1, kJ1_charAt_3b067.2.2.1, kJ1_charAt_3b067.2.2.2⟩, sJ1_charAt_3b067⟩
theorem wJ1_9 : cS RJ1 9 mJ0_checkIndex_df160 2 := ⟨⟨tb_t 1404 (by decide +kernel) (by decide +kernel), kJ0_checkIndex_df160.1, kJ0_checkIndex_df160.2.1, kJ0_checkIndex_df160.2.2.1, kJ0_checkIndex_df160.2.2.2⟩, sJ0_checkIndex_df160⟩
theorem wJ0_1059 : cS RJ0 1059 mJ3_checkIndex_8e157 3 := ⟨⟨tb_t 1407 (by decide +kernel) (by decide +kernel), kJ3_checkIndex_8e157.1, kJ3_checkIndex_8e157.2.1, kJ3_checkIndex_8e157.2.2.1, kJ3_checkIndex_8e157.2.2.2⟩, sJ3_checkIndex_8e157⟩
theorem wX12_229 : cS RX12 229 mX12_has 2 := ⟨⟨tb_t 1417 (by decide +kernel) (by decide +kernel), kX12_has.1, kX12_has.2.1, kX12_has.2.2.1, kX12_has.2.2.2⟩, sX12_has⟩
theorem wX12_233 : cS RX12 233 mX12_leastOf 2 := ⟨⟨tb_t 1420 (by decide +kernel) (by decide +kernel), kX12_leastOf.1, kX12_leastOf.2.1, kX12_leastOf.2.2.1, kX12_leastOf.2.2.2⟩, sX12_leastOf⟩
theorem wX12_236 : cS RX12 236 mX12_mostOf 2 := ⟨⟨tb_t 1423 (by decide +kernel) (by decide +kernel), kX12_mostOf.1, kX12_mostOf.2.1, kX12_mostOf.2.2.1, kX12_mostOf.2.2.2⟩, sX12_mostOf⟩
theorem wX12_239 : cV RX12 239 mX12_number 2 := ⟨⟨tb_t 1426 (by decide +kernel) (by decide +kernel), kX12_number.1, kX12_number.2.1, kX12_number.2.2.1, kX12_number.2.2.2⟩, vX12_number⟩
theorem wX12_168 : cV RX12 168 mX12_isDigit 0 := ⟨⟨tb_t 1430 (by decide +kernel) (by decide +kernel), kX12_isDigit.1, kX12_isDigit.2.1, kX12_isDigit.2.2.1, kX12_isDigit.2.2.2⟩, vX12_isDigit⟩
theorem wX12_214 : cV RX12 214 mX12_here 0 := ⟨⟨tb_t 1434 (by decide +kernel) (by decide +kernel), kX12_here.1, kX12_here.2.1, kX12_here.2.2.1, kX12_here.2.2.2⟩, vX12_here⟩
theorem wX12_264 : cV RX12 264 mX12_isWhole 0 := ⟨⟨tb_t 1440 (by decide +kernel) (by decide +kernel), kX12_isWhole.1, kX12_isWhole.2.1, kX12_isWhole.2.2.1, kX12_isWhole.2.2.2⟩, vX12_isWhole⟩
theorem wX12_280 : cV RX12 280 mX12_goThrough 3 := ⟨⟨tb_t 1444 (by decide +kernel) (by decide +kernel), kX12_goThrough.1, kX12_goThrough.2.1, kX12_goThrough.2.2.1, kX12_goThrough.2.2.2⟩, vX12_goThrough⟩
theorem wX12_211 : cV RX12 211 mX12_clause 0 := ⟨⟨tb_t 1448 (by decide +kernel) (by decide +kernel), kX12_clause.1, kX12_clause.2.1, kX12_clause.2.2.1, kX12_clause.2.2.2⟩, vX12_clause⟩
theorem wX12_154 : cS RX12 154 mX12_isAmong 2 := ⟨⟨tb_t 1452 (by decide +kernel) (by decide +kernel), kX12_isAmong.1, kX12_isAmong.2.1, kX12_isAmong.2.2.1, kX12_isAmong.2.2.2⟩, sX12_isAmong⟩
theorem wX12_164 : cV RX12 164 mX12_takes 1 := ⟨⟨tb_t 1455 (by decide +kernel) (by decide +kernel), kX12_takes.1, kX12_takes.2.1, kX12_takes.2.2.1, kX12_takes.2.2.2⟩, vX12_takes⟩
theorem wX12_187 : cV RX12 187 mX12_condition 2 := ⟨⟨tb_t 1459 (by decide +kernel) (by decide +kernel), kX12_condition.1, kX12_condition.2.1, kX12_condition.2.2.1, kX12_condition.2.2.2⟩, vX12_condition⟩
theorem wX12_194 : cV RX12 194 mX12_part 2 := ⟨⟨tb_t 1463 (by decide +kernel) (by decide +kernel), kX12_part.1, kX12_part.2.1, kX12_part.2.2.1, kX12_part.2.2.2⟩, vX12_part⟩
theorem wX12_191 : cV RX12 191 mX12_compares 2 := ⟨⟨tb_t 1467 (by decide +kernel) (by decide +kernel), kX12_compares.1, kX12_compares.2.1, kX12_compares.2.2.1, kX12_compares.2.2.2⟩, vX12_compares⟩
theorem wX12_161 : cV RX12 161 mX12_sum 0 := ⟨⟨tb_t 1471 (by decide +kernel) (by decide +kernel), kX12_sum.1, kX12_sum.2.1, kX12_sum.2.2.1, kX12_sum.2.2.2⟩, vX12_sum⟩
theorem wX12_178 : cV RX12 178 mX12_term 0 := ⟨⟨tb_t 1475 (by decide +kernel) (by decide +kernel), kX12_term.1, kX12_term.2.1, kX12_term.2.2.1, kX12_term.2.2.2⟩, vX12_term⟩
theorem wX12_171 : cV RX12 171 mX12_atom 0 := ⟨⟨tb_t 1479 (by decide +kernel) (by decide +kernel), kX12_atom.1, kX12_atom.2.1, kX12_atom.2.2.1, kX12_atom.2.2.2⟩, vX12_atom⟩
theorem wX12_158 : cV RX12 158 mX12_goesIn 0 := ⟨⟨tb_t 1483 (by decide +kernel) (by decide +kernel), kX12_goesIn.1, kX12_goesIn.2.1, kX12_goesIn.2.2.1, kX12_goesIn.2.2.2⟩, vX12_goesIn⟩
theorem wX12_174 : cS RX12 174 mX12_within 1 := ⟨⟨tb_t 1487 (by decide +kernel) (by decide +kernel), kX12_within.1, kX12_within.2.1, kX12_within.2.2.1, kX12_within.2.2.2⟩, sX12_within⟩
theorem lX12_141 : Jvm.Cond.constantLong RX12 141 (-1000000) ∈ tb := tb_t 1490 (by decide +kernel) (by decide +kernel)
theorem lX12_143 : Jvm.Cond.constantLong RX12 143 (1000000) ∈ tb := tb_t 1491 (by decide +kernel) (by decide +kernel)
theorem wX12_145 : mL RX12 145 Lib.MathLoose.min_long.x Lib.MathLoose.min_long.code 4 .long := ⟨tb_t 1492 (by decide +kernel) (by decide +kernel), tb_t 1493 (by decide +kernel) (by decide +kernel), tb_t 15 (by decide +kernel) (by decide +kernel), tb_t 1494 (by decide +kernel) (by decide +kernel)⟩
theorem wX12_151 : mL RX12 151 Lib.MathLoose.max_long.x Lib.MathLoose.max_long.code 4 .long := ⟨tb_t 1495 (by decide +kernel) (by decide +kernel), tb_t 1496 (by decide +kernel) (by decide +kernel), tb_t 15 (by decide +kernel) (by decide +kernel), tb_t 1497 (by decide +kernel) (by decide +kernel)⟩
theorem wX12_181 : cS RX12 181 mX12_isSign 1 := ⟨⟨tb_t 1498 (by decide +kernel) (by decide +kernel), kX12_isSign.1, kX12_isSign.2.1, kX12_isSign.2.2.1, kX12_isSign.2.2.2⟩, sX12_isSign⟩
theorem wX12_184 : cV RX12 184 mX12_unit 0 := ⟨⟨tb_t 1501 (by decide +kernel) (by decide +kernel), kX12_unit.1, kX12_unit.2.1, kX12_unit.2.2.1, kX12_unit.2.2.2⟩, vX12_unit⟩
theorem wX12_283 : cV RX12 283 mX12_readPlan 0 := ⟨⟨tb_t 1505 (by decide +kernel) (by decide +kernel), kX12_readPlan.1, kX12_readPlan.2.1, kX12_readPlan.2.2.1, kX12_readPlan.2.2.2⟩, vX12_readPlan⟩
theorem wX12_272 : cV RX12 272 mX12_readStep 1 := ⟨⟨tb_t 1509 (by decide +kernel) (by decide +kernel), kX12_readStep.1, kX12_readStep.2.1, kX12_readStep.2.2.1, kX12_readStep.2.2.2⟩, vX12_readStep⟩
theorem wX12_269 : cV RX12 269 mX12_digit 0 := ⟨⟨tb_t 1514 (by decide +kernel) (by decide +kernel), kX12_digit.1, kX12_digit.2.1, kX12_digit.2.2.1, kX12_digit.2.2.2⟩, vX12_digit⟩
theorem wX12_292 : cV RX12 292 mX12_fault 1 := ⟨⟨tb_t 1522 (by decide +kernel) (by decide +kernel), kX12_fault.1, kX12_fault.2.1, kX12_fault.2.2.1, kX12_fault.2.2.2⟩, vX12_fault⟩
theorem wX12_300 : cV RX12 300 mX12_told 2 := ⟨⟨tb_t 1523 (by decide +kernel) (by decide +kernel), kX12_told.1, kX12_told.2.1, kX12_told.2.2.1, kX12_told.2.2.2⟩, vX12_told⟩
theorem wX12_364 : cV RX12 364 mX12_isPond 1 := ⟨⟨tb_t 1535 (by decide +kernel) (by decide +kernel), kX12_isPond.1, kX12_isPond.2.1, kX12_isPond.2.2.1, kX12_isPond.2.2.2⟩, vX12_isPond⟩
theorem lX12_367 : Jvm.Cond.constantLong RX12 367 (9) ∈ tb := tb_t 1539 (by decide +kernel) (by decide +kernel)
theorem wX12_312 : cS RX12 312 mX12_water 2 := ⟨⟨tb_t 1540 (by decide +kernel) (by decide +kernel), kX12_water.1, kX12_water.2.1, kX12_water.2.2.1, kX12_water.2.2.2⟩, sX12_water⟩
theorem wX12_316 : cV RX12 316 mX12_level 2 := ⟨⟨tb_t 1543 (by decide +kernel) (by decide +kernel), kX12_level.1, kX12_level.2.1, kX12_level.2.2.1, kX12_level.2.2.2⟩, vX12_level⟩
theorem wX12_369 : cV RX12 369 mX12_isPipe 1 := ⟨⟨tb_t 1551 (by decide +kernel) (by decide +kernel), kX12_isPipe.1, kX12_isPipe.2.1, kX12_isPipe.2.2.1, kX12_isPipe.2.2.2⟩, vX12_isPipe⟩
theorem lX12_338 : Jvm.Cond.constantLong RX12 338 (5) ∈ tb := tb_t 1555 (by decide +kernel) (by decide +kernel)
theorem wX12_342 : cV RX12 342 mX12_flowOf 2 := ⟨⟨tb_t 1556 (by decide +kernel) (by decide +kernel), kX12_flowOf.1, kX12_flowOf.2.1, kX12_flowOf.2.2.1, kX12_flowOf.2.2.2⟩, vX12_flowOf⟩
theorem wX12_319 : cV RX12 319 mX12_highOf 2 := ⟨⟨tb_t 1560 (by decide +kernel) (by decide +kernel), kX12_highOf.1, kX12_highOf.2.1, kX12_highOf.2.2.1, kX12_highOf.2.2.2⟩, vX12_highOf⟩
theorem wX12_322 : cV RX12 322 mX12_otherOf 2 := ⟨⟨tb_t 1564 (by decide +kernel) (by decide +kernel), kX12_otherOf.1, kX12_otherOf.2.1, kX12_otherOf.2.2.1, kX12_otherOf.2.2.2⟩, vX12_otherOf⟩
theorem wX12_325 : cV RX12 325 mX12_worthNow 0 := ⟨⟨tb_t 1568 (by decide +kernel) (by decide +kernel), kX12_worthNow.1, kX12_worthNow.2.1, kX12_worthNow.2.2.1, kX12_worthNow.2.2.2⟩, vX12_worthNow⟩
theorem lX12_332 : Jvm.Cond.constantLong RX12 332 (110) ∈ tb := tb_t 1572 (by decide +kernel) (by decide +kernel)
theorem lX12_334 : Jvm.Cond.constantLong RX12 334 (10) ∈ tb := tb_t 1573 (by decide +kernel) (by decide +kernel)
theorem lX12_336 : Jvm.Cond.constantLong RX12 336 (100) ∈ tb := tb_t 1574 (by decide +kernel) (by decide +kernel)
theorem lX12_340 : Jvm.Cond.constantLong RX12 340 (8191) ∈ tb := tb_t 1575 (by decide +kernel) (by decide +kernel)
theorem wX12_328 : mL RX12 328 Lib.Math.max.name Lib.Math.max.code 2 .int := ⟨tb_t 1576 (by decide +kernel) (by decide +kernel), tb_t 455 (by decide +kernel) (by decide +kernel), tb_t 15 (by decide +kernel) (by decide +kernel), tb_t 456 (by decide +kernel) (by decide +kernel)⟩
theorem wX12_330 : mL RX12 330 Lib.Math.min.name Lib.Math.min.code 2 .int := ⟨tb_t 1577 (by decide +kernel) (by decide +kernel), tb_t 415 (by decide +kernel) (by decide +kernel), tb_t 15 (by decide +kernel) (by decide +kernel), tb_t 416 (by decide +kernel) (by decide +kernel)⟩
theorem lX12_372 : Jvm.Cond.constantLong RX12 372 (99) ∈ tb := tb_t 1586 (by decide +kernel) (by decide +kernel)
theorem wX12_377 : cV RX12 377 mX12_canTurn 3 := ⟨⟨tb_t 1591 (by decide +kernel) (by decide +kernel), kX12_canTurn.1, kX12_canTurn.2.1, kX12_canTurn.2.2.1, kX12_canTurn.2.2.2⟩, vX12_canTurn⟩
theorem wX12_381 : cV RX12 381 mX12_remember 0 := ⟨⟨tb_t 1595 (by decide +kernel) (by decide +kernel), kX12_remember.1, kX12_remember.2.1, kX12_remember.2.2.1, kX12_remember.2.2.2⟩, vX12_remember⟩
theorem wX12_384 : cV RX12 384 mX12_canPour 3 := ⟨⟨tb_t 1603 (by decide +kernel) (by decide +kernel), kX12_canPour.1, kX12_canPour.2.1, kX12_canPour.2.2.1, kX12_canPour.2.2.2⟩, vX12_canPour⟩
theorem wX12_388 : cV RX12 388 mX12_mayPass 3 := ⟨⟨tb_t 1615 (by decide +kernel) (by decide +kernel), kX12_mayPass.1, kX12_mayPass.2.1, kX12_mayPass.2.2.1, kX12_mayPass.2.2.2⟩, vX12_mayPass⟩
theorem wX12_391 : cV RX12 391 mX12_goDay 2 := ⟨⟨tb_t 1619 (by decide +kernel) (by decide +kernel), kX12_goDay.1, kX12_goDay.2.1, kX12_goDay.2.2.1, kX12_goDay.2.2.2⟩, vX12_goDay⟩
theorem wX12_349 : cV RX12 349 mX12_flows 1 := ⟨⟨tb_t 1623 (by decide +kernel) (by decide +kernel), kX12_flows.1, kX12_flows.2.1, kX12_flows.2.2.1, kX12_flows.2.2.2⟩, vX12_flows⟩
theorem wX12_345 : cS RX12 345 mX12_swims 5 := ⟨⟨tb_t 1627 (by decide +kernel) (by decide +kernel), kX12_swims.1, kX12_swims.2.1, kX12_swims.2.2.1, kX12_swims.2.2.2⟩, sX12_swims⟩
theorem wX12_353 : cV RX12 353 mX12_breeds 2 := ⟨⟨tb_t 1630 (by decide +kernel) (by decide +kernel), kX12_breeds.1, kX12_breeds.2.1, kX12_breeds.2.2.1, kX12_breeds.2.2.2⟩, vX12_breeds⟩
theorem wX12_357 : cV RX12 357 mX12_sumIn 2 := ⟨⟨tb_t 1634 (by decide +kernel) (by decide +kernel), kX12_sumIn.1, kX12_sumIn.2.1, kX12_sumIn.2.2.1, kX12_sumIn.2.2.2⟩, vX12_sumIn⟩
theorem wX12_360 : cV RX12 360 mX12_bareIn 1 := ⟨⟨tb_t 1638 (by decide +kernel) (by decide +kernel), kX12_bareIn.1, kX12_bareIn.2.1, kX12_bareIn.2.2.1, kX12_bareIn.2.2.2⟩, vX12_bareIn⟩
theorem wX12_402 : cV RX12 402 mX12_draw 1 := ⟨⟨tb_t 1646 (by decide +kernel) (by decide +kernel), kX12_draw.1, kX12_draw.2.1, kX12_draw.2.2.1, kX12_draw.2.2.2⟩, vX12_draw⟩
theorem lX12_398 : Jvm.Cond.constantLong RX12 398 (6364136223846793005) ∈ tb := tb_t 1650 (by decide +kernel) (by decide +kernel)
theorem lX12_400 : Jvm.Cond.constantLong RX12 400 (1442695040888963407) ∈ tb := tb_t 1651 (by decide +kernel) (by decide +kernel)
theorem wX12_405 : cV RX12 405 mX12_isPlan 1 := ⟨⟨tb_t 1664 (by decide +kernel) (by decide +kernel), kX12_isPlan.1, kX12_isPlan.2.1, kX12_isPlan.2.2.1, kX12_isPlan.2.2.2⟩, vX12_isPlan⟩
theorem lX12_408 : Jvm.Cond.constant RX12 408 (-1000000) ∈ tb := tb_t 1668 (by decide +kernel) (by decide +kernel)
theorem wX12_409 : cS RX12 409 mX12_copy 2 := ⟨⟨tb_t 1673 (by decide +kernel) (by decide +kernel), kX12_copy.1, kX12_copy.2.1, kX12_copy.2.2.1, kX12_copy.2.2.2⟩, sX12_copy⟩
theorem wX12_413 : cV RX12 413 mX12_canStep 2 := ⟨⟨tb_t 1676 (by decide +kernel) (by decide +kernel), kX12_canStep.1, kX12_canStep.2.1, kX12_canStep.2.2.1, kX12_canStep.2.2.2⟩, vX12_canStep⟩
theorem wX12_417 : cV RX12 417 mX12_steps 2 := ⟨⟨tb_t 1680 (by decide +kernel) (by decide +kernel), kX12_steps.1, kX12_steps.2.1, kX12_steps.2.2.1, kX12_steps.2.2.2⟩, vX12_steps⟩
theorem wX12_420 : cV RX12 420 mX12_performs 1 := ⟨⟨tb_t 1688 (by decide +kernel) (by decide +kernel), kX12_performs.1, kX12_performs.2.1, kX12_performs.2.2.1, kX12_performs.2.2.2⟩, vX12_performs⟩
theorem lX12_423 : Jvm.Cond.constantLong RX12 423 (60) ∈ tb := tb_t 1696 (by decide +kernel) (by decide +kernel)
theorem wX12_425 : cV RX12 425 mX12_lay 2 := ⟨⟨tb_t 1697 (by decide +kernel) (by decide +kernel), kX12_lay.1, kX12_lay.2.1, kX12_lay.2.2.1, kX12_lay.2.2.2⟩, vX12_lay⟩
theorem wX12_429 : cS RX12 429 mJ6_bitCount_0f7a4 1 := ⟨⟨tb_t 1713 (by decide +kernel) (by decide +kernel), kJ6_bitCount_0f7a4.1, kJ6_bitCount_0f7a4.2.1, kJ6_bitCount_0f7a4.2.2.1, kJ6_bitCount_0f7a4.2.2.2⟩, sJ6_bitCount_0f7a4⟩
theorem wX12_434 : cV RX12 434 mX12_keepsAll 2 := ⟨⟨tb_t 1714 (by decide +kernel) (by decide +kernel), kX12_keepsAll.1, kX12_keepsAll.2.1, kX12_keepsAll.2.2.1, kX12_keepsAll.2.2.2⟩, vX12_keepsAll⟩
theorem wX12_437 : cV RX12 437 mX12_joinedBy 2 := ⟨⟨tb_t 1730 (by decide +kernel) (by decide +kernel), kX12_joinedBy.1, kX12_joinedBy.2.1, kX12_joinedBy.2.2.1, kX12_joinedBy.2.2.2⟩, vX12_joinedBy⟩
theorem wX12_440 : cV RX12 440 mX12_areApart 1 := ⟨⟨tb_t 1742 (by decide +kernel) (by decide +kernel), kX12_areApart.1, kX12_areApart.2.1, kX12_areApart.2.2.1, kX12_areApart.2.2.2⟩, vX12_areApart⟩
theorem lX12_443 : Jvm.Cond.constantLong RX12 443 (-9) ∈ tb := tb_t 1750 (by decide +kernel) (by decide +kernel)
theorem wX12_448 : cV RX12 448 mX12_isWay 1 := ⟨⟨tb_t 1755 (by decide +kernel) (by decide +kernel), kX12_isWay.1, kX12_isWay.2.1, kX12_isWay.2.2.1, kX12_isWay.2.2.2⟩, vX12_isWay⟩
theorem wX12_445 : cS RX12 445 mX12_moreBy 2 := ⟨⟨tb_t 1759 (by decide +kernel) (by decide +kernel), kX12_moreBy.1, kX12_moreBy.2.1, kX12_moreBy.2.2.1, kX12_moreBy.2.2.2⟩, sX12_moreBy⟩
theorem wX12_451 : cV RX12 451 mX12_secret 1 := ⟨⟨tb_t 1766 (by decide +kernel) (by decide +kernel), kX12_secret.1, kX12_secret.2.1, kX12_secret.2.2.1, kX12_secret.2.2.2⟩, vX12_secret⟩
theorem wX12_454 : mL RX12 454 Lib.Math.abs.name Lib.Math.abs.code 1 .int := ⟨tb_t 1771 (by decide +kernel) (by decide +kernel), tb_t 1017 (by decide +kernel) (by decide +kernel), tb_t 15 (by decide +kernel) (by decide +kernel), tb_t 1018 (by decide +kernel) (by decide +kernel)⟩
theorem wX12_457 : cV RX12 457 mX12_isFeud 5 := ⟨⟨tb_t 1776 (by decide +kernel) (by decide +kernel), kX12_isFeud.1, kX12_isFeud.2.1, kX12_isFeud.2.2.1, kX12_isFeud.2.2.2⟩, vX12_isFeud⟩
theorem wX12_461 : cV RX12 461 mX12_feudOf 7 := ⟨⟨tb_t 1780 (by decide +kernel) (by decide +kernel), kX12_feudOf.1, kX12_feudOf.2.1, kX12_feudOf.2.2.1, kX12_feudOf.2.2.2⟩, vX12_feudOf⟩
theorem wX12_465 : cS RX12 465 mJ6_numberOfTrailingZeros_0f7a4 1 := ⟨⟨tb_t 1808 (by decide +kernel) (by decide +kernel), kJ6_numberOfTrailingZeros_0f7a4.1, kJ6_numberOfTrailingZeros_0f7a4.2.1, kJ6_numberOfTrailingZeros_0f7a4.2.2.1, kJ6_numberOfTrailingZeros_0f7a4.2.2.2⟩, sJ6_numberOfTrailingZeros_0f7a4⟩
theorem lJ6_264 : Jvm.Cond.constant RJ6 264 (65536) ∈ tb := tb_t 1811 (by decide +kernel) (by decide +kernel)
theorem wX12_468 : cV RX12 468 mX12_sumTold 1 := ⟨⟨tb_t 1832 (by decide +kernel) (by decide +kernel), kX12_sumTold.1, kX12_sumTold.2.1, kX12_sumTold.2.2.1, kX12_sumTold.2.2.2⟩, vX12_sumTold⟩
theorem gJ0_9 : Cond.fieldLink RJ0 9 "java/lang/String" "value" "[B" ∈ tb := tb_t 1854 (by decide +kernel) (by decide +kernel)
theorem gJ0_15 : Cond.fieldLink RJ0 15 "java/lang/String" "coder" "B" ∈ tb := tb_t 1855 (by decide +kernel) (by decide +kernel)
