/-! FACTS of the JDK's methods on Strings, by program -/
def MJ0_length_8abf5 : Ms := (yJ0_length_8abf5, cJ0_length_8abf5, 1, (some .int), [])
set_option maxRecDepth 100000 in
theorem kJ0_length_8abf5 : mkV MJ0_length_8abf5 0 := ⟨⟨List.mem_of_getElem? (i := 564) (by rfl), by decide +kernel⟩, by decide +kernel⟩
theorem sJ0_length_8abf5_0 : dsOk (MN MJ0_length_8abf5).cls (MB MJ0_length_8abf5) 0 [(.aload_n 0, 0, 0, 0)] 1 = true := by decide +kernel
theorem dJ0_length_8abf5_1 : decode (MB MJ0_length_8abf5) 1 = .ok (.getfield 9, 3) := by decide +kernel
theorem sJ0_length_8abf5_4 : dsOk (MN MJ0_length_8abf5).cls (MB MJ0_length_8abf5) 4 [(.arraylength, 0, 0, 0), (.aload_n 0, 0, 0, 0)] 6 = true := by decide +kernel
theorem dJ0_length_8abf5_6 : decode (MB MJ0_length_8abf5) 6 = .ok (.invokevirtual 335, 3) := by decide +kernel
theorem sJ0_length_8abf5_9 : dsOk (MN MJ0_length_8abf5).cls (MB MJ0_length_8abf5) 9 [(.ishr, 0, 0, 0)] 10 = true := by decide +kernel
theorem dJ0_length_8abf5_10 : decode (MB MJ0_length_8abf5) 10 = .ok (.ireturn, 1) := by decide +kernel
def MJ0_coder_7d493 : Ms := (yJ0_coder_7d493, cJ0_coder_7d493, 1, (some .byte), [])
set_option maxRecDepth 100000 in
theorem kJ0_coder_7d493 : mkV MJ0_coder_7d493 0 := ⟨⟨List.mem_of_getElem? (i := 568) (by rfl), by decide +kernel⟩, by decide +kernel⟩
theorem dJ0_coder_7d493_0 : decode (MB MJ0_coder_7d493) 0 = .ok (.getstatic 38, 3) := by decide +kernel
theorem dJ0_coder_7d493_3 : decode (MB MJ0_coder_7d493) 3 = .ok (.ifCond .eq 10, 3) := by decide +kernel
theorem sJ0_coder_7d493_6 : dsOk (MN MJ0_coder_7d493).cls (MB MJ0_coder_7d493) 6 [(.aload_n 0, 0, 0, 0)] 7 = true := by decide +kernel
theorem dJ0_coder_7d493_7 : decode (MB MJ0_coder_7d493) 7 = .ok (.getfield 15, 3) := by decide +kernel
theorem dJ0_coder_7d493_10 : decode (MB MJ0_coder_7d493) 10 = .ok (.goto 4, 3) := by decide +kernel
theorem sJ0_coder_7d493_13 : dsOk (MN MJ0_coder_7d493).cls (MB MJ0_coder_7d493) 13 [(.iconst 1, 0, 0, 0)] 14 = true := by decide +kernel
theorem dJ0_coder_7d493_14 : decode (MB MJ0_coder_7d493) 14 = .ok (.ireturn, 1) := by decide +kernel
def MJ0_charAt_5068e : Ms := (yJ0_charAt_5068e, cJ0_charAt_5068e, 2, (some .char), [])
set_option maxRecDepth 100000 in
theorem kJ0_charAt_5068e : mkV MJ0_charAt_5068e 1 := ⟨⟨List.mem_of_getElem? (i := 574) (by rfl), by decide +kernel⟩, by decide +kernel⟩
theorem sJ0_charAt_5068e_0 : dsOk (MN MJ0_charAt_5068e).cls (MB MJ0_charAt_5068e) 0 [(.aload_n 0, 0, 0, 0)] 1 = true := by decide +kernel
theorem dJ0_charAt_5068e_1 : decode (MB MJ0_charAt_5068e) 1 = .ok (.invokevirtual 492, 3) := by decide +kernel
theorem dJ0_charAt_5068e_4 : decode (MB MJ0_charAt_5068e) 4 = .ok (.ifCond .eq 12, 3) := by decide +kernel
theorem sJ0_charAt_5068e_7 : dsOk (MN MJ0_charAt_5068e).cls (MB MJ0_charAt_5068e) 7 [(.aload_n 0, 0, 0, 0)] 8 = true := by decide +kernel
theorem dJ0_charAt_5068e_8 : decode (MB MJ0_charAt_5068e) 8 = .ok (.getfield 9, 3) := by decide +kernel
theorem sJ0_charAt_5068e_11 : dsOk (MN MJ0_charAt_5068e).cls (MB MJ0_charAt_5068e) 11 [(.iload_n 1, 0, 0, 0)] 12 = true := by decide +kernel
theorem dJ0_charAt_5068e_12 : decode (MB MJ0_charAt_5068e) 12 = .ok (.invokestatic 495, 3) := by decide +kernel
theorem dJ0_charAt_5068e_15 : decode (MB MJ0_charAt_5068e) 15 = .ok (.ireturn, 1) := by decide +kernel
theorem sJ0_charAt_5068e_16 : dsOk (MN MJ0_charAt_5068e).cls (MB MJ0_charAt_5068e) 16 [(.aload_n 0, 0, 0, 0)] 17 = true := by decide +kernel
theorem dJ0_charAt_5068e_17 : decode (MB MJ0_charAt_5068e) 17 = .ok (.getfield 9, 3) := by decide +kernel
theorem sJ0_charAt_5068e_20 : dsOk (MN MJ0_charAt_5068e).cls (MB MJ0_charAt_5068e) 20 [(.iload_n 1, 0, 0, 0)] 21 = true := by decide +kernel
theorem dJ0_charAt_5068e_21 : decode (MB MJ0_charAt_5068e) 21 = .ok (.invokestatic 498, 3) := by decide +kernel
theorem dJ0_charAt_5068e_24 : decode (MB MJ0_charAt_5068e) 24 = .ok (.ireturn, 1) := by decide +kernel
def MJ0_isLatin1_aae02 : Ms := (yJ0_isLatin1_aae02, cJ0_isLatin1_aae02, 1, (some .boolean), [])
set_option maxRecDepth 100000 in
theorem kJ0_isLatin1_aae02 : mkV MJ0_isLatin1_aae02 0 := ⟨⟨List.mem_of_getElem? (i := 578) (by rfl), by decide +kernel⟩, by decide +kernel⟩
theorem dJ0_isLatin1_aae02_0 : decode (MB MJ0_isLatin1_aae02) 0 = .ok (.getstatic 38, 3) := by decide +kernel
theorem dJ0_isLatin1_aae02_3 : decode (MB MJ0_isLatin1_aae02) 3 = .ok (.ifCond .eq 14, 3) := by decide +kernel
theorem sJ0_isLatin1_aae02_6 : dsOk (MN MJ0_isLatin1_aae02).cls (MB MJ0_isLatin1_aae02) 6 [(.aload_n 0, 0, 0, 0)] 7 = true := by decide +kernel
theorem dJ0_isLatin1_aae02_7 : decode (MB MJ0_isLatin1_aae02) 7 = .ok (.getfield 15, 3) := by decide +kernel
theorem dJ0_isLatin1_aae02_10 : decode (MB MJ0_isLatin1_aae02) 10 = .ok (.ifCond .ne 7, 3) := by decide +kernel
theorem sJ0_isLatin1_aae02_13 : dsOk (MN MJ0_isLatin1_aae02).cls (MB MJ0_isLatin1_aae02) 13 [(.iconst 1, 0, 0, 0)] 14 = true := by decide +kernel
theorem dJ0_isLatin1_aae02_14 : decode (MB MJ0_isLatin1_aae02) 14 = .ok (.goto 4, 3) := by decide +kernel
theorem sJ0_isLatin1_aae02_17 : dsOk (MN MJ0_isLatin1_aae02).cls (MB MJ0_isLatin1_aae02) 17 [(.iconst 0, 0, 0, 0)] 18 = true := by decide +kernel
theorem dJ0_isLatin1_aae02_18 : decode (MB MJ0_isLatin1_aae02) 18 = .ok (.ireturn, 1) := by decide +kernel
def MJ0_checkIndex_df160 : Ms := (yJ0_checkIndex_df160, cJ0_checkIndex_df160, 2, none, [])
set_option maxRecDepth 100000 in
theorem kJ0_checkIndex_df160 : mkS MJ0_checkIndex_df160 2 := ⟨⟨List.mem_of_getElem? (i := 584) (by rfl), by decide +kernel⟩, by decide +kernel⟩
theorem sJ0_checkIndex_df160_0 : dsOk (MN MJ0_checkIndex_df160).cls (MB MJ0_checkIndex_df160) 0 [(.iload_n 0, 0, 0, 0), (.iload_n 1, 0, 0, 0)] 2 = true := by decide +kernel
theorem dJ0_checkIndex_df160_2 : decode (MB MJ0_checkIndex_df160) 2 = .ok (.getstatic 1053, 3) := by decide +kernel
theorem dJ0_checkIndex_df160_5 : decode (MB MJ0_checkIndex_df160) 5 = .ok (.invokestatic 1059, 3) := by decide +kernel
theorem sJ0_checkIndex_df160_8 : dsOk (MN MJ0_checkIndex_df160).cls (MB MJ0_checkIndex_df160) 8 [(.pop, 0, 0, 0)] 9 = true := by decide +kernel
theorem dJ0_checkIndex_df160_9 : decode (MB MJ0_checkIndex_df160) 9 = .ok (.return_, 1) := by decide +kernel
def MJ1_charAt_3b067 : Ms := (yJ1_charAt_3b067, cJ1_charAt_3b067, 2, (some .char), [])
set_option maxRecDepth 100000 in
theorem kJ1_charAt_3b067 : mkS MJ1_charAt_3b067 2 := ⟨⟨List.mem_of_getElem? (i := 581) (by rfl), by decide +kernel⟩, by decide +kernel⟩
theorem sJ1_charAt_3b067_0 : dsOk (MN MJ1_charAt_3b067).cls (MB MJ1_charAt_3b067) 0 [(.iload_n 1, 0, 0, 0), (.aload_n 0, 0, 0, 0), (.arraylength, 0, 0, 0)] 3 = true := by decide +kernel
theorem dJ1_charAt_3b067_3 : decode (MB MJ1_charAt_3b067) 3 = .ok (.invokestatic 9, 3) := by decide +kernel
theorem sJ1_charAt_3b067_6 : dsOk (MN MJ1_charAt_3b067).cls (MB MJ1_charAt_3b067) 6 [(.aload_n 0, 0, 0, 0), (.iload_n 1, 0, 0, 0), (.baload, 0, 0, 0), (.sipush 255, 0, 0, 255), (.iand, 0, 0, 0), (.i2c, 0, 0, 0)] 14 = true := by decide +kernel
theorem dJ1_charAt_3b067_14 : decode (MB MJ1_charAt_3b067) 14 = .ok (.ireturn, 1) := by decide +kernel
def MJ3_checkIndex_8e157 : Ms := (yJ3_checkIndex_8e157, cJ3_checkIndex_8e157, 3, (some .int), [])
set_option maxRecDepth 100000 in
theorem kJ3_checkIndex_8e157 : mkS MJ3_checkIndex_8e157 3 := ⟨⟨List.mem_of_getElem? (i := 589) (by rfl), by decide +kernel⟩, by decide +kernel⟩
theorem sJ3_checkIndex_8e157_0 : dsOk (MN MJ3_checkIndex_8e157).cls (MB MJ3_checkIndex_8e157) 0 [(.iload_n 0, 0, 0, 0)] 1 = true := by decide +kernel
theorem dJ3_checkIndex_8e157_1 : decode (MB MJ3_checkIndex_8e157) 1 = .ok (.ifCond .lt 8, 3) := by decide +kernel
theorem sJ3_checkIndex_8e157_4 : dsOk (MN MJ3_checkIndex_8e157).cls (MB MJ3_checkIndex_8e157) 4 [(.iload_n 0, 0, 0, 0), (.iload_n 1, 0, 0, 0)] 6 = true := by decide +kernel
theorem dJ3_checkIndex_8e157_6 : decode (MB MJ3_checkIndex_8e157) 6 = .ok (.if_icmp .lt 10, 3) := by decide +kernel
theorem sJ3_checkIndex_8e157_9 : dsOk (MN MJ3_checkIndex_8e157).cls (MB MJ3_checkIndex_8e157) 9 [(.aload_n 2, 0, 0, 0), (.iload_n 0, 0, 0, 0), (.iload_n 1, 0, 0, 0)] 12 = true := by decide +kernel
theorem dJ3_checkIndex_8e157_12 : decode (MB MJ3_checkIndex_8e157) 12 = .ok (.invokestatic 95, 3) := by decide +kernel
theorem dJ3_checkIndex_8e157_15 : decode (MB MJ3_checkIndex_8e157) 15 = .ok (.athrow, 1) := by decide +kernel
theorem sJ3_checkIndex_8e157_16 : dsOk (MN MJ3_checkIndex_8e157).cls (MB MJ3_checkIndex_8e157) 16 [(.iload_n 0, 0, 0, 0)] 17 = true := by decide +kernel
theorem dJ3_checkIndex_8e157_17 : decode (MB MJ3_checkIndex_8e157) 17 = .ok (.ireturn, 1) := by decide +kernel
theorem lRJ0_335 : wM.any (isML RJ0 335 yJ0_coder_7d493) = true := by decide +kernel
theorem lRJ0_492 : wM.any (isML RJ0 492 yJ0_isLatin1_aae02) = true := by decide +kernel
theorem lRJ0_495 : wM.any (isML RJ0 495 yJ1_charAt_3b067) = true := by decide +kernel
theorem lRJ0_498 : wM.any (isML RJ0 498 yJ2_charAt_3b067) = true := by decide +kernel
theorem lRJ0_1059 : wM.any (isML RJ0 1059 yJ3_checkIndex_8e157) = true := by decide +kernel
theorem lRJ1_9 : wM.any (isML RJ1 9 yJ0_checkIndex_df160) = true := by decide +kernel
-- no link jdk/internal/util/Preconditions 95
